section CC13
variable {sa : Nat → Nat} {l : Launch} {dC : Nat → ClassId} {dI : Nat → Nat → Nat} {cI cJ cZ cO : ClassId} {EE ws : va_W} {ha cA hA nA : Nat → Nat} {ed : Nat} {td : Nat} {pr up dn : Int} {dv rw : Nat → Int} {sd mc : Int} {n : Nat} {mo sh co : Int} {Ca Cz K St Ex Am Bi As BL AL He Co : Nat → Int}
set_option maxHeartbeats 4000000 in
set_option maxRecDepth 100000 in
theorem cx_X3_checkRange (hl : l.stackTraces = false) {a b d : Int} (hbad : ¬ (b ≤ a ∧ a ≤ d)) (hra : iR a) (hrb : iR b) (hrd : iR d) : jj_X (EVT sa) (dC, dI) vwCl [(cI, .int), (cJ, .long), (cZ, .boolean), (cO, .object "java/lang/Object")] l yX3_checkRange (Cond.code yX3_checkRange cX3_checkRange 3 none :: lw_U) ({ frames := 6, cells := 1, slots := 6, locals := 100 } : Room) [.int (iI a), .int (iI b), .int (iI d)] (ws) "java/lang/IllegalArgumentException" := by
  refine jj_startX (cc := cX3_checkRange) (nL := 3) (ret := none) (lv := [(0, .int (iI a)), (1, .int (iI b)), (2, .int (iI d))]) (hEVT sa) (by decide) rfl (Nat.le_of_ble_eq_true rfl) rfl ?_
  intro p9 e9 s9 m9 a9 b9 me9 c9 A9 C1 hx0
  have C0 : jj_C p9 s9 m9 a9 me9 c9 (dC, dI) vwCl A9 3 cX3_checkRange "Strikehall" lw_U _ (EVT sa) := jj_toU C1
  have hw := C0.2.2.2.2.1
  have hE := C0.2.2.2.2.2.2.2.1
  refine jj_iload_n C0 0 rfl dX3_checkRange_0 ?_
  refine jj_iload_n C0 1 rfl dX3_checkRange_1 ?_
  refine jj_icmp_lt C0 (by omega) (by omega) dX3_checkRange_2 (tgt := 10) (by decide) (fun c_1 => ?_) (fun c_1 => ?_)
  · exact jj_throwS (names := ["java/lang/RuntimeException", "java/lang/Exception"]) (text := "out of range") (sa := sa 251) C0 hl hx0 (by decide +kernel) (by decide +kernel) (hw _ hU_181) (hw _ hU_52) (hE.2.1 (251, "out of range") (by decide)) (wx_A_hat hw hE.2.2.1) wx_A_o hE.2.2.2.1 hE.2.2.2.2 dX3_checkRange_10 dX3_checkRange_13 dX3_checkRange_14 dX3_checkRange_16 dX3_checkRange_19 (by decide) (Nat.le_of_ble_eq_true rfl) (by decide) (by decide) (by decide) (by decide)
  · refine jj_iload_n C0 0 rfl dX3_checkRange_5 ?_
    refine jj_iload_n C0 2 rfl dX3_checkRange_6 ?_
    refine jj_icmp_le C0 (by omega) (by omega) dX3_checkRange_7 (tgt := 20) (by decide) (fun c_2 => ?_) (fun c_2 => ?_)
    · exfalso
      omega
    · exact jj_throwS (names := ["java/lang/RuntimeException", "java/lang/Exception"]) (text := "out of range") (sa := sa 251) C0 hl hx0 (by decide +kernel) (by decide +kernel) (hw _ hU_181) (hw _ hU_52) (hE.2.1 (251, "out of range") (by decide)) (wx_A_hat hw hE.2.2.1) wx_A_o hE.2.2.2.1 hE.2.2.2.2 dX3_checkRange_10 dX3_checkRange_13 dX3_checkRange_14 dX3_checkRange_16 dX3_checkRange_19 (by decide) (Nat.le_of_ble_eq_true rfl) (by decide) (by decide) (by decide) (by decide)
set_option maxHeartbeats 4000000 in
set_option maxRecDepth 100000 in
theorem cx_X3_checkCustomer (hl : l.stackTraces = false) {x : Int} (hbad : ¬ (0 ≤ x ∧ x ≤ 5)) (hrx : iR x) : jj_X (EVT sa) (dC, dI) vwCl [(cI, .int), (cJ, .long), (cZ, .boolean), (cO, .object "java/lang/Object")] l yX3_checkCustomer (Cond.code yX3_checkCustomer cX3_checkCustomer 1 none :: lw_U) ({ frames := 6, cells := 1, slots := 6, locals := 100 } : Room) [.int (iI x)] (ws) "java/lang/IndexOutOfBoundsException" := by
  refine jj_startX (cc := cX3_checkCustomer) (nL := 1) (ret := none) (lv := [(0, .int (iI x))]) (hEVT sa) (by decide) rfl (Nat.le_of_ble_eq_true rfl) rfl ?_
  intro p9 e9 s9 m9 a9 b9 me9 c9 A9 C1 hx0
  have C0 : jj_C p9 s9 m9 a9 me9 c9 (dC, dI) vwCl A9 1 cX3_checkCustomer "Strikehall" lw_U _ (EVT sa) := jj_toU C1
  have hw := C0.2.2.2.2.1
  have hE := C0.2.2.2.2.2.2.2.1
  refine jj_iload_n C0 0 rfl dX3_checkCustomer_0 ?_
  refine jj_if_lt C0 (by omega) dX3_checkCustomer_1 (tgt := 10) (by decide) (fun c_1 => ?_) (fun c_1 => ?_)
  · exact jj_throwS (names := ["java/lang/RuntimeException", "java/lang/Exception"]) (text := "no such customer") (sa := sa 253) C0 hl hx0 (by decide +kernel) (by decide +kernel) (hw _ hU_485) (hw _ hU_61) (hE.2.1 (253, "no such customer") (by decide)) (wx_I_hat hw hE.2.2.1) wx_I_o hE.2.2.2.1 hE.2.2.2.2 dX3_checkCustomer_10 dX3_checkCustomer_13 dX3_checkCustomer_14 dX3_checkCustomer_16 dX3_checkCustomer_19 (by decide) (Nat.le_of_ble_eq_true rfl) (by decide) (by decide) (by decide) (by decide)
  · refine jj_iload_n C0 0 rfl dX3_checkCustomer_4 ?_
    refine jj_bipush C0 dX3_checkCustomer_5 (by decide) ?_
    refine jj_icmp_lt C0 (by omega) (by omega) dX3_checkCustomer_7 (tgt := 20) (by decide) (fun c_2 => ?_) (fun c_2 => ?_)
    · exfalso
      omega
    · exact jj_throwS (names := ["java/lang/RuntimeException", "java/lang/Exception"]) (text := "no such customer") (sa := sa 253) C0 hl hx0 (by decide +kernel) (by decide +kernel) (hw _ hU_485) (hw _ hU_61) (hE.2.1 (253, "no such customer") (by decide)) (wx_I_hat hw hE.2.2.1) wx_I_o hE.2.2.2.1 hE.2.2.2.2 dX3_checkCustomer_10 dX3_checkCustomer_13 dX3_checkCustomer_14 dX3_checkCustomer_16 dX3_checkCustomer_19 (by decide) (Nat.le_of_ble_eq_true rfl) (by decide) (by decide) (by decide) (by decide)
set_option maxHeartbeats 4000000 in
set_option maxRecDepth 100000 in
theorem cx_X3_placeOf (hl : l.stackTraces = false) {x : Int} (hbad : ¬ (-1 ≤ x ∧ x ≤ 5)) (hrx : iR x) : jj_X (EVT sa) (dC, dI) vwCl [(cI, .int), (cJ, .long), (cZ, .boolean), (cO, .object "java/lang/Object")] l yX3_placeOf (Cond.code yX3_placeOf cX3_placeOf 1 (some .int) :: lw_U) ({ frames := 7, cells := 1, slots := 6, locals := 120 } : Room) [.int (iI x)] (ws) "java/lang/IndexOutOfBoundsException" := by
  refine jj_startX (cc := cX3_placeOf) (nL := 1) (ret := (some .int)) (lv := [(0, .int (iI x))]) (hEVT sa) (by decide) rfl (Nat.le_of_ble_eq_true rfl) rfl ?_
  intro p9 e9 s9 m9 a9 b9 me9 c9 A9 C1 hx0
  have C0 : jj_C p9 s9 m9 a9 me9 c9 (dC, dI) vwCl A9 1 cX3_placeOf "Strikehall" lw_U _ (EVT sa) := jj_toU C1
  have hw := C0.2.2.2.2.1
  have hE := C0.2.2.2.2.2.2.2.1
  refine jj_iload_n C0 0 rfl dX3_placeOf_0 ?_
  refine jj_iconst C0 dX3_placeOf_1 ?_
  refine jj_icmp_ne C0 (by omega) (by omega) dX3_placeOf_2 (tgt := 8) (by decide) (fun c_1 => ?_) (fun c_1 => ?_)
  · refine jj_iload_n C0 0 rfl dX3_placeOf_8 ?_
    by_cases g9 : 0 ≤ x ∧ x ≤ 5
    · exact absurd hbad (by omega)
    · skip
      exact jj_callXS C0 hx0 (cx_X3_checkCustomer hl (by omega) (by omega)) (cwS 1 hw (lw_gS hU_565 hU_566 hU_43 hU_567) rfl rfl rfl (by decide +kernel) ⟨Nat.le_of_ble_eq_true rfl, Nat.le_of_ble_eq_true rfl⟩) rfl rfl (Nat.le_of_ble_eq_true rfl) ⟨by decide, by decide⟩ ⟨by decide, by decide⟩ dX3_placeOf_9
  · exfalso
    omega
set_option maxHeartbeats 4000000 in
set_option maxRecDepth 100000 in
theorem cx_X3_contractOf (hl : l.stackTraces = false) {z : Int} (hbad : ¬ (0 ≤ z ∧ z < (n : Int))) (hrz : iR z) (hn : n ≤ 12) : jj_X (EVT sa) (dC, dI) vwCl [(cI, .int), (cJ, .long), (cZ, .boolean), (cO, .object "java/lang/Object")] l yX3_contractOf (Cond.code yX3_contractOf cX3_contractOf 2 (some (.object "Strikehall$Contract")) :: lw_U) ({ frames := 6, cells := 1, slots := 6, locals := 100 } : Room) [.ref (ha 0), .int (iI z)] (wH ha cA hA nA ed cI cJ cZ td pr up dn dv rw sd mc n mo sh co Ca Cz K St Ex Am Bi As BL AL He Co ++ EE) "java/lang/IndexOutOfBoundsException" := by
  refine jj_startX (cc := cX3_contractOf) (nL := 2) (ret := (some (.object "Strikehall$Contract"))) (lv := [(0, .ref (ha 0)), (1, .int (iI z))]) (hEVT sa) (by decide) rfl (Nat.le_of_ble_eq_true rfl) rfl ?_
  intro p9 e9 s9 m9 a9 b9 me9 c9 A9 C1 hx0
  have C0 : jj_C p9 s9 m9 a9 me9 c9 (dC, dI) vwCl A9 2 cX3_contractOf "Strikehall" lw_U _ (EVT sa) := jj_toU C1
  have hw := C0.2.2.2.2.1
  have hE := C0.2.2.2.2.2.2.2.1
  refine jj_iload_n C0 1 rfl dX3_contractOf_0 ?_
  refine jj_if_lt C0 (by omega) dX3_contractOf_1 (tgt := 15) (by decide) (fun c_1 => ?_) (fun c_1 => ?_)
  · exact jj_throwSW (names := ["java/lang/RuntimeException", "java/lang/Exception"]) (text := "no such contract") (sa := sa 257) C0 hl hx0 (by decide +kernel) (by decide +kernel) (hw _ hU_485) (hw _ hU_61) (hE.2.1 (257, "no such contract") (by decide)) (wx_I_hat hw hE.2.2.1) wx_I_o hE.2.2.2.1 hE.2.2.2.2 dX3_contractOf_15 dX3_contractOf_18 dX3_contractOf_19 dX3_contractOf_22 dX3_contractOf_25 (by decide) (Nat.le_of_ble_eq_true rfl) (by decide) (by decide) (by decide) (by decide)
  · refine jj_iload_n C0 1 rfl dX3_contractOf_4 ?_
    refine jj_aload_n C0 0 rfl dX3_contractOf_5 ?_
    refine jj_get C0 (ci := 4) (v := .ref (ha 5)) hin_X3 (0) (rfl) rfl 2 (by decide) (hw _ hU_140) (fun _ h9 => h9) rfl dX3_contractOf_6 ?_
    refine jj_callVi C0 (jj_weaki (fun A U H h => h.1) (cc_Jx4a65c_size_8abf5   )) (cwV 0 hw (lw_gV hU_262 hU_263 hU_264 hU_48 hU_265) rfl rfl rfl (by decide +kernel) ⟨Nat.le_of_ble_eq_true rfl, Nat.le_of_ble_eq_true rfl⟩) (ci := 0) (q0 := 5) rfl (rfl) rfl rfl (Nat.le_of_ble_eq_true rfl) ⟨by decide, by decide⟩ rfl rfl dX3_contractOf_9 ?_
    intro _ hu
    show jj_W _ _ _ _ _ _ _ _ _ _ _ _ _ _ _ _ _ 12 _ [.int (iI (n : Int)), .int (iI z)] (wH ha cA hA nA ed cI cJ cZ td pr up dn dv rw sd mc n mo sh co Ca Cz K St Ex Am Bi As BL AL He Co ++ EE)
    refine jj_icmp_lt C0 (by omega) (by omega) dX3_contractOf_12 (tgt := 26) (by decide) (fun c_2 => ?_) (fun c_2 => ?_)
    · exfalso
      omega
    · exact jj_throwSW (names := ["java/lang/RuntimeException", "java/lang/Exception"]) (text := "no such contract") (sa := sa 257) C0 hl hx0 (by decide +kernel) (by decide +kernel) (hw _ hU_485) (hw _ hU_61) (hE.2.1 (257, "no such contract") (by decide)) (wx_I_hat hw hE.2.2.1) wx_I_o hE.2.2.2.1 hE.2.2.2.2 dX3_contractOf_15 dX3_contractOf_18 dX3_contractOf_19 dX3_contractOf_22 dX3_contractOf_25 (by decide) (Nat.le_of_ble_eq_true rfl) (by decide) (by decide) (by decide) (by decide)
set_option maxHeartbeats 4000000 in
set_option maxRecDepth 100000 in
theorem cx_X3_checkNotOver (hl : l.stackTraces = false) {c : Nat} (hbad : Ex c < (td : Int)) (hcn : c < n) (hEx : ∀ j, 0 ≤ Ex j ∧ Ex j ≤ 200) (htd : td ≤ 200) : jj_X (EVT sa) (dC, dI) vwCl [(cI, .int), (cJ, .long), (cZ, .boolean), (cO, .object "java/lang/Object")] l yX3_checkNotOver (Cond.code yX3_checkNotOver cX3_checkNotOver 2 none :: lw_U) ({ frames := 6, cells := 1, slots := 6, locals := 100 } : Room) [.ref (ha 0), .ref (cA c)] (wH ha cA hA nA ed cI cJ cZ td pr up dn dv rw sd mc n mo sh co Ca Cz K St Ex Am Bi As BL AL He Co ++ EE) "java/lang/IllegalStateException" := by
  refine jj_startX (cc := cX3_checkNotOver) (nL := 2) (ret := none) (lv := [(0, .ref (ha 0)), (1, .ref (cA c))]) (hEVT sa) (by decide) rfl (Nat.le_of_ble_eq_true rfl) rfl ?_
  intro p9 e9 s9 m9 a9 b9 me9 c9 A9 C1 hx0
  have C0 : jj_C p9 s9 m9 a9 me9 c9 (dC, dI) vwCl A9 2 cX3_checkNotOver "Strikehall" lw_U _ (EVT sa) := jj_toU C1
  have hw := C0.2.2.2.2.1
  have hE := C0.2.2.2.2.2.2.2.1
  refine jj_aload_n C0 1 rfl dX3_checkNotOver_0 ?_
  refine jj_getN C0 (ci := 1) (v := .int (iI (Ex c))) hin_X0 ((8 + (3 * c + 0))) ((wH_c (c := c) (by omega))) rfl 2 (by decide) (va_Nw.use rfl (hE.1.1 _ (hN_385))) (fun _ h9 => h9) rfl dX3_checkNotOver_1 ?_
  have hb_Ex_47718 := hEx c
  refine jj_aload_n C0 0 rfl dX3_checkNotOver_4 ?_
  refine jj_get C0 (ci := 4) (v := .ref (ha 1)) hin_X3 (0) (rfl) rfl 0 (by decide) (hw _ hU_138) (fun _ h9 => h9) rfl dX3_checkNotOver_5 ?_
  refine jj_getN C0 (ci := 3) (v := .int (iI (td : Int))) hin_X2 (1) (rfl) rfl 5 (by decide) (va_Nw.use rfl (hE.1.1 _ (hN_85))) (fun _ h9 => h9) rfl dX3_checkNotOver_8 ?_
  refine jj_icmp_ge C0 (by omega) (by omega) dX3_checkNotOver_11 (tgt := 24) (by decide) (fun c_1 => ?_) (fun c_1 => ?_)
  · exfalso
    omega
  · exact jj_throwS (names := ["java/lang/RuntimeException", "java/lang/Exception"]) (text := "the contract is over") (sa := sa 255) C0 hl hx0 (by decide +kernel) (by decide +kernel) (hw _ hU_359) (hw _ hU_54) (hE.2.1 (255, "the contract is over") (by decide)) (wx_S_hat hw hE.2.2.1) wx_S_o hE.2.2.2.1 hE.2.2.2.2 dX3_checkNotOver_14 dX3_checkNotOver_17 dX3_checkNotOver_18 dX3_checkNotOver_20 dX3_checkNotOver_23 (by decide) (Nat.le_of_ble_eq_true rfl) (by decide) (by decide) (by decide) (by decide)
end CC13
