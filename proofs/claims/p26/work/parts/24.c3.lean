section CC3
variable {l : Launch} {dC : Nat → ClassId} {dI : Nat → Nat → Nat} {cI cJ cZ cO : ClassId} {EE ws : va_W} {ha cA hA nA : Nat → Nat} {ed : Nat} {td : Nat} {pr up dn : Int} {dv rw : Nat → Int} {sd mc : Int} {n : Nat} {mo sh co : Int} {Ca Cz K St Ex Am Bi As BL AL He Co : Nat → Int}
set_option maxHeartbeats 4000000 in
set_option maxRecDepth 100000 in
theorem cc_X3_checkRange  {a b d : Int} (hab : b ≤ a ∧ a ≤ d) (ha : iR a) (hb : iR b) (hd : iR d) : jj_Mv EVh (dC, dI) vwCl [(cI, .int), (cJ, .long), (cZ, .boolean), (cO, .object "java/lang/Object")] l yX3_checkRange (Cond.code yX3_checkRange cX3_checkRange 3 none :: lw_U) ({ frames := 0, cells := 0, slots := 0, locals := 0 } : Room) [.int (iI a), .int (iI b), .int (iI d)] (ws) (S := Unit)  (fun _ => True) (fun _ => ws) := by
  refine jj_start (cc := cX3_checkRange) (nL := 3) (ret := none) (lv := [(0, .int (iI a)), (1, .int (iI b)), (2, .int (iI d))]) (fun A => jj_Qv _ _ _ _ _ A) hEVh (by decide) rfl (Nat.le_of_ble_eq_true rfl) rfl ?_
  intro p9 e9 s9 m9 a9 b9 me9 c9 A9 C1 hr hin
  have C0 : jj_C p9 s9 m9 a9 me9 c9 (dC, dI) vwCl A9 3 cX3_checkRange "Strikehall" lw_U _ EVh := jj_toU C1
  have hw := C0.2.2.2.2.1
  refine jj_iload_n C0 0 rfl dX3_checkRange_0 ?_
  refine jj_iload_n C0 1 rfl dX3_checkRange_1 ?_
  refine jj_icmp_lt C0 (by omega) (by omega) dX3_checkRange_2 (tgt := 10) (by decide) (fun c_1 => absurd c_1 (by omega)) (fun c_1 => ?_)
  refine jj_iload_n C0 0 rfl dX3_checkRange_5 ?_
  refine jj_iload_n C0 2 rfl dX3_checkRange_6 ?_
  refine jj_icmp_le C0 (by omega) (by omega) dX3_checkRange_7 (tgt := 20) (by decide) (fun c_2 => ?_) (fun c_2 => absurd c_2 (by omega))
  exact jj_vret C0 hr () (trivial) (rfl) (by decide) (by decide) dX3_checkRange_20
set_option maxHeartbeats 4000000 in
set_option maxRecDepth 100000 in
theorem cc_X3_checkCustomer  {z : Int} (hz : 0 ≤ z ∧ z ≤ 5) : jj_Mv EVh (dC, dI) vwCl [(cI, .int), (cJ, .long), (cZ, .boolean), (cO, .object "java/lang/Object")] l yX3_checkCustomer (Cond.code yX3_checkCustomer cX3_checkCustomer 1 none :: lw_U) ({ frames := 0, cells := 0, slots := 0, locals := 0 } : Room) [.int (iI z)] (ws) (S := Unit)  (fun _ => True) (fun _ => ws) := by
  refine jj_start (cc := cX3_checkCustomer) (nL := 1) (ret := none) (lv := [(0, .int (iI z))]) (fun A => jj_Qv _ _ _ _ _ A) hEVh (by decide) rfl (Nat.le_of_ble_eq_true rfl) rfl ?_
  intro p9 e9 s9 m9 a9 b9 me9 c9 A9 C1 hr hin
  have C0 : jj_C p9 s9 m9 a9 me9 c9 (dC, dI) vwCl A9 1 cX3_checkCustomer "Strikehall" lw_U _ EVh := jj_toU C1
  have hw := C0.2.2.2.2.1
  refine jj_iload_n C0 0 rfl dX3_checkCustomer_0 ?_
  refine jj_if_lt C0 (by omega) dX3_checkCustomer_1 (tgt := 10) (by decide) (fun c_1 => absurd c_1 (by omega)) (fun c_1 => ?_)
  refine jj_iload_n C0 0 rfl dX3_checkCustomer_4 ?_
  refine jj_bipush C0 dX3_checkCustomer_5 (by decide) ?_
  refine jj_icmp_lt C0 (by omega) (by omega) dX3_checkCustomer_7 (tgt := 20) (by decide) (fun c_2 => ?_) (fun c_2 => absurd c_2 (by omega))
  exact jj_vret C0 hr () (trivial) (rfl) (by decide) (by decide) dX3_checkCustomer_20
set_option maxHeartbeats 4000000 in
set_option maxRecDepth 100000 in
theorem cc_X3_checkNotOver  {c : Nat} (hov : (td : Int) ≤ Ex c) (hcn : c < n) (htd : td ≤ 200) (hEx : ∀ j, 0 ≤ Ex j ∧ Ex j ≤ 200) : jj_Mv EVh (dC, dI) vwCl [(cI, .int), (cJ, .long), (cZ, .boolean), (cO, .object "java/lang/Object")] l yX3_checkNotOver (Cond.code yX3_checkNotOver cX3_checkNotOver 2 none :: lw_U) ({ frames := 0, cells := 0, slots := 0, locals := 0 } : Room) [.ref (ha 0), .ref (cA c)] (wH ha cA hA nA ed cI cJ cZ td pr up dn dv rw sd mc n mo sh co Ca Cz K St Ex Am Bi As BL AL He Co ++ EE) (S := Unit)  (fun _ => True) (fun _ => wH ha cA hA nA ed cI cJ cZ td pr up dn dv rw sd mc n mo sh co Ca Cz K St Ex Am Bi As BL AL He Co ++ EE) := by
  refine jj_start (cc := cX3_checkNotOver) (nL := 2) (ret := none) (lv := [(0, .ref (ha 0)), (1, .ref (cA c))]) (fun A => jj_Qv _ _ _ _ _ A) hEVh (by decide) rfl (Nat.le_of_ble_eq_true rfl) rfl ?_
  intro p9 e9 s9 m9 a9 b9 me9 c9 A9 C1 hr hin
  have C0 : jj_C p9 s9 m9 a9 me9 c9 (dC, dI) vwCl A9 2 cX3_checkNotOver "Strikehall" lw_U _ EVh := jj_toU C1
  have hw := C0.2.2.2.2.1
  have hE := C0.2.2.2.2.2.2.2.1
  refine jj_aload_n C0 1 rfl dX3_checkNotOver_0 ?_
  refine jj_getN C0 (ci := 1) (v := .int (iI (Ex c))) hin_X0 ((8 + (3 * c + 0))) ((wH_c (c := c) (by omega))) rfl 2 (by decide) (va_Nw.use rfl (hE.1 _ (hN_385))) (fun _ h9 => h9) rfl dX3_checkNotOver_1 ?_
  have hb_Ex_47718 := hEx c
  refine jj_aload_n C0 0 rfl dX3_checkNotOver_4 ?_
  refine jj_get C0 (ci := 4) (v := .ref (ha 1)) hin_X3 (0) (rfl) rfl 0 (by decide) (hw _ hU_138) (fun _ h9 => h9) rfl dX3_checkNotOver_5 ?_
  refine jj_getN C0 (ci := 3) (v := .int (iI (td : Int))) hin_X2 (1) (rfl) rfl 5 (by decide) (va_Nw.use rfl (hE.1 _ (hN_85))) (fun _ h9 => h9) rfl dX3_checkNotOver_8 ?_
  refine jj_icmp_ge C0 (by omega) (by omega) dX3_checkNotOver_11 (tgt := 24) (by decide) (fun c_1 => ?_) (fun c_1 => absurd c_1 (by omega))
  exact jj_vret C0 hr () (trivial) (rfl) (by decide) (by decide) dX3_checkNotOver_24
set_option maxHeartbeats 4000000 in
set_option maxRecDepth 100000 in
theorem cc_X3_placeOf  {k : Nat} {z : Int} (hzk : (z = -1 ∧ k = 6) ∨ (z = (k : Int) ∧ k ≤ 5)) : jj_Mi EVh (dC, dI) vwCl [(cI, .int), (cJ, .long), (cZ, .boolean), (cO, .object "java/lang/Object")] l yX3_placeOf (Cond.code yX3_placeOf cX3_placeOf 1 (some .int) :: lw_U) ({ frames := 1, cells := 0, slots := 0, locals := 20 } : Room) [.int (iI z)] (ws) (S := Unit) (fun _ => (k : Int)) (fun _ => True) (fun _ => ws) := by
  refine jj_start (cc := cX3_placeOf) (nL := 1) (ret := (some .int)) (lv := [(0, .int (iI z))]) (fun A => jj_Qi _ _ _ _ _ _ A) hEVh (by decide) rfl (Nat.le_of_ble_eq_true rfl) rfl ?_
  intro p9 e9 s9 m9 a9 b9 me9 c9 A9 C1 hr hin
  have C0 : jj_C p9 s9 m9 a9 me9 c9 (dC, dI) vwCl A9 1 cX3_placeOf "Strikehall" lw_U _ EVh := jj_toU C1
  have hw := C0.2.2.2.2.1
  refine jj_iload_n C0 0 rfl dX3_placeOf_0 ?_
  refine jj_iconst C0 dX3_placeOf_1 ?_
  refine jj_icmp_ne C0 (by omega) (by omega) dX3_placeOf_2 (tgt := 8) (by decide) (fun c_1 => ?_) (fun c_1 => ?_)
  · refine jj_iload_n C0 0 rfl dX3_placeOf_8 ?_
    refine jj_callSv C0 (cc_X3_checkCustomer  (z := z) (by omega)) (cwS 1 hw (lw_gS hU_565 hU_566 hU_43 hU_567) rfl rfl rfl (by decide +kernel) ⟨Nat.le_of_ble_eq_true rfl, Nat.le_of_ble_eq_true rfl⟩) rfl rfl (Nat.le_of_ble_eq_true rfl) ⟨by decide, by decide⟩ rfl rfl dX3_placeOf_9 ?_
    intro _ hu
    show jj_W _ _ _ _ _ _ _ _ _ _ _ _ _ _ _ _ _ 12 _ [] (ws)
    refine jj_iload_n C0 0 rfl dX3_placeOf_12 ?_
    exact jj_iret C0 hr () (trivial) (by omega) (rfl) (by decide) (by decide) dX3_placeOf_13
  · refine jj_bipush C0 dX3_placeOf_5 (by decide) ?_
    exact jj_iret C0 hr () (trivial) (by omega) (rfl) (by decide) (by decide) dX3_placeOf_7
set_option maxHeartbeats 4000000 in
set_option maxRecDepth 100000 in
theorem cc_X3_contractOf  {c : Nat} (hcn : c < n) (hn : n ≤ 12) (hED : 0 < n → f_ED cA n ed cO EE) : jj_Mr EVh (dC, dI) vwCl [(cI, .int), (cJ, .long), (cZ, .boolean), (cO, .object "java/lang/Object")] l yX3_contractOf (Cond.code yX3_contractOf cX3_contractOf 2 (some (.object "Strikehall$Contract")) :: lw_U) ({ frames := 3, cells := 0, slots := 0, locals := 64 } : Room) [.ref (ha 0), .int (iI (c : Int))] (wH ha cA hA nA ed cI cJ cZ td pr up dn dv rw sd mc n mo sh co Ca Cz K St Ex Am Bi As BL AL He Co ++ EE) (S := Unit) (fun _ => cA c) (fun _ => True) (fun _ => wH ha cA hA nA ed cI cJ cZ td pr up dn dv rw sd mc n mo sh co Ca Cz K St Ex Am Bi As BL AL He Co ++ EE) := by
  refine jj_start (cc := cX3_contractOf) (nL := 2) (ret := (some (.object "Strikehall$Contract"))) (lv := [(0, .ref (ha 0)), (1, .int (iI (c : Int)))]) (fun A => jj_Qr _ _ _ _ _ _ A) hEVh (by decide) rfl (Nat.le_of_ble_eq_true rfl) rfl ?_
  intro p9 e9 s9 m9 a9 b9 me9 c9 A9 C1 hr hin
  have C0 : jj_C p9 s9 m9 a9 me9 c9 (dC, dI) vwCl A9 2 cX3_contractOf "Strikehall" lw_U _ EVh := jj_toU C1
  have hw := C0.2.2.2.2.1
  have hE := C0.2.2.2.2.2.2.2.1
  refine jj_iload_n C0 1 rfl dX3_contractOf_0 ?_
  refine jj_if_lt C0 (by omega) dX3_contractOf_1 (tgt := 15) (by decide) (fun c_1 => absurd c_1 (by omega)) (fun c_1 => ?_)
  refine jj_iload_n C0 1 rfl dX3_contractOf_4 ?_
  refine jj_aload_n C0 0 rfl dX3_contractOf_5 ?_
  refine jj_get C0 (ci := 4) (v := .ref (ha 5)) hin_X3 (0) (rfl) rfl 2 (by decide) (hw _ hU_140) (fun _ h9 => h9) rfl dX3_contractOf_6 ?_
  refine jj_callVi C0 (cc_Jx4a65c_size_8abf5   ) (cwV 0 hw (lw_gV hU_262 hU_263 hU_264 hU_48 hU_265) rfl rfl rfl (by decide +kernel) ⟨Nat.le_of_ble_eq_true rfl, Nat.le_of_ble_eq_true rfl⟩) (ci := 0) (q0 := 5) rfl (rfl) rfl rfl (Nat.le_of_ble_eq_true rfl) ⟨by decide, by decide⟩ rfl rfl dX3_contractOf_9 ?_
  intro _ hu
  show jj_W _ _ _ _ _ _ _ _ _ _ _ _ _ _ _ _ _ 12 _ [.int (iI (n : Int)), .int (iI (c : Int))] (wH ha cA hA nA ed cI cJ cZ td pr up dn dv rw sd mc n mo sh co Ca Cz K St Ex Am Bi As BL AL He Co ++ EE)
  refine jj_icmp_lt C0 (by omega) (by omega) dX3_contractOf_12 (tgt := 26) (by decide) (fun c_2 => ?_) (fun c_2 => absurd c_2 (by omega))
  refine jj_aload_n C0 0 rfl dX3_contractOf_26 ?_
  refine jj_get C0 (ci := 4) (v := .ref (ha 5)) hin_X3 (0) (rfl) rfl 2 (by decide) (hw _ hU_140) (fun _ h9 => h9) rfl dX3_contractOf_27 ?_
  refine jj_iload_n C0 1 rfl dX3_contractOf_30 ?_
  refine jj_callVr C0 (cc_Jx4a65c_get_915e3  (i := c) (by omega) (by first | exact hn | omega) (by first | exact hED | omega)) (cwV 1 hw (lw_gV hU_266 hU_267 hU_268 hU_48 hU_269) rfl rfl rfl (by decide +kernel) ⟨Nat.le_of_ble_eq_true rfl, Nat.le_of_ble_eq_true rfl⟩) (ci := 0) (q0 := 5) rfl (rfl) rfl rfl (Nat.le_of_ble_eq_true rfl) ⟨by decide, by decide⟩ rfl rfl dX3_contractOf_31 ?_
  intro _ hu
  show jj_W _ _ _ _ _ _ _ _ _ _ _ _ _ _ _ _ _ 34 _ [.ref (cA c)] (wH ha cA hA nA ed cI cJ cZ td pr up dn dv rw sd mc n mo sh co Ca Cz K St Ex Am Bi As BL AL He Co ++ EE)
  refine jj_cast C0 (ci := 1) (q0 := (8 + (3 * c + 0))) rfl ((wH_c (c := c) (by omega))) (hw _ hU_280) dX3_contractOf_34 ?_
  exact jj_aret C0 (Or.inl ⟨_, rfl⟩) hr () (trivial) (rfl) (rfl) (by decide) (by decide) dX3_contractOf_37
set_option maxHeartbeats 4000000 in
set_option maxRecDepth 100000 in
theorem cc_X3_worthNow   (hpr : 0 ≤ pr ∧ pr ≤ 20000) (hexs : ∀ c, c < n → Ex c ≤ (td : Int) + 10) (hn : n ≤ 12) (htd : td ≤ 200) (hup : 1 ≤ up ∧ up ≤ 10) (hdn : 1 ≤ dn ∧ dn ≤ 10) (hdv : ∀ j, 0 ≤ dv j ∧ dv j ≤ 1000) (hK : ∀ j, 0 ≤ K j ∧ K j ≤ 1) (hSt : ∀ j, 0 ≤ St j ∧ St j ≤ 20000) (hEx : ∀ j, 0 ≤ Ex j ∧ Ex j ≤ 200) (hAm : ∀ j, 0 ≤ Am j ∧ Am j ≤ 1) (hHe : ∀ j, -1000000 ≤ He j ∧ He j ≤ 1000000) (hsh : -100000 ≤ sh ∧ sh ≤ 100000) (hED : 0 < n → f_ED cA n ed cO EE) : jj_Ml EVh (dC, dI) vwCl [(cI, .int), (cJ, .long), (cZ, .boolean), (cO, .object "java/lang/Object")] l yX3_worthNow (Cond.code yX3_worthNow cX3_worthNow 1 (some .long) :: lw_U) ({ frames := 5, cells := 0, slots := 0, locals := 122 } : Room) [.ref (ha 0)] (wH ha cA hA nA ed cI cJ cZ td pr up dn dv rw sd mc n mo sh co Ca Cz K St Ex Am Bi As BL AL He Co ++ EE) (S := (Nat → Int)) (fun r8 => (f_W up dn dv td n K St Ex Am He Ca sh pr)) (fun r8 => True) (fun r8 => wH ha cA hA nA ed cI cJ cZ td pr up dn dv r8 sd mc n mo sh co Ca Cz K St Ex Am Bi As BL AL He Co ++ EE) := by
  refine jj_start (cc := cX3_worthNow) (nL := 1) (ret := (some .long)) (lv := [(0, .ref (ha 0))]) (fun A => jj_Ql _ _ _ _ _ _ A) hEVh (by decide) rfl (Nat.le_of_ble_eq_true rfl) rfl ?_
  intro p9 e9 s9 m9 a9 b9 me9 c9 A9 C1 hr hin
  have C0 : jj_C p9 s9 m9 a9 me9 c9 (dC, dI) vwCl A9 1 cX3_worthNow "Strikehall" lw_U _ EVh := jj_toU C1
  have hw := C0.2.2.2.2.1
  have hE := C0.2.2.2.2.2.2.2.1
  refine jj_aload_n C0 0 rfl dX3_worthNow_0 ?_
  refine jj_aload_n C0 0 rfl dX3_worthNow_1 ?_
  refine jj_get C0 (ci := 4) (v := .ref (ha 1)) hin_X3 (0) (rfl) rfl 0 (by decide) (hw _ hU_138) (fun _ h9 => h9) rfl dX3_worthNow_2 ?_
  refine jj_getN C0 (ci := 3) (v := .int (iI pr)) hin_X2 (1) (rfl) rfl 2 (by decide) (va_Nw.use rfl (hE.1 _ (hN_79))) (fun _ h9 => h9) rfl dX3_worthNow_5 ?_
  refine jj_callVl C0 (cc_X3_worthAt  (fr := pr) (by omega) (by first | exact hexs | omega) (by first | exact hn | omega) (by first | exact htd | omega) (by first | exact hup | omega) (by first | exact hdn | omega) (by first | exact hdv | omega) (by first | exact hK | omega) (by first | exact hSt | omega) (by first | exact hEx | omega) (by first | exact hAm | omega) (by first | exact hHe | omega) (by first | exact hsh | omega) (by first | exact hED | omega)) (cwV 1 hw (lw_gV hU_253 hU_255 hU_2 hU_43 hU_256) rfl rfl rfl (by decide +kernel) ⟨Nat.le_of_ble_eq_true rfl, Nat.le_of_ble_eq_true rfl⟩) (ci := 4) (q0 := 0) rfl (rfl) rfl rfl (Nat.le_of_ble_eq_true rfl) ⟨by decide, by decide⟩ rfl rfl dX3_worthNow_8 ?_
  intro r8_1 hu
  show jj_W _ _ _ _ _ _ _ _ _ _ _ _ _ _ _ _ _ 11 _ [.long (lI (f_W up dn dv td n K St Ex Am He Ca sh pr))] (wH ha cA hA nA ed cI cJ cZ td pr up dn dv r8_1 sd mc n mo sh co Ca Cz K St Ex Am Bi As BL AL He Co ++ EE)
  exact jj_lret C0 hr r8_1 (trivial) (rfl) (rfl) (by decide) (by decide) dX3_worthNow_11
set_option maxHeartbeats 4000000 in
set_option maxRecDepth 100000 in
theorem cc_X3_steps  {x y : Int} (hx : 1 ≤ x ∧ x ≤ 10) (hy : 1 ≤ y ∧ y ≤ 10) (hpr : 0 ≤ pr ∧ pr ≤ 20000) (hexs : ∀ c, c < n → Ex c ≤ (td : Int) + 10) (hn : n ≤ 12) (htd : td ≤ 200) (hup : 1 ≤ up ∧ up ≤ 10) (hdn : 1 ≤ dn ∧ dn ≤ 10) (hdv : ∀ j, 0 ≤ dv j ∧ dv j ≤ 1000) (hK : ∀ j, 0 ≤ K j ∧ K j ≤ 1) (hSt : ∀ j, 0 ≤ St j ∧ St j ≤ 20000) (hEx : ∀ j, 0 ≤ Ex j ∧ Ex j ≤ 200) (hAm : ∀ j, 0 ≤ Am j ∧ Am j ≤ 1) (hHe : ∀ j, -1000000 ≤ He j ∧ He j ≤ 1000000) (hsh : -100000 ≤ sh ∧ sh ≤ 100000) (hED : 0 < n → f_ED cA n ed cO EE) : jj_Mv EVh (dC, dI) vwCl [(cI, .int), (cJ, .long), (cZ, .boolean), (cO, .object "java/lang/Object")] l yX3_steps (Cond.code yX3_steps cX3_steps 5 none :: lw_U) ({ frames := 6, cells := 0, slots := 0, locals := 142 } : Room) [.ref (ha 0), .int (iI x), .int (iI y)] (wH ha cA hA nA ed cI cJ cZ td pr up dn dv rw sd mc n mo sh co Ca Cz K St Ex Am Bi As BL AL He Co ++ EE) (S := (Nat → Int))  (fun r8 => True) (fun r8 => wH ha cA hA nA ed cI cJ cZ td pr x y dv r8 sd mc n mo sh co Ca (va_up Cz 5 ((Cz 5) + ((f_W x y dv td n K St Ex Am He Ca sh pr) - (f_W up dn dv td n K St Ex Am He Ca sh pr)))) K St Ex Am Bi As BL AL He Co ++ EE) := by
  refine jj_start (cc := cX3_steps) (nL := 5) (ret := none) (lv := [(0, .ref (ha 0)), (1, .int (iI x)), (2, .int (iI y))]) (fun A => jj_Qv _ _ _ _ _ A) hEVh (by decide) rfl (Nat.le_of_ble_eq_true rfl) rfl ?_
  intro p9 e9 s9 m9 a9 b9 me9 c9 A9 C1 hr hin
  have C0 : jj_C p9 s9 m9 a9 me9 c9 (dC, dI) vwCl A9 5 cX3_steps "Strikehall" lw_U _ EVh := jj_toU C1
  have hw := C0.2.2.2.2.1
  have hE := C0.2.2.2.2.2.2.2.1
  refine jj_iload_n C0 1 rfl dX3_steps_0 ?_
  refine jj_iconst C0 dX3_steps_1 ?_
  refine jj_bipush C0 dX3_steps_2 (by decide) ?_
  refine jj_callSv C0 (cc_X3_checkRange  (a := x) (b := 1) (d := 10) (by omega) (by omega) (by omega) (by omega)) (cwS 3 hw (lw_gS hU_178 hU_179 hU_43 hU_180) rfl rfl rfl (by decide +kernel) ⟨Nat.le_of_ble_eq_true rfl, Nat.le_of_ble_eq_true rfl⟩) rfl rfl (Nat.le_of_ble_eq_true rfl) ⟨by decide, by decide⟩ rfl rfl dX3_steps_4 ?_
  intro _ hu
  show jj_W _ _ _ _ _ _ _ _ _ _ _ _ _ _ _ _ _ 7 _ [] (wH ha cA hA nA ed cI cJ cZ td pr up dn dv rw sd mc n mo sh co Ca Cz K St Ex Am Bi As BL AL He Co ++ EE)
  refine jj_iload_n C0 2 rfl dX3_steps_7 ?_
  refine jj_iconst C0 dX3_steps_8 ?_
  refine jj_bipush C0 dX3_steps_9 (by decide) ?_
  refine jj_callSv C0 (cc_X3_checkRange  (a := y) (b := 1) (d := 10) (by omega) (by omega) (by omega) (by omega)) (cwS 3 hw (lw_gS hU_178 hU_179 hU_43 hU_180) rfl rfl rfl (by decide +kernel) ⟨Nat.le_of_ble_eq_true rfl, Nat.le_of_ble_eq_true rfl⟩) rfl rfl (Nat.le_of_ble_eq_true rfl) ⟨by decide, by decide⟩ rfl rfl dX3_steps_11 ?_
  intro _ hu
  show jj_W _ _ _ _ _ _ _ _ _ _ _ _ _ _ _ _ _ 14 _ [] (wH ha cA hA nA ed cI cJ cZ td pr up dn dv rw sd mc n mo sh co Ca Cz K St Ex Am Bi As BL AL He Co ++ EE)
  refine jj_aload_n C0 0 rfl dX3_steps_14 ?_
  refine jj_callVl C0 (cc_X3_worthNow   (by first | exact hpr | omega) (by first | exact hexs | omega) (by first | exact hn | omega) (by first | exact htd | omega) (by first | exact hup | omega) (by first | exact hdn | omega) (by first | exact hdv | omega) (by first | exact hK | omega) (by first | exact hSt | omega) (by first | exact hEx | omega) (by first | exact hAm | omega) (by first | exact hHe | omega) (by first | exact hsh | omega) (by first | exact hED | omega)) (cwV 0 hw (lw_gV hU_249 hU_251 hU_1 hU_43 hU_252) rfl rfl rfl (by decide +kernel) ⟨Nat.le_of_ble_eq_true rfl, Nat.le_of_ble_eq_true rfl⟩) (ci := 4) (q0 := 0) rfl (rfl) rfl rfl (Nat.le_of_ble_eq_true rfl) ⟨by decide, by decide⟩ rfl rfl dX3_steps_15 ?_
  intro r8_1 hu
  show jj_W _ _ _ _ _ _ _ _ _ _ _ _ _ _ _ _ _ 18 _ [.long (lI (f_W up dn dv td n K St Ex Am He Ca sh pr))] (wH ha cA hA nA ed cI cJ cZ td pr up dn dv r8_1 sd mc n mo sh co Ca Cz K St Ex Am Bi As BL AL He Co ++ EE)
  refine jj_lstore_n C0 (i := 3) rfl (lv' := [(3, .long (lI (f_W up dn dv td n K St Ex Am He Ca sh pr))), (0, .ref (ha 0)), (1, .int (iI x)), (2, .int (iI y))]) (by decide) rfl dX3_steps_18 ?_
  refine jj_aload_n C0 1 rfl dX3_steps_19 ?_
  refine jj_get C0 (ci := 4) (v := .ref (ha 1)) hin_X3 (0) (rfl) rfl 0 (by decide) (hw _ hU_138) (fun _ h9 => h9) rfl dX3_steps_20 ?_
  refine jj_iload_n C0 2 rfl dX3_steps_23 ?_
  refine jj_putN C0 (ci := 3) (v := .int (iI x)) (ty := .int) hin_X2 tyX2 tyX2_ok nmX2 (1) (rfl) rfl 3 (by decide) (va_Nw.use rfl (hE.1 _ (hN_81))) (fun _ h9 => h9) rfl (by decide +kernel) (rfl) rfl (Nat.le_of_ble_eq_true rfl) (ws' := wH ha cA hA nA ed cI cJ cZ td pr x dn dv r8_1 sd mc n mo sh co Ca Cz K St Ex Am Bi As BL AL He Co ++ EE) (rfl) dX3_steps_24 ?_
  refine jj_aload_n C0 1 rfl dX3_steps_27 ?_
  refine jj_get C0 (ci := 4) (v := .ref (ha 1)) hin_X3 (0) (rfl) rfl 0 (by decide) (hw _ hU_138) (fun _ h9 => h9) rfl dX3_steps_28 ?_
  refine jj_iload_n C0 3 rfl dX3_steps_31 ?_
  refine jj_putN C0 (ci := 3) (v := .int (iI y)) (ty := .int) hin_X2 tyX2 tyX2_ok nmX2 (1) (rfl) rfl 4 (by decide) (va_Nw.use rfl (hE.1 _ (hN_83))) (fun _ h9 => h9) rfl (by decide +kernel) (rfl) rfl (Nat.le_of_ble_eq_true rfl) (ws' := wH ha cA hA nA ed cI cJ cZ td pr x y dv r8_1 sd mc n mo sh co Ca Cz K St Ex Am Bi As BL AL He Co ++ EE) (rfl) dX3_steps_32 ?_
  refine jj_aload_n C0 1 rfl dX3_steps_35 ?_
  refine jj_iconst C0 dX3_steps_36 ?_
  refine jj_aload_n C0 1 rfl dX3_steps_37 ?_
  refine jj_callVl C0 (cc_X3_worthNow   (by first | exact hpr | omega) (by first | exact hexs | omega) (by first | exact hn | omega) (by first | exact htd | omega) hx hy (by first | exact hdv | omega) (by first | exact hK | omega) (by first | exact hSt | omega) (by first | exact hEx | omega) (by first | exact hAm | omega) (by first | exact hHe | omega) (by first | exact hsh | omega) (by first | exact hED | omega)) (cwV 0 hw (lw_gV hU_249 hU_251 hU_1 hU_43 hU_252) rfl rfl rfl (by decide +kernel) ⟨Nat.le_of_ble_eq_true rfl, Nat.le_of_ble_eq_true rfl⟩) (ci := 4) (q0 := 0) rfl (rfl) rfl rfl (Nat.le_of_ble_eq_true rfl) ⟨by decide, by decide⟩ rfl rfl dX3_steps_38 ?_
  intro r8_2 hu
  show jj_W _ _ _ _ _ _ _ _ _ _ _ _ _ _ _ _ _ 41 _ [.long (lI (f_W x y dv td n K St Ex Am He Ca sh pr)), .int (iI 5), .ref (ha 0)] (wH ha cA hA nA ed cI cJ cZ td pr x y dv r8_2 sd mc n mo sh co Ca Cz K St Ex Am Bi As BL AL He Co ++ EE)
  refine jj_lload_n C0 0 rfl dX3_steps_41 ?_
  refine jj_lsub C0 dX3_steps_42 ?_
  refine jj_callVv C0 (cc_X3_addProfit  (k := 5) (x := ((f_W x y dv td n K St Ex Am He Ca sh pr) - (f_W up dn dv td n K St Ex Am He Ca sh pr))) (by omega)) (cwV 2 hw (lw_gV hU_325 hU_327 hU_11 hU_43 hU_328) rfl rfl rfl (by decide +kernel) ⟨Nat.le_of_ble_eq_true rfl, Nat.le_of_ble_eq_true rfl⟩) (ci := 4) (q0 := 0) rfl (rfl) rfl rfl (Nat.le_of_ble_eq_true rfl) ⟨by decide, by decide⟩ rfl rfl dX3_steps_43 ?_
  intro _ hu
  show jj_W _ _ _ _ _ _ _ _ _ _ _ _ _ _ _ _ _ 46 _ [] (wH ha cA hA nA ed cI cJ cZ td pr x y dv r8_2 sd mc n mo sh co Ca (va_up Cz 5 (Cz 5 + ((f_W x y dv td n K St Ex Am He Ca sh pr) - (f_W up dn dv td n K St Ex Am He Ca sh pr)))) K St Ex Am Bi As BL AL He Co ++ EE)
  exact jj_vret C0 hr r8_2 (trivial) (rfl) (by decide) (by decide) dX3_steps_46
set_option maxHeartbeats 4000000 in
set_option maxRecDepth 100000 in
theorem cc_X3_move  {x : Int} (hx : 0 ≤ x ∧ x ≤ 20000) (hpr : 0 ≤ pr ∧ pr ≤ 20000) (hexs : ∀ c, c < n → Ex c ≤ (td : Int) + 10) (hn : n ≤ 12) (htd : td ≤ 200) (hup : 1 ≤ up ∧ up ≤ 10) (hdn : 1 ≤ dn ∧ dn ≤ 10) (hdv : ∀ j, 0 ≤ dv j ∧ dv j ≤ 1000) (hK : ∀ j, 0 ≤ K j ∧ K j ≤ 1) (hSt : ∀ j, 0 ≤ St j ∧ St j ≤ 20000) (hEx : ∀ j, 0 ≤ Ex j ∧ Ex j ≤ 200) (hAm : ∀ j, 0 ≤ Am j ∧ Am j ≤ 1) (hHe : ∀ j, -1000000 ≤ He j ∧ He j ≤ 1000000) (hsh : -100000 ≤ sh ∧ sh ≤ 100000) (hED : 0 < n → f_ED cA n ed cO EE) : jj_Ml EVh (dC, dI) vwCl [(cI, .int), (cJ, .long), (cZ, .boolean), (cO, .object "java/lang/Object")] l yX3_move (Cond.code yX3_move cX3_move 6 (some .long) :: lw_U) ({ frames := 6, cells := 0, slots := 0, locals := 142 } : Room) [.ref (ha 0), .int (iI x)] (wH ha cA hA nA ed cI cJ cZ td pr up dn dv rw sd mc n mo sh co Ca Cz K St Ex Am Bi As BL AL He Co ++ EE) (S := (Nat → Int)) (fun r8 => ((f_W up dn dv td n K St Ex Am He Ca sh x) - (f_W up dn dv td n K St Ex Am He Ca sh pr))) (fun r8 => True) (fun r8 => wH ha cA hA nA ed cI cJ cZ td x up dn dv r8 sd mc n mo sh co Ca (va_up Cz 1 ((Cz 1) + ((f_W up dn dv td n K St Ex Am He Ca sh x) - (f_W up dn dv td n K St Ex Am He Ca sh pr)))) K St Ex Am Bi As BL AL He Co ++ EE) := by
  refine jj_start (cc := cX3_move) (nL := 6) (ret := (some .long)) (lv := [(0, .ref (ha 0)), (1, .int (iI x))]) (fun A => jj_Ql _ _ _ _ _ _ A) hEVh (by decide) rfl (Nat.le_of_ble_eq_true rfl) rfl ?_
  intro p9 e9 s9 m9 a9 b9 me9 c9 A9 C1 hr hin
  have C0 : jj_C p9 s9 m9 a9 me9 c9 (dC, dI) vwCl A9 6 cX3_move "Strikehall" lw_U _ EVh := jj_toU C1
  have hw := C0.2.2.2.2.1
  have hE := C0.2.2.2.2.2.2.2.1
  refine jj_iload_n C0 1 rfl dX3_move_0 ?_
  refine jj_iconst C0 dX3_move_1 ?_
  refine jj_sipush C0 dX3_move_2 (by decide) ?_
  refine jj_callSv C0 (cc_X3_checkRange  (a := x) (b := 0) (d := 20000) (by omega) (by omega) (by omega) (by omega)) (cwS 3 hw (lw_gS hU_178 hU_179 hU_43 hU_180) rfl rfl rfl (by decide +kernel) ⟨Nat.le_of_ble_eq_true rfl, Nat.le_of_ble_eq_true rfl⟩) rfl rfl (Nat.le_of_ble_eq_true rfl) ⟨by decide, by decide⟩ rfl rfl dX3_move_5 ?_
  intro _ hu
  show jj_W _ _ _ _ _ _ _ _ _ _ _ _ _ _ _ _ _ 8 _ [] (wH ha cA hA nA ed cI cJ cZ td pr up dn dv rw sd mc n mo sh co Ca Cz K St Ex Am Bi As BL AL He Co ++ EE)
  refine jj_aload_n C0 0 rfl dX3_move_8 ?_
  refine jj_callVl C0 (cc_X3_worthNow   (by first | exact hpr | omega) (by first | exact hexs | omega) (by first | exact hn | omega) (by first | exact htd | omega) (by first | exact hup | omega) (by first | exact hdn | omega) (by first | exact hdv | omega) (by first | exact hK | omega) (by first | exact hSt | omega) (by first | exact hEx | omega) (by first | exact hAm | omega) (by first | exact hHe | omega) (by first | exact hsh | omega) (by first | exact hED | omega)) (cwV 0 hw (lw_gV hU_249 hU_251 hU_1 hU_43 hU_252) rfl rfl rfl (by decide +kernel) ⟨Nat.le_of_ble_eq_true rfl, Nat.le_of_ble_eq_true rfl⟩) (ci := 4) (q0 := 0) rfl (rfl) rfl rfl (Nat.le_of_ble_eq_true rfl) ⟨by decide, by decide⟩ rfl rfl dX3_move_9 ?_
  intro r8_1 hu
  show jj_W _ _ _ _ _ _ _ _ _ _ _ _ _ _ _ _ _ 12 _ [.long (lI (f_W up dn dv td n K St Ex Am He Ca sh pr))] (wH ha cA hA nA ed cI cJ cZ td pr up dn dv r8_1 sd mc n mo sh co Ca Cz K St Ex Am Bi As BL AL He Co ++ EE)
  refine jj_lstore_n C0 (i := 2) rfl (lv' := [(2, .long (lI (f_W up dn dv td n K St Ex Am He Ca sh pr))), (0, .ref (ha 0)), (1, .int (iI x))]) (by decide) rfl dX3_move_12 ?_
  refine jj_aload_n C0 1 rfl dX3_move_13 ?_
  refine jj_get C0 (ci := 4) (v := .ref (ha 1)) hin_X3 (0) (rfl) rfl 0 (by decide) (hw _ hU_138) (fun _ h9 => h9) rfl dX3_move_14 ?_
  refine jj_iload_n C0 2 rfl dX3_move_17 ?_
  refine jj_putN C0 (ci := 3) (v := .int (iI x)) (ty := .int) hin_X2 tyX2 tyX2_ok nmX2 (1) (rfl) rfl 2 (by decide) (va_Nw.use rfl (hE.1 _ (hN_79))) (fun _ h9 => h9) rfl (by decide +kernel) (rfl) rfl (Nat.le_of_ble_eq_true rfl) (ws' := wH ha cA hA nA ed cI cJ cZ td x up dn dv r8_1 sd mc n mo sh co Ca Cz K St Ex Am Bi As BL AL He Co ++ EE) (rfl) dX3_move_18 ?_
  refine jj_aload_n C0 1 rfl dX3_move_21 ?_
  refine jj_callVl C0 (cc_X3_worthNow   hx (by first | exact hexs | omega) (by first | exact hn | omega) (by first | exact htd | omega) (by first | exact hup | omega) (by first | exact hdn | omega) (by first | exact hdv | omega) (by first | exact hK | omega) (by first | exact hSt | omega) (by first | exact hEx | omega) (by first | exact hAm | omega) (by first | exact hHe | omega) (by first | exact hsh | omega) (by first | exact hED | omega)) (cwV 0 hw (lw_gV hU_249 hU_251 hU_1 hU_43 hU_252) rfl rfl rfl (by decide +kernel) ⟨Nat.le_of_ble_eq_true rfl, Nat.le_of_ble_eq_true rfl⟩) (ci := 4) (q0 := 0) rfl (rfl) rfl rfl (Nat.le_of_ble_eq_true rfl) ⟨by decide, by decide⟩ rfl rfl dX3_move_22 ?_
  intro r8_2 hu
  show jj_W _ _ _ _ _ _ _ _ _ _ _ _ _ _ _ _ _ 25 _ [.long (lI (f_W up dn dv td n K St Ex Am He Ca sh x))] (wH ha cA hA nA ed cI cJ cZ td x up dn dv r8_2 sd mc n mo sh co Ca Cz K St Ex Am Bi As BL AL He Co ++ EE)
  refine jj_lload_n C0 0 rfl dX3_move_25 ?_
  refine jj_lsub C0 dX3_move_26 ?_
  refine jj_lstore C0 (lv' := [(4, .long (lI ((f_W up dn dv td n K St Ex Am He Ca sh x) - (f_W up dn dv td n K St Ex Am He Ca sh pr)))), (2, .long (lI (f_W up dn dv td n K St Ex Am He Ca sh pr))), (0, .ref (ha 0)), (1, .int (iI x))]) (by decide) rfl dX3_move_27 ?_
  refine jj_aload_n C0 2 rfl dX3_move_29 ?_
  refine jj_iconst C0 dX3_move_30 ?_
  refine jj_lload C0 0 rfl dX3_move_31 ?_
  refine jj_callVv C0 (cc_X3_addProfit  (k := 1) (x := ((f_W up dn dv td n K St Ex Am He Ca sh x) - (f_W up dn dv td n K St Ex Am He Ca sh pr))) (by omega)) (cwV 2 hw (lw_gV hU_325 hU_327 hU_11 hU_43 hU_328) rfl rfl rfl (by decide +kernel) ⟨Nat.le_of_ble_eq_true rfl, Nat.le_of_ble_eq_true rfl⟩) (ci := 4) (q0 := 0) rfl (rfl) rfl rfl (Nat.le_of_ble_eq_true rfl) ⟨by decide, by decide⟩ rfl rfl dX3_move_33 ?_
  intro _ hu
  show jj_W _ _ _ _ _ _ _ _ _ _ _ _ _ _ _ _ _ 36 _ [] (wH ha cA hA nA ed cI cJ cZ td x up dn dv r8_2 sd mc n mo sh co Ca (va_up Cz 1 (Cz 1 + ((f_W up dn dv td n K St Ex Am He Ca sh x) - (f_W up dn dv td n K St Ex Am He Ca sh pr)))) K St Ex Am Bi As BL AL He Co ++ EE)
  refine jj_lload C0 0 rfl dX3_move_36 ?_
  exact jj_lret C0 hr r8_2 (trivial) (rfl) (rfl) (by decide) (by decide) dX3_move_38
set_option maxHeartbeats 4000000 in
set_option maxRecDepth 100000 in
theorem cc_X3_dividend  {d : Nat} {y : Int} (hd : td + 1 ≤ d ∧ d ≤ 200) (hy : 0 ≤ y ∧ y ≤ 1000) (hpr : 0 ≤ pr ∧ pr ≤ 20000) (hexs : ∀ c, c < n → Ex c ≤ (td : Int) + 10) (hn : n ≤ 12) (htd : td ≤ 200) (hup : 1 ≤ up ∧ up ≤ 10) (hdn : 1 ≤ dn ∧ dn ≤ 10) (hdv : ∀ j, 0 ≤ dv j ∧ dv j ≤ 1000) (hK : ∀ j, 0 ≤ K j ∧ K j ≤ 1) (hSt : ∀ j, 0 ≤ St j ∧ St j ≤ 20000) (hEx : ∀ j, 0 ≤ Ex j ∧ Ex j ≤ 200) (hAm : ∀ j, 0 ≤ Am j ∧ Am j ≤ 1) (hHe : ∀ j, -1000000 ≤ He j ∧ He j ≤ 1000000) (hsh : -100000 ≤ sh ∧ sh ≤ 100000) (hED : 0 < n → f_ED cA n ed cO EE) : jj_Mi EVh (dC, dI) vwCl [(cI, .int), (cJ, .long), (cZ, .boolean), (cO, .object "java/lang/Object")] l yX3_dividend (Cond.code yX3_dividend cX3_dividend 6 (some .int) :: lw_U) ({ frames := 6, cells := 0, slots := 0, locals := 142 } : Room) [.ref (ha 0), .int (iI (d : Int)), .int (iI y)] (wH ha cA hA nA ed cI cJ cZ td pr up dn dv rw sd mc n mo sh co Ca Cz K St Ex Am Bi As BL AL He Co ++ EE) (S := (Nat → Int)) (fun r8 => (dv d)) (fun r8 => True) (fun r8 => wH ha cA hA nA ed cI cJ cZ td pr up dn (va_up dv d y) r8 sd mc n mo sh co Ca (va_up Cz 5 ((Cz 5) + ((f_W up dn (va_up dv d y) td n K St Ex Am He Ca sh pr) - (f_W up dn dv td n K St Ex Am He Ca sh pr)))) K St Ex Am Bi As BL AL He Co ++ EE) := by
  refine jj_start (cc := cX3_dividend) (nL := 6) (ret := (some .int)) (lv := [(0, .ref (ha 0)), (1, .int (iI (d : Int))), (2, .int (iI y))]) (fun A => jj_Qi _ _ _ _ _ _ A) hEVh (by decide) rfl (Nat.le_of_ble_eq_true rfl) rfl ?_
  intro p9 e9 s9 m9 a9 b9 me9 c9 A9 C1 hr hin
  have C0 : jj_C p9 s9 m9 a9 me9 c9 (dC, dI) vwCl A9 6 cX3_dividend "Strikehall" lw_U _ EVh := jj_toU C1
  have hw := C0.2.2.2.2.1
  have hE := C0.2.2.2.2.2.2.2.1
  refine jj_iload_n C0 1 rfl dX3_dividend_0 ?_
  refine jj_aload_n C0 0 rfl dX3_dividend_1 ?_
  refine jj_get C0 (ci := 4) (v := .ref (ha 1)) hin_X3 (0) (rfl) rfl 0 (by decide) (hw _ hU_138) (fun _ h9 => h9) rfl dX3_dividend_2 ?_
  refine jj_getN C0 (ci := 3) (v := .int (iI (td : Int))) hin_X2 (1) (rfl) rfl 5 (by decide) (va_Nw.use rfl (hE.1 _ (hN_85))) (fun _ h9 => h9) rfl dX3_dividend_5 ?_
  refine jj_iconst C0 dX3_dividend_8 ?_
  refine jj_iadd C0 dX3_dividend_9 ?_
  refine jj_sipush C0 dX3_dividend_10 (by decide) ?_
  refine jj_callSv C0 (cc_X3_checkRange  (a := (d : Int)) (b := ((td : Int) + 1)) (d := 200) (by omega) (by omega) (by omega) (by first | exact hd | omega)) (cwS 3 hw (lw_gS hU_178 hU_179 hU_43 hU_180) rfl rfl rfl (by decide +kernel) ⟨Nat.le_of_ble_eq_true rfl, Nat.le_of_ble_eq_true rfl⟩) rfl rfl (Nat.le_of_ble_eq_true rfl) ⟨by decide, by decide⟩ rfl rfl dX3_dividend_13 ?_
  intro _ hu
  show jj_W _ _ _ _ _ _ _ _ _ _ _ _ _ _ _ _ _ 16 _ [] (wH ha cA hA nA ed cI cJ cZ td pr up dn dv rw sd mc n mo sh co Ca Cz K St Ex Am Bi As BL AL He Co ++ EE)
  refine jj_iload_n C0 2 rfl dX3_dividend_16 ?_
  refine jj_iconst C0 dX3_dividend_17 ?_
  refine jj_sipush C0 dX3_dividend_18 (by decide) ?_
  refine jj_callSv C0 (cc_X3_checkRange  (a := y) (b := 0) (d := 1000) (by omega) (by omega) (by omega) (by first | exact hd | omega)) (cwS 3 hw (lw_gS hU_178 hU_179 hU_43 hU_180) rfl rfl rfl (by decide +kernel) ⟨Nat.le_of_ble_eq_true rfl, Nat.le_of_ble_eq_true rfl⟩) rfl rfl (Nat.le_of_ble_eq_true rfl) ⟨by decide, by decide⟩ rfl rfl dX3_dividend_21 ?_
  intro _ hu
  show jj_W _ _ _ _ _ _ _ _ _ _ _ _ _ _ _ _ _ 24 _ [] (wH ha cA hA nA ed cI cJ cZ td pr up dn dv rw sd mc n mo sh co Ca Cz K St Ex Am Bi As BL AL He Co ++ EE)
  refine jj_aload_n C0 0 rfl dX3_dividend_24 ?_
  refine jj_callVl C0 (cc_X3_worthNow   (by first | exact hpr | omega) (by first | exact hexs | omega) (by first | exact hn | omega) (by first | exact htd | omega) (by first | exact hup | omega) (by first | exact hdn | omega) (by first | exact hdv | omega) (by first | exact hK | omega) (by first | exact hSt | omega) (by first | exact hEx | omega) (by first | exact hAm | omega) (by first | exact hHe | omega) (by first | exact hsh | omega) (by first | exact hED | omega)) (cwV 0 hw (lw_gV hU_249 hU_251 hU_1 hU_43 hU_252) rfl rfl rfl (by decide +kernel) ⟨Nat.le_of_ble_eq_true rfl, Nat.le_of_ble_eq_true rfl⟩) (ci := 4) (q0 := 0) rfl (rfl) rfl rfl (Nat.le_of_ble_eq_true rfl) ⟨by decide, by decide⟩ rfl rfl dX3_dividend_25 ?_
  intro r8_1 hu
  show jj_W _ _ _ _ _ _ _ _ _ _ _ _ _ _ _ _ _ 28 _ [.long (lI (f_W up dn dv td n K St Ex Am He Ca sh pr))] (wH ha cA hA nA ed cI cJ cZ td pr up dn dv r8_1 sd mc n mo sh co Ca Cz K St Ex Am Bi As BL AL He Co ++ EE)
  refine jj_lstore_n C0 (i := 3) rfl (lv' := [(3, .long (lI (f_W up dn dv td n K St Ex Am He Ca sh pr))), (0, .ref (ha 0)), (1, .int (iI (d : Int))), (2, .int (iI y))]) (by decide) rfl dX3_dividend_28 ?_
  refine jj_aload_n C0 1 rfl dX3_dividend_29 ?_
  refine jj_get C0 (ci := 4) (v := .ref (ha 1)) hin_X3 (0) (rfl) rfl 0 (by decide) (hw _ hU_138) (fun _ h9 => h9) rfl dX3_dividend_30 ?_
  refine jj_iload_n C0 2 rfl dX3_dividend_33 ?_
  refine jj_callVNi C0 (cc_X2_dividendOn  (d := d) (by first | exact hd | omega)) ⟨va_cnB 1 hw (lw_gc hU_301 lw_UU) rfl rfl rfl (hE.1 _ hN_345) (hw _ hU_44) (by decide +kernel) ⟨Nat.le_of_ble_eq_true rfl, Nat.le_of_ble_eq_true rfl⟩, hw _ hU_300, hw _ hU_8⟩ (ci := 3) (q0 := 1) rfl (rfl) rfl rfl (Nat.le_of_ble_eq_true rfl) ⟨by decide, by decide⟩ rfl rfl dX3_dividend_34 ?_
  intro _ hu
  show jj_W _ _ _ _ _ _ _ _ _ _ _ _ _ _ _ _ _ 37 _ [.int (iI (dv d))] (wH ha cA hA nA ed cI cJ cZ td pr up dn dv r8_1 sd mc n mo sh co Ca Cz K St Ex Am Bi As BL AL He Co ++ EE)
  refine jj_istore C0 (lv' := [(5, .int (iI (dv d))), (3, .long (lI (f_W up dn dv td n K St Ex Am He Ca sh pr))), (0, .ref (ha 0)), (1, .int (iI (d : Int))), (2, .int (iI y))]) (by decide) rfl dX3_dividend_37 ?_
  refine jj_aload_n C0 2 rfl dX3_dividend_39 ?_
  refine jj_get C0 (ci := 4) (v := .ref (ha 1)) hin_X3 (0) (rfl) rfl 0 (by decide) (hw _ hU_138) (fun _ h9 => h9) rfl dX3_dividend_40 ?_
  refine jj_iload_n C0 3 rfl dX3_dividend_43 ?_
  refine jj_iload_n C0 4 rfl dX3_dividend_44 ?_
  refine jj_callVNv C0 (cc_X2_tellDividend  (d := d) (y := y) (by first | exact hd | omega)) ⟨va_cnB 2 hw (lw_gc hU_349 lw_UU) rfl rfl rfl (hE.1 _ hN_346) (hw _ hU_44) (by decide +kernel) ⟨Nat.le_of_ble_eq_true rfl, Nat.le_of_ble_eq_true rfl⟩, hw _ hU_348, hw _ hU_12⟩ (ci := 3) (q0 := 1) rfl (rfl) rfl rfl (Nat.le_of_ble_eq_true rfl) ⟨by decide, by decide⟩ rfl rfl dX3_dividend_45 ?_
  intro _ hu
  show jj_W _ _ _ _ _ _ _ _ _ _ _ _ _ _ _ _ _ 48 _ [] (wH ha cA hA nA ed cI cJ cZ td pr up dn (va_up dv d y) r8_1 sd mc n mo sh co Ca Cz K St Ex Am Bi As BL AL He Co ++ EE)
  refine jj_aload_n C0 2 rfl dX3_dividend_48 ?_
  refine jj_iconst C0 dX3_dividend_49 ?_
  refine jj_aload_n C0 2 rfl dX3_dividend_50 ?_
  refine jj_callVl C0 (cc_X3_worthNow   (by first | exact hpr | omega) (by first | exact hexs | omega) (by first | exact hn | omega) (by first | exact htd | omega) (by first | exact hup | omega) (by first | exact hdn | omega) (up_bd hdv hy) (by first | exact hK | omega) (by first | exact hSt | omega) (by first | exact hEx | omega) (by first | exact hAm | omega) (by first | exact hHe | omega) (by first | exact hsh | omega) (by first | exact hED | omega)) (cwV 0 hw (lw_gV hU_249 hU_251 hU_1 hU_43 hU_252) rfl rfl rfl (by decide +kernel) ⟨Nat.le_of_ble_eq_true rfl, Nat.le_of_ble_eq_true rfl⟩) (ci := 4) (q0 := 0) rfl (rfl) rfl rfl (Nat.le_of_ble_eq_true rfl) ⟨by decide, by decide⟩ rfl rfl dX3_dividend_51 ?_
  intro r8_2 hu
  show jj_W _ _ _ _ _ _ _ _ _ _ _ _ _ _ _ _ _ 54 _ [.long (lI (f_W up dn (va_up dv d y) td n K St Ex Am He Ca sh pr)), .int (iI 5), .ref (ha 0)] (wH ha cA hA nA ed cI cJ cZ td pr up dn (va_up dv d y) r8_2 sd mc n mo sh co Ca Cz K St Ex Am Bi As BL AL He Co ++ EE)
  refine jj_lload_n C0 1 rfl dX3_dividend_54 ?_
  refine jj_lsub C0 dX3_dividend_55 ?_
  refine jj_callVv C0 (cc_X3_addProfit  (k := 5) (x := ((f_W up dn (va_up dv d y) td n K St Ex Am He Ca sh pr) - (f_W up dn dv td n K St Ex Am He Ca sh pr))) (by omega)) (cwV 2 hw (lw_gV hU_325 hU_327 hU_11 hU_43 hU_328) rfl rfl rfl (by decide +kernel) ⟨Nat.le_of_ble_eq_true rfl, Nat.le_of_ble_eq_true rfl⟩) (ci := 4) (q0 := 0) rfl (rfl) rfl rfl (Nat.le_of_ble_eq_true rfl) ⟨by decide, by decide⟩ rfl rfl dX3_dividend_56 ?_
  intro _ hu
  show jj_W _ _ _ _ _ _ _ _ _ _ _ _ _ _ _ _ _ 59 _ [] (wH ha cA hA nA ed cI cJ cZ td pr up dn (va_up dv d y) r8_2 sd mc n mo sh co Ca (va_up Cz 5 (Cz 5 + ((f_W up dn (va_up dv d y) td n K St Ex Am He Ca sh pr) - (f_W up dn dv td n K St Ex Am He Ca sh pr)))) K St Ex Am Bi As BL AL He Co ++ EE)
  refine jj_iload C0 0 rfl dX3_dividend_59 ?_
  exact jj_iret C0 hr r8_2 (trivial) (rfl) (rfl) (by decide) (by decide) dX3_dividend_61
set_option maxHeartbeats 4000000 in
set_option maxRecDepth 100000 in
theorem cc_X3_limit  {x : Int} (hx : 0 ≤ x ∧ x ≤ 1000) : jj_Mi EVh (dC, dI) vwCl [(cI, .int), (cJ, .long), (cZ, .boolean), (cO, .object "java/lang/Object")] l yX3_limit (Cond.code yX3_limit cX3_limit 3 (some .int) :: lw_U) ({ frames := 1, cells := 0, slots := 0, locals := 22 } : Room) [.ref (ha 0), .int (iI x)] (wH ha cA hA nA ed cI cJ cZ td pr up dn dv rw sd mc n mo sh co Ca Cz K St Ex Am Bi As BL AL He Co ++ EE) (S := Unit) (fun _ => mo) (fun _ => True) (fun _ => wH ha cA hA nA ed cI cJ cZ td pr up dn dv rw sd mc n x sh co Ca Cz K St Ex Am Bi As BL AL He Co ++ EE) := by
  refine jj_start (cc := cX3_limit) (nL := 3) (ret := (some .int)) (lv := [(0, .ref (ha 0)), (1, .int (iI x))]) (fun A => jj_Qi _ _ _ _ _ _ A) hEVh (by decide) rfl (Nat.le_of_ble_eq_true rfl) rfl ?_
  intro p9 e9 s9 m9 a9 b9 me9 c9 A9 C1 hr hin
  have C0 : jj_C p9 s9 m9 a9 me9 c9 (dC, dI) vwCl A9 3 cX3_limit "Strikehall" lw_U _ EVh := jj_toU C1
  have hw := C0.2.2.2.2.1
  have hE := C0.2.2.2.2.2.2.2.1
  refine jj_iload_n C0 1 rfl dX3_limit_0 ?_
  refine jj_iconst C0 dX3_limit_1 ?_
  refine jj_sipush C0 dX3_limit_2 (by decide) ?_
  refine jj_callSv C0 (cc_X3_checkRange  (a := x) (b := 0) (d := 1000) (by omega) (by omega) (by omega) (by omega)) (cwS 3 hw (lw_gS hU_178 hU_179 hU_43 hU_180) rfl rfl rfl (by decide +kernel) ⟨Nat.le_of_ble_eq_true rfl, Nat.le_of_ble_eq_true rfl⟩) rfl rfl (Nat.le_of_ble_eq_true rfl) ⟨by decide, by decide⟩ rfl rfl dX3_limit_5 ?_
  intro _ hu
  show jj_W _ _ _ _ _ _ _ _ _ _ _ _ _ _ _ _ _ 8 _ [] (wH ha cA hA nA ed cI cJ cZ td pr up dn dv rw sd mc n mo sh co Ca Cz K St Ex Am Bi As BL AL He Co ++ EE)
  refine jj_aload_n C0 0 rfl dX3_limit_8 ?_
  refine jj_get C0 (ci := 4) (v := .int (iI mo)) hin_X3 (0) (rfl) rfl 5 (by decide) (hw _ hU_143) (fun _ h9 => h9) rfl dX3_limit_9 ?_
  refine jj_istore_n C0 (i := 2) rfl (lv' := [(2, .int (iI mo)), (0, .ref (ha 0)), (1, .int (iI x))]) (by decide) rfl dX3_limit_12 ?_
  refine jj_aload_n C0 1 rfl dX3_limit_13 ?_
  refine jj_iload_n C0 2 rfl dX3_limit_14 ?_
  refine jj_put C0 (ci := 4) (v := .int (iI x)) (ty := .int) hin_X3 tyX3 tyX3_ok nmX3 (0) (rfl) rfl 5 (by decide) (hw _ hU_143) (fun _ h9 => h9) rfl (by decide +kernel) (rfl) rfl (Nat.le_of_ble_eq_true rfl) (ws' := wH ha cA hA nA ed cI cJ cZ td pr up dn dv rw sd mc n x sh co Ca Cz K St Ex Am Bi As BL AL He Co ++ EE) (rfl) dX3_limit_15 ?_
  refine jj_iload_n C0 0 rfl dX3_limit_18 ?_
  exact jj_iret C0 hr () (trivial) (rfl) (rfl) (by decide) (by decide) dX3_limit_19
set_option maxHeartbeats 4000000 in
set_option maxRecDepth 100000 in
theorem cc_X3_seed  {x : Int} (hx : 0 ≤ x ∧ x ≤ 2147483647) : jj_Mv EVh (dC, dI) vwCl [(cI, .int), (cJ, .long), (cZ, .boolean), (cO, .object "java/lang/Object")] l yX3_seed (Cond.code yX3_seed cX3_seed 2 none :: lw_U) ({ frames := 0, cells := 0, slots := 0, locals := 0 } : Room) [.ref (ha 0), .int (iI x)] (wH ha cA hA nA ed cI cJ cZ td pr up dn dv rw sd mc n mo sh co Ca Cz K St Ex Am Bi As BL AL He Co ++ EE) (S := Unit)  (fun _ => True) (fun _ => wH ha cA hA nA ed cI cJ cZ td pr up dn dv rw x mc n mo sh co Ca Cz K St Ex Am Bi As BL AL He Co ++ EE) := by
  refine jj_start (cc := cX3_seed) (nL := 2) (ret := none) (lv := [(0, .ref (ha 0)), (1, .int (iI x))]) (fun A => jj_Qv _ _ _ _ _ A) hEVh (by decide) rfl (Nat.le_of_ble_eq_true rfl) rfl ?_
  intro p9 e9 s9 m9 a9 b9 me9 c9 A9 C1 hr hin
  have C0 : jj_C p9 s9 m9 a9 me9 c9 (dC, dI) vwCl A9 2 cX3_seed "Strikehall" lw_U _ EVh := jj_toU C1
  have hw := C0.2.2.2.2.1
  have hE := C0.2.2.2.2.2.2.2.1
  refine jj_iload_n C0 1 rfl dX3_seed_0 ?_
  refine jj_if_ge C0 (by omega) dX3_seed_1 (tgt := 14) (by decide) (fun c_1 => ?_) (fun c_1 => absurd c_1 (by omega))
  refine jj_aload_n C0 0 rfl dX3_seed_14 ?_
  refine jj_get C0 (ci := 4) (v := .ref (ha 4)) hin_X3 (0) (rfl) rfl 1 (by decide) (hw _ hU_139) (fun _ h9 => h9) rfl dX3_seed_15 ?_
  refine jj_iload_n C0 1 rfl dX3_seed_18 ?_
  refine jj_i2l C0 (by omega) dX3_seed_19 ?_
  refine jj_putN C0 (ci := 2) (v := .long (lI x)) (ty := .long) hin_X1 tyX1 tyX1_ok nmX1 (4) (rfl) rfl 0 (by decide) (va_Nw.use rfl (hE.1 _ (hN_108))) (fun _ h9 => h9) rfl (by decide +kernel) (rfl) rfl (Nat.le_of_ble_eq_true rfl) (ws' := wH ha cA hA nA ed cI cJ cZ td pr up dn dv rw x mc n mo sh co Ca Cz K St Ex Am Bi As BL AL He Co ++ EE) (rfl) dX3_seed_20 ?_
  exact jj_vret C0 hr () (trivial) (rfl) (by decide) (by decide) dX3_seed_23
set_option maxHeartbeats 4000000 in
set_option maxRecDepth 100000 in
theorem cc_X3_hedge  {x y : Int} (hx : -10000 ≤ x ∧ x ≤ 10000) (hy : 0 ≤ y ∧ y ≤ 10000) (hsx : -100000 ≤ sh + x ∧ sh + x ≤ 100000) (hpr : 0 ≤ pr ∧ pr ≤ 20000) (hexs : ∀ c, c < n → Ex c ≤ (td : Int) + 10) (hn : n ≤ 12) (htd : td ≤ 200) (hup : 1 ≤ up ∧ up ≤ 10) (hdn : 1 ≤ dn ∧ dn ≤ 10) (hdv : ∀ j, 0 ≤ dv j ∧ dv j ≤ 1000) (hK : ∀ j, 0 ≤ K j ∧ K j ≤ 1) (hSt : ∀ j, 0 ≤ St j ∧ St j ≤ 20000) (hEx : ∀ j, 0 ≤ Ex j ∧ Ex j ≤ 200) (hAm : ∀ j, 0 ≤ Am j ∧ Am j ≤ 1) (hHe : ∀ j, -1000000 ≤ He j ∧ He j ≤ 1000000) (hsh : -100000 ≤ sh ∧ sh ≤ 100000) (hED : 0 < n → f_ED cA n ed cO EE) : jj_Mi EVh (dC, dI) vwCl [(cI, .int), (cJ, .long), (cZ, .boolean), (cO, .object "java/lang/Object")] l yX3_hedge (Cond.code yX3_hedge cX3_hedge 5 (some .int) :: lw_U) ({ frames := 6, cells := 0, slots := 0, locals := 142 } : Room) [.ref (ha 0), .int (iI x), .int (iI y)] (wH ha cA hA nA ed cI cJ cZ td pr up dn dv rw sd mc n mo sh co Ca Cz K St Ex Am Bi As BL AL He Co ++ EE) (S := (Nat → Int)) (fun r8 => (sh + x)) (fun r8 => True) (fun r8 => wH ha cA hA nA ed cI cJ cZ td pr up dn dv r8 sd mc n mo (sh + x) y (va_up Ca 6 ((Ca 6) - (((1000 * pr) * x) + (y * (if 0 ≤ x then x else -x))))) (va_up Cz 3 ((Cz 3) + ((f_W up dn dv td n K St Ex Am He (va_up Ca 6 ((Ca 6) - (((1000 * pr) * x) + (y * (if 0 ≤ x then x else -x))))) (sh + x) pr) - (f_W up dn dv td n K St Ex Am He Ca sh pr)))) K St Ex Am Bi As BL AL He Co ++ EE) := by
  refine jj_start (cc := cX3_hedge) (nL := 5) (ret := (some .int)) (lv := [(0, .ref (ha 0)), (1, .int (iI x)), (2, .int (iI y))]) (fun A => jj_Qi _ _ _ _ _ _ A) hEVh (by decide) rfl (Nat.le_of_ble_eq_true rfl) rfl ?_
  intro p9 e9 s9 m9 a9 b9 me9 c9 A9 C1 hr hin
  have C0 : jj_C p9 s9 m9 a9 me9 c9 (dC, dI) vwCl A9 5 cX3_hedge "Strikehall" lw_U _ EVh := jj_toU C1
  have hw := C0.2.2.2.2.1
  have hE := C0.2.2.2.2.2.2.2.1
  refine jj_iload_n C0 1 rfl dX3_hedge_0 ?_
  refine jj_sipush C0 dX3_hedge_1 (by decide) ?_
  refine jj_sipush C0 dX3_hedge_4 (by decide) ?_
  refine jj_callSv C0 (cc_X3_checkRange  (a := x) (b := (-10000)) (d := 10000) (by omega) (by omega) (by omega) (by omega)) (cwS 3 hw (lw_gS hU_178 hU_179 hU_43 hU_180) rfl rfl rfl (by decide +kernel) ⟨Nat.le_of_ble_eq_true rfl, Nat.le_of_ble_eq_true rfl⟩) rfl rfl (Nat.le_of_ble_eq_true rfl) ⟨by decide, by decide⟩ rfl rfl dX3_hedge_7 ?_
  intro _ hu
  show jj_W _ _ _ _ _ _ _ _ _ _ _ _ _ _ _ _ _ 10 _ [] (wH ha cA hA nA ed cI cJ cZ td pr up dn dv rw sd mc n mo sh co Ca Cz K St Ex Am Bi As BL AL He Co ++ EE)
  refine jj_iload_n C0 2 rfl dX3_hedge_10 ?_
  refine jj_iconst C0 dX3_hedge_11 ?_
  refine jj_sipush C0 dX3_hedge_12 (by decide) ?_
  refine jj_callSv C0 (cc_X3_checkRange  (a := y) (b := 0) (d := 10000) (by omega) (by omega) (by omega) (by omega)) (cwS 3 hw (lw_gS hU_178 hU_179 hU_43 hU_180) rfl rfl rfl (by decide +kernel) ⟨Nat.le_of_ble_eq_true rfl, Nat.le_of_ble_eq_true rfl⟩) rfl rfl (Nat.le_of_ble_eq_true rfl) ⟨by decide, by decide⟩ rfl rfl dX3_hedge_15 ?_
  intro _ hu
  show jj_W _ _ _ _ _ _ _ _ _ _ _ _ _ _ _ _ _ 18 _ [] (wH ha cA hA nA ed cI cJ cZ td pr up dn dv rw sd mc n mo sh co Ca Cz K St Ex Am Bi As BL AL He Co ++ EE)
  refine jj_aload_n C0 0 rfl dX3_hedge_18 ?_
  refine jj_get C0 (ci := 4) (v := .int (iI sh)) hin_X3 (0) (rfl) rfl 6 (by decide) (hw _ hU_144) (fun _ h9 => h9) rfl dX3_hedge_19 ?_
  refine jj_iload_n C0 1 rfl dX3_hedge_22 ?_
  refine jj_iadd C0 dX3_hedge_23 ?_
  refine jj_ldc C0 (z := -100000) (by decide) (hw _ hU_611) dX3_hedge_24 ?_
  refine jj_ldc C0 (z := 100000) (by decide) (hw _ hU_612) dX3_hedge_26 ?_
  refine jj_callSv C0 (cc_X3_checkRange  (a := (sh + x)) (b := (-100000)) (d := 100000) (by omega) (by omega) (by omega) (by omega)) (cwS 3 hw (lw_gS hU_178 hU_179 hU_43 hU_180) rfl rfl rfl (by decide +kernel) ⟨Nat.le_of_ble_eq_true rfl, Nat.le_of_ble_eq_true rfl⟩) rfl rfl (Nat.le_of_ble_eq_true rfl) ⟨by decide, by decide⟩ rfl rfl dX3_hedge_28 ?_
  intro _ hu
  show jj_W _ _ _ _ _ _ _ _ _ _ _ _ _ _ _ _ _ 31 _ [] (wH ha cA hA nA ed cI cJ cZ td pr up dn dv rw sd mc n mo sh co Ca Cz K St Ex Am Bi As BL AL He Co ++ EE)
  refine jj_aload_n C0 0 rfl dX3_hedge_31 ?_
  refine jj_callVl C0 (cc_X3_worthNow   (by first | exact hpr | omega) (by first | exact hexs | omega) (by first | exact hn | omega) (by first | exact htd | omega) (by first | exact hup | omega) (by first | exact hdn | omega) (by first | exact hdv | omega) (by first | exact hK | omega) (by first | exact hSt | omega) (by first | exact hEx | omega) (by first | exact hAm | omega) (by first | exact hHe | omega) (by first | exact hsh | omega) (by first | exact hED | omega)) (cwV 0 hw (lw_gV hU_249 hU_251 hU_1 hU_43 hU_252) rfl rfl rfl (by decide +kernel) ⟨Nat.le_of_ble_eq_true rfl, Nat.le_of_ble_eq_true rfl⟩) (ci := 4) (q0 := 0) rfl (rfl) rfl rfl (Nat.le_of_ble_eq_true rfl) ⟨by decide, by decide⟩ rfl rfl dX3_hedge_32 ?_
  intro r8_1 hu
  show jj_W _ _ _ _ _ _ _ _ _ _ _ _ _ _ _ _ _ 35 _ [.long (lI (f_W up dn dv td n K St Ex Am He Ca sh pr))] (wH ha cA hA nA ed cI cJ cZ td pr up dn dv r8_1 sd mc n mo sh co Ca Cz K St Ex Am Bi As BL AL He Co ++ EE)
  refine jj_lstore_n C0 (i := 3) rfl (lv' := [(3, .long (lI (f_W up dn dv td n K St Ex Am He Ca sh pr))), (0, .ref (ha 0)), (1, .int (iI x)), (2, .int (iI y))]) (by decide) rfl dX3_hedge_35 ?_
  refine jj_aload_n C0 1 rfl dX3_hedge_36 ?_
  refine jj_iload_n C0 3 rfl dX3_hedge_37 ?_
  refine jj_put C0 (ci := 4) (v := .int (iI y)) (ty := .int) hin_X3 tyX3 tyX3_ok nmX3 (0) (rfl) rfl 7 (by decide) (hw _ hU_145) (fun _ h9 => h9) rfl (by decide +kernel) (rfl) rfl (Nat.le_of_ble_eq_true rfl) (ws' := wH ha cA hA nA ed cI cJ cZ td pr up dn dv r8_1 sd mc n mo sh y Ca Cz K St Ex Am Bi As BL AL He Co ++ EE) (rfl) dX3_hedge_38 ?_
  refine jj_aload_n C0 1 rfl dX3_hedge_41 ?_
  refine jj_dup C0 dX3_hedge_42 rfl ?_
  refine jj_get C0 (ci := 4) (v := .int (iI sh)) hin_X3 (0) (rfl) rfl 6 (by decide) (hw _ hU_144) (fun _ h9 => h9) rfl dX3_hedge_43 ?_
  refine jj_iload_n C0 2 rfl dX3_hedge_46 ?_
  refine jj_iadd C0 dX3_hedge_47 ?_
  refine jj_put C0 (ci := 4) (v := .int (iI (sh + x))) (ty := .int) hin_X3 tyX3 tyX3_ok nmX3 (0) (rfl) rfl 6 (by decide) (hw _ hU_144) (fun _ h9 => h9) rfl (by decide +kernel) (rfl) rfl (Nat.le_of_ble_eq_true rfl) (ws' := wH ha cA hA nA ed cI cJ cZ td pr up dn dv r8_1 sd mc n mo (sh + x) y Ca Cz K St Ex Am Bi As BL AL He Co ++ EE) (rfl) dX3_hedge_48 ?_
  refine jj_aload_n C0 1 rfl dX3_hedge_51 ?_
  refine jj_bipush C0 dX3_hedge_52 (by decide) ?_
  refine jj_ldc2 C0 (z := -1000) (by decide) (hw _ hU_613) dX3_hedge_54 ?_
  refine jj_aload_n C0 1 rfl dX3_hedge_57 ?_
  refine jj_get C0 (ci := 4) (v := .ref (ha 1)) hin_X3 (0) (rfl) rfl 0 (by decide) (hw _ hU_138) (fun _ h9 => h9) rfl dX3_hedge_58 ?_
  refine jj_getN C0 (ci := 3) (v := .int (iI pr)) hin_X2 (1) (rfl) rfl 2 (by decide) (va_Nw.use rfl (hE.1 _ (hN_79))) (fun _ h9 => h9) rfl dX3_hedge_61 ?_
  refine jj_i2l C0 (by omega) dX3_hedge_64 ?_
  refine jj_lmul C0 dX3_hedge_65 ?_
  refine jj_iload_n C0 2 rfl dX3_hedge_66 ?_
  refine jj_i2l C0 (by omega) dX3_hedge_67 ?_
  refine jj_lmul C0 dX3_hedge_68 ?_
  refine jj_callVv C0 (cc_X3_addMoney  (k := 6) (x := (((-1000) * pr) * x)) (by omega)) (cwV 2 hw (lw_gV hU_583 hU_585 hU_29 hU_43 hU_586) rfl rfl rfl (by decide +kernel) ⟨Nat.le_of_ble_eq_true rfl, Nat.le_of_ble_eq_true rfl⟩) (ci := 4) (q0 := 0) rfl (rfl) rfl rfl (Nat.le_of_ble_eq_true rfl) ⟨by decide, by decide⟩ rfl rfl dX3_hedge_69 ?_
  intro _ hu
  show jj_W _ _ _ _ _ _ _ _ _ _ _ _ _ _ _ _ _ 72 _ [] (wH ha cA hA nA ed cI cJ cZ td pr up dn dv r8_1 sd mc n mo (sh + x) y (va_up Ca 6 (Ca 6 + (((-1000) * pr) * x))) Cz K St Ex Am Bi As BL AL He Co ++ EE)
  refine jj_aload_n C0 1 rfl dX3_hedge_72 ?_
  refine jj_bipush C0 dX3_hedge_73 (by decide) ?_
  refine jj_aload_n C0 1 rfl dX3_hedge_75 ?_
  refine jj_get C0 (ci := 4) (v := .int (iI y)) hin_X3 (0) (rfl) rfl 7 (by decide) (hw _ hU_145) (fun _ h9 => h9) rfl dX3_hedge_76 ?_
  refine jj_i2l C0 (by omega) dX3_hedge_79 ?_
  refine jj_lneg C0 dX3_hedge_80 ?_
  refine jj_iload_n C0 2 rfl dX3_hedge_81 ?_
  refine jj_mabs C0 (by omega) (by omega) (hw _ hU_614) (List.forall_mem_cons.mpr ⟨hw _ hU_615, List.forall_mem_cons.mpr ⟨hw _ hU_53, List.forall_mem_cons.mpr ⟨hw _ hU_616, fun _ h => absurd h List.not_mem_nil⟩⟩⟩) (by decide) (Nat.le_of_ble_eq_true rfl) ⟨by decide, by decide⟩ dX3_hedge_82 ?_
  refine jj_i2l C0 (by split <;> omega) dX3_hedge_85 ?_
  refine jj_lmul C0 dX3_hedge_86 ?_
  refine jj_callVv C0 (cc_X3_addMoney  (k := 6) (x := ((-y) * (if 0 ≤ x then x else -x))) (by omega)) (cwV 2 hw (lw_gV hU_583 hU_585 hU_29 hU_43 hU_586) rfl rfl rfl (by decide +kernel) ⟨Nat.le_of_ble_eq_true rfl, Nat.le_of_ble_eq_true rfl⟩) (ci := 4) (q0 := 0) rfl (rfl) rfl rfl (Nat.le_of_ble_eq_true rfl) ⟨by decide, by decide⟩ rfl rfl dX3_hedge_87 ?_
  intro _ hu
  show jj_W _ _ _ _ _ _ _ _ _ _ _ _ _ _ _ _ _ 90 _ [] (wH ha cA hA nA ed cI cJ cZ td pr up dn dv r8_1 sd mc n mo (sh + x) y (va_up (va_up Ca 6 (Ca 6 + (((-1000) * pr) * x))) 6 ((va_up Ca 6 (Ca 6 + (((-1000) * pr) * x))) 6 + ((-y) * (if 0 ≤ x then x else -x)))) Cz K St Ex Am Bi As BL AL He Co ++ EE)
  refine jj_ws (ws' := wH ha cA hA nA ed cI cJ cZ td pr up dn dv r8_1 sd mc n mo (sh + x) y (va_up Ca 6 ((Ca 6) - (((1000 * pr) * x) + (y * (if 0 ≤ x then x else -x))))) Cz K St Ex Am Bi As BL AL He Co ++ EE) (by rw [va_up_self, up_up, show (Ca 6 + -1000 * pr * x + -y * (if 0 ≤ x then x else -x)) = (Ca 6 - (1000 * pr * x + y * (if 0 ≤ x then x else -x))) by rw [Int.neg_mul, Int.neg_mul, Int.neg_mul]; omega]) ?_
  refine jj_aload_n C0 1 rfl dX3_hedge_90 ?_
  refine jj_iconst C0 dX3_hedge_91 ?_
  refine jj_aload_n C0 1 rfl dX3_hedge_92 ?_
  refine jj_callVl C0 (cc_X3_worthNow   (by first | exact hpr | omega) (by first | exact hexs | omega) (by first | exact hn | omega) (by first | exact htd | omega) (by first | exact hup | omega) (by first | exact hdn | omega) (by first | exact hdv | omega) (by first | exact hK | omega) (by first | exact hSt | omega) (by first | exact hEx | omega) (by first | exact hAm | omega) (by first | exact hHe | omega) hsx (by first | exact hED | omega)) (cwV 0 hw (lw_gV hU_249 hU_251 hU_1 hU_43 hU_252) rfl rfl rfl (by decide +kernel) ⟨Nat.le_of_ble_eq_true rfl, Nat.le_of_ble_eq_true rfl⟩) (ci := 4) (q0 := 0) rfl (rfl) rfl rfl (Nat.le_of_ble_eq_true rfl) ⟨by decide, by decide⟩ rfl rfl dX3_hedge_93 ?_
  intro r8_2 hu
  show jj_W _ _ _ _ _ _ _ _ _ _ _ _ _ _ _ _ _ 96 _ [.long (lI (f_W up dn dv td n K St Ex Am He (va_up Ca 6 ((Ca 6) - (((1000 * pr) * x) + (y * (if 0 ≤ x then x else -x))))) (sh + x) pr)), .int (iI 3), .ref (ha 0)] (wH ha cA hA nA ed cI cJ cZ td pr up dn dv r8_2 sd mc n mo (sh + x) y (va_up Ca 6 ((Ca 6) - (((1000 * pr) * x) + (y * (if 0 ≤ x then x else -x))))) Cz K St Ex Am Bi As BL AL He Co ++ EE)
  refine jj_lload_n C0 0 rfl dX3_hedge_96 ?_
  refine jj_lsub C0 dX3_hedge_97 ?_
  refine jj_callVv C0 (cc_X3_addProfit  (k := 3) (x := ((f_W up dn dv td n K St Ex Am He (va_up Ca 6 ((Ca 6) - (((1000 * pr) * x) + (y * (if 0 ≤ x then x else -x))))) (sh + x) pr) - (f_W up dn dv td n K St Ex Am He Ca sh pr))) (by omega)) (cwV 2 hw (lw_gV hU_325 hU_327 hU_11 hU_43 hU_328) rfl rfl rfl (by decide +kernel) ⟨Nat.le_of_ble_eq_true rfl, Nat.le_of_ble_eq_true rfl⟩) (ci := 4) (q0 := 0) rfl (rfl) rfl rfl (Nat.le_of_ble_eq_true rfl) ⟨by decide, by decide⟩ rfl rfl dX3_hedge_98 ?_
  intro _ hu
  show jj_W _ _ _ _ _ _ _ _ _ _ _ _ _ _ _ _ _ 101 _ [] (wH ha cA hA nA ed cI cJ cZ td pr up dn dv r8_2 sd mc n mo (sh + x) y (va_up Ca 6 ((Ca 6) - (((1000 * pr) * x) + (y * (if 0 ≤ x then x else -x))))) (va_up Cz 3 (Cz 3 + ((f_W up dn dv td n K St Ex Am He (va_up Ca 6 ((Ca 6) - (((1000 * pr) * x) + (y * (if 0 ≤ x then x else -x))))) (sh + x) pr) - (f_W up dn dv td n K St Ex Am He Ca sh pr)))) K St Ex Am Bi As BL AL He Co ++ EE)
  refine jj_aload_n C0 1 rfl dX3_hedge_101 ?_
  refine jj_get C0 (ci := 4) (v := .int (iI (sh + x))) hin_X3 (0) (rfl) rfl 6 (by decide) (hw _ hU_144) (fun _ h9 => h9) rfl dX3_hedge_102 ?_
  exact jj_iret C0 hr r8_2 (trivial) (rfl) (rfl) (by decide) (by decide) dX3_hedge_105
set_option maxHeartbeats 4000000 in
set_option maxRecDepth 100000 in
theorem cc_X3_worth   (hpr : 0 ≤ pr ∧ pr ≤ 20000) (hexs : ∀ c, c < n → Ex c ≤ (td : Int) + 10) (hn : n ≤ 12) (htd : td ≤ 200) (hup : 1 ≤ up ∧ up ≤ 10) (hdn : 1 ≤ dn ∧ dn ≤ 10) (hdv : ∀ j, 0 ≤ dv j ∧ dv j ≤ 1000) (hK : ∀ j, 0 ≤ K j ∧ K j ≤ 1) (hSt : ∀ j, 0 ≤ St j ∧ St j ≤ 20000) (hEx : ∀ j, 0 ≤ Ex j ∧ Ex j ≤ 200) (hAm : ∀ j, 0 ≤ Am j ∧ Am j ≤ 1) (hHe : ∀ j, -1000000 ≤ He j ∧ He j ≤ 1000000) (hsh : -100000 ≤ sh ∧ sh ≤ 100000) (hED : 0 < n → f_ED cA n ed cO EE) : jj_Ml EVh (dC, dI) vwCl [(cI, .int), (cJ, .long), (cZ, .boolean), (cO, .object "java/lang/Object")] l yX3_worth (Cond.code yX3_worth cX3_worth 1 (some .long) :: lw_U) ({ frames := 6, cells := 0, slots := 0, locals := 142 } : Room) [.ref (ha 0)] (wH ha cA hA nA ed cI cJ cZ td pr up dn dv rw sd mc n mo sh co Ca Cz K St Ex Am Bi As BL AL He Co ++ EE) (S := (Nat → Int)) (fun r8 => (f_W up dn dv td n K St Ex Am He Ca sh pr)) (fun r8 => True) (fun r8 => wH ha cA hA nA ed cI cJ cZ td pr up dn dv r8 sd mc n mo sh co Ca Cz K St Ex Am Bi As BL AL He Co ++ EE) := by
  refine jj_start (cc := cX3_worth) (nL := 1) (ret := (some .long)) (lv := [(0, .ref (ha 0))]) (fun A => jj_Ql _ _ _ _ _ _ A) hEVh (by decide) rfl (Nat.le_of_ble_eq_true rfl) rfl ?_
  intro p9 e9 s9 m9 a9 b9 me9 c9 A9 C1 hr hin
  have C0 : jj_C p9 s9 m9 a9 me9 c9 (dC, dI) vwCl A9 1 cX3_worth "Strikehall" lw_U _ EVh := jj_toU C1
  have hw := C0.2.2.2.2.1
  have hE := C0.2.2.2.2.2.2.2.1
  refine jj_aload_n C0 0 rfl dX3_worth_0 ?_
  refine jj_callVl C0 (cc_X3_worthNow   (by first | exact hpr | omega) (by first | exact hexs | omega) (by first | exact hn | omega) (by first | exact htd | omega) (by first | exact hup | omega) (by first | exact hdn | omega) (by first | exact hdv | omega) (by first | exact hK | omega) (by first | exact hSt | omega) (by first | exact hEx | omega) (by first | exact hAm | omega) (by first | exact hHe | omega) (by first | exact hsh | omega) (by first | exact hED | omega)) (cwV 0 hw (lw_gV hU_249 hU_251 hU_1 hU_43 hU_252) rfl rfl rfl (by decide +kernel) ⟨Nat.le_of_ble_eq_true rfl, Nat.le_of_ble_eq_true rfl⟩) (ci := 4) (q0 := 0) rfl (rfl) rfl rfl (Nat.le_of_ble_eq_true rfl) ⟨by decide, by decide⟩ rfl rfl dX3_worth_1 ?_
  intro r8_1 hu
  show jj_W _ _ _ _ _ _ _ _ _ _ _ _ _ _ _ _ _ 4 _ [.long (lI (f_W up dn dv td n K St Ex Am He Ca sh pr))] (wH ha cA hA nA ed cI cJ cZ td pr up dn dv r8_1 sd mc n mo sh co Ca Cz K St Ex Am Bi As BL AL He Co ++ EE)
  exact jj_lret C0 hr r8_1 (trivial) (rfl) (rfl) (by decide) (by decide) dX3_worth_4
set_option maxHeartbeats 4000000 in
set_option maxRecDepth 100000 in
theorem cc_X3_cash  {k : Nat} {z : Int} (hzk : (z = -1 ∧ k = 6) ∨ (z = (k : Int) ∧ k ≤ 5)) : jj_Ml EVh (dC, dI) vwCl [(cI, .int), (cJ, .long), (cZ, .boolean), (cO, .object "java/lang/Object")] l yX3_cash (Cond.code yX3_cash cX3_cash 2 (some .long) :: lw_U) ({ frames := 2, cells := 0, slots := 0, locals := 40 } : Room) [.ref (ha 0), .int (iI z)] (wH ha cA hA nA ed cI cJ cZ td pr up dn dv rw sd mc n mo sh co Ca Cz K St Ex Am Bi As BL AL He Co ++ EE) (S := Unit) (fun _ => (Ca k)) (fun _ => True) (fun _ => wH ha cA hA nA ed cI cJ cZ td pr up dn dv rw sd mc n mo sh co Ca Cz K St Ex Am Bi As BL AL He Co ++ EE) := by
  refine jj_start (cc := cX3_cash) (nL := 2) (ret := (some .long)) (lv := [(0, .ref (ha 0)), (1, .int (iI z))]) (fun A => jj_Ql _ _ _ _ _ _ A) hEVh (by decide) rfl (Nat.le_of_ble_eq_true rfl) rfl ?_
  intro p9 e9 s9 m9 a9 b9 me9 c9 A9 C1 hr hin
  have C0 : jj_C p9 s9 m9 a9 me9 c9 (dC, dI) vwCl A9 2 cX3_cash "Strikehall" lw_U _ EVh := jj_toU C1
  have hw := C0.2.2.2.2.1
  have hE := C0.2.2.2.2.2.2.2.1
  refine jj_aload_n C0 0 rfl dX3_cash_0 ?_
  refine jj_iload_n C0 1 rfl dX3_cash_1 ?_
  refine jj_callSi C0 (cc_X3_placeOf  (z := z) (k := k) (by first | exact hzk | omega)) (cwS 1 hw (lw_gS hU_632 hU_633 hU_43 hU_634) rfl rfl rfl (by decide +kernel) ⟨Nat.le_of_ble_eq_true rfl, Nat.le_of_ble_eq_true rfl⟩) rfl rfl (Nat.le_of_ble_eq_true rfl) ⟨by decide, by decide⟩ rfl rfl dX3_cash_2 ?_
  intro _ hu
  show jj_W _ _ _ _ _ _ _ _ _ _ _ _ _ _ _ _ _ 5 _ [.int (iI (k : Int)), .ref (ha 0)] (wH ha cA hA nA ed cI cJ cZ td pr up dn dv rw sd mc n mo sh co Ca Cz K St Ex Am Bi As BL AL He Co ++ EE)
  refine jj_callVl C0 (cc_X3_moneyAt  (k := k) (by omega)) (cwV 1 hw (lw_gV hU_257 hU_259 hU_3 hU_43 hU_260) rfl rfl rfl (by decide +kernel) ⟨Nat.le_of_ble_eq_true rfl, Nat.le_of_ble_eq_true rfl⟩) (ci := 4) (q0 := 0) rfl (rfl) rfl rfl (Nat.le_of_ble_eq_true rfl) ⟨by decide, by decide⟩ rfl rfl dX3_cash_5 ?_
  intro _ hu
  show jj_W _ _ _ _ _ _ _ _ _ _ _ _ _ _ _ _ _ 8 _ [.long (lI (Ca k))] (wH ha cA hA nA ed cI cJ cZ td pr up dn dv rw sd mc n mo sh co Ca Cz K St Ex Am Bi As BL AL He Co ++ EE)
  exact jj_lret C0 hr () (trivial) (rfl) (rfl) (by decide) (by decide) dX3_cash_8
set_option maxHeartbeats 4000000 in
set_option maxRecDepth 100000 in
theorem cc_X3_lots  {c k : Nat} {z : Int} (hzk : (z = -1 ∧ k = 6) ∨ (z = (k : Int) ∧ k ≤ 5)) (hcn : c < n) (hn : n ≤ 12) (hED : 0 < n → f_ED cA n ed cO EE) : jj_Mi EVh (dC, dI) vwCl [(cI, .int), (cJ, .long), (cZ, .boolean), (cO, .object "java/lang/Object")] l yX3_lots (Cond.code yX3_lots cX3_lots 4 (some .int) :: lw_U) ({ frames := 4, cells := 0, slots := 0, locals := 85 } : Room) [.ref (ha 0), .int (iI z), .int (iI (c : Int))] (wH ha cA hA nA ed cI cJ cZ td pr up dn dv rw sd mc n mo sh co Ca Cz K St Ex Am Bi As BL AL He Co ++ EE) (S := Unit) (fun _ => (He (7 * c + k))) (fun _ => True) (fun _ => wH ha cA hA nA ed cI cJ cZ td pr up dn dv rw sd mc n mo sh co Ca Cz K St Ex Am Bi As BL AL He Co ++ EE) := by
  refine jj_start (cc := cX3_lots) (nL := 4) (ret := (some .int)) (lv := [(0, .ref (ha 0)), (1, .int (iI z)), (2, .int (iI (c : Int)))]) (fun A => jj_Qi _ _ _ _ _ _ A) hEVh (by decide) rfl (Nat.le_of_ble_eq_true rfl) rfl ?_
  intro p9 e9 s9 m9 a9 b9 me9 c9 A9 C1 hr hin
  have C0 : jj_C p9 s9 m9 a9 me9 c9 (dC, dI) vwCl A9 4 cX3_lots "Strikehall" lw_U _ EVh := jj_toU C1
  have hw := C0.2.2.2.2.1
  have hE := C0.2.2.2.2.2.2.2.1
  refine jj_iload_n C0 1 rfl dX3_lots_0 ?_
  refine jj_callSi C0 (cc_X3_placeOf  (z := z) (k := k) (by first | exact hzk | omega)) (cwS 1 hw (lw_gS hU_632 hU_633 hU_43 hU_634) rfl rfl rfl (by decide +kernel) ⟨Nat.le_of_ble_eq_true rfl, Nat.le_of_ble_eq_true rfl⟩) rfl rfl (Nat.le_of_ble_eq_true rfl) ⟨by decide, by decide⟩ rfl rfl dX3_lots_1 ?_
  intro _ hu
  show jj_W _ _ _ _ _ _ _ _ _ _ _ _ _ _ _ _ _ 4 _ [.int (iI (k : Int))] (wH ha cA hA nA ed cI cJ cZ td pr up dn dv rw sd mc n mo sh co Ca Cz K St Ex Am Bi As BL AL He Co ++ EE)
  refine jj_istore_n C0 (i := 3) rfl (lv' := [(3, .int (iI (k : Int))), (0, .ref (ha 0)), (1, .int (iI z)), (2, .int (iI (c : Int)))]) (by decide) rfl dX3_lots_4 ?_
  refine jj_aload_n C0 1 rfl dX3_lots_5 ?_
  refine jj_iload_n C0 3 rfl dX3_lots_6 ?_
  refine jj_callVr C0 (cc_X3_contractOf  (c := c) (by first | exact hcn | omega) (by first | exact hn | omega) (by first | exact hED | omega)) (cwV 1 hw (lw_gV hU_481 hU_483 hU_16 hU_43 hU_484) rfl rfl rfl (by decide +kernel) ⟨Nat.le_of_ble_eq_true rfl, Nat.le_of_ble_eq_true rfl⟩) (ci := 4) (q0 := 0) rfl (rfl) rfl rfl (Nat.le_of_ble_eq_true rfl) ⟨by decide, by decide⟩ rfl rfl dX3_lots_7 ?_
  intro _ hu
  show jj_W _ _ _ _ _ _ _ _ _ _ _ _ _ _ _ _ _ 10 _ [.ref (cA c)] (wH ha cA hA nA ed cI cJ cZ td pr up dn dv rw sd mc n mo sh co Ca Cz K St Ex Am Bi As BL AL He Co ++ EE)
  refine jj_iload_n C0 0 rfl dX3_lots_10 ?_
  refine jj_callVNi C0 (cc_X0_lotsAt  (c := c) (k := k) (by omega) (by first | exact hcn | omega)) ⟨va_cnB 1 hw (lw_gc hU_285 lw_UU) rfl rfl rfl (hE.1 _ hN_281) (hw _ hU_55) (by decide +kernel) ⟨Nat.le_of_ble_eq_true rfl, Nat.le_of_ble_eq_true rfl⟩, hw _ hU_283, hw _ hU_4⟩ (ci := 1) (q0 := (8 + (3 * c + 0))) rfl ((wH_c (c := c) (by omega))) rfl rfl (Nat.le_of_ble_eq_true rfl) ⟨by decide, by decide⟩ rfl rfl dX3_lots_11 ?_
  intro _ hu
  show jj_W _ _ _ _ _ _ _ _ _ _ _ _ _ _ _ _ _ 14 _ [.int (iI (He (7 * c + k)))] (wH ha cA hA nA ed cI cJ cZ td pr up dn dv rw sd mc n mo sh co Ca Cz K St Ex Am Bi As BL AL He Co ++ EE)
  exact jj_iret C0 hr () (trivial) (rfl) (rfl) (by decide) (by decide) dX3_lots_14
set_option maxHeartbeats 4000000 in
set_option maxRecDepth 100000 in
theorem cc_X3_cause  {k : Nat} (hk : k ≤ 5) : jj_Ml EVh (dC, dI) vwCl [(cI, .int), (cJ, .long), (cZ, .boolean), (cO, .object "java/lang/Object")] l yX3_cause (Cond.code yX3_cause cX3_cause 2 (some .long) :: lw_U) ({ frames := 0, cells := 0, slots := 0, locals := 0 } : Room) [.ref (ha 0), .int (iI (k : Int))] (wH ha cA hA nA ed cI cJ cZ td pr up dn dv rw sd mc n mo sh co Ca Cz K St Ex Am Bi As BL AL He Co ++ EE) (S := Unit) (fun _ => (Cz k)) (fun _ => True) (fun _ => wH ha cA hA nA ed cI cJ cZ td pr up dn dv rw sd mc n mo sh co Ca Cz K St Ex Am Bi As BL AL He Co ++ EE) := by
  refine jj_start (cc := cX3_cause) (nL := 2) (ret := (some .long)) (lv := [(0, .ref (ha 0)), (1, .int (iI (k : Int)))]) (fun A => jj_Ql _ _ _ _ _ _ A) hEVh (by decide) rfl (Nat.le_of_ble_eq_true rfl) rfl ?_
  intro p9 e9 s9 m9 a9 b9 me9 c9 A9 C1 hr hin
  have C0 : jj_C p9 s9 m9 a9 me9 c9 (dC, dI) vwCl A9 2 cX3_cause "Strikehall" lw_U _ EVh := jj_toU C1
  have hw := C0.2.2.2.2.1
  have hE := C0.2.2.2.2.2.2.2.1
  refine jj_iload_n C0 1 rfl dX3_cause_0 ?_
  refine jj_if_lt C0 (by omega) dX3_cause_1 (tgt := 13) (by decide) (fun c_1 => absurd c_1 (by omega)) (fun c_1 => ?_)
  refine jj_iload_n C0 1 rfl dX3_cause_4 ?_
  refine jj_aload_n C0 0 rfl dX3_cause_5 ?_
  refine jj_get C0 (ci := 4) (v := .ref (ha 7)) hin_X3 (0) (rfl) rfl 4 (by decide) (hw _ hU_142) (fun _ h9 => h9) rfl dX3_cause_6 ?_
  refine jj_alen C0 (q0 := 7) (t0 := 1) (z := 6) (rfl) rfl rfl dX3_cause_9 ?_
  refine jj_icmp_lt C0 (by omega) (by omega) dX3_cause_10 (tgt := 23) (by decide) (fun c_2 => ?_) (fun c_2 => absurd c_2 (by omega))
  refine jj_aload_n C0 0 rfl dX3_cause_23 ?_
  refine jj_get C0 (ci := 4) (v := .ref (ha 7)) hin_X3 (0) (rfl) rfl 4 (by decide) (hw _ hU_142) (fun _ h9 => h9) rfl dX3_cause_24 ?_
  refine jj_iload_n C0 1 rfl dX3_cause_27 ?_
  refine jj_lald C0 (q0 := 7) (t0 := 1) (f := Cz) (rfl) rfl (k := k) (by omega) (by omega) (by decide) dX3_cause_28 ?_
  exact jj_lret C0 hr () (trivial) (rfl) (rfl) (by decide) (by decide) dX3_cause_29
set_option maxHeartbeats 4000000 in
set_option maxRecDepth 100000 in
theorem cc_X3_mark  {c : Nat} (hcn : c < n) (hpr : 0 ≤ pr ∧ pr ≤ 20000) (hexs : ∀ c, c < n → Ex c ≤ (td : Int) + 10) (hn : n ≤ 12) (htd : td ≤ 200) (hup : 1 ≤ up ∧ up ≤ 10) (hdn : 1 ≤ dn ∧ dn ≤ 10) (hdv : ∀ j, 0 ≤ dv j ∧ dv j ≤ 1000) (hK : ∀ j, 0 ≤ K j ∧ K j ≤ 1) (hSt : ∀ j, 0 ≤ St j ∧ St j ≤ 20000) (hEx : ∀ j, 0 ≤ Ex j ∧ Ex j ≤ 200) (hAm : ∀ j, 0 ≤ Am j ∧ Am j ≤ 1) (hED : 0 < n → f_ED cA n ed cO EE) : jj_Mi EVh (dC, dI) vwCl [(cI, .int), (cJ, .long), (cZ, .boolean), (cO, .object "java/lang/Object")] l yX3_mark (Cond.code yX3_mark cX3_mark 2 (some .int) :: lw_U) ({ frames := 4, cells := 0, slots := 0, locals := 96 } : Room) [.ref (ha 0), .int (iI (c : Int))] (wH ha cA hA nA ed cI cJ cZ td pr up dn dv rw sd mc n mo sh co Ca Cz K St Ex Am Bi As BL AL He Co ++ EE) (S := (Nat → Int)) (fun r8 => (f_mark up dn dv td (K c) (St c) (Ex c) (Am c) pr)) (fun r8 => True) (fun r8 => wH ha cA hA nA ed cI cJ cZ td pr up dn dv r8 sd mc n mo sh co Ca Cz K St Ex Am Bi As BL AL He Co ++ EE) := by
  refine jj_start (cc := cX3_mark) (nL := 2) (ret := (some .int)) (lv := [(0, .ref (ha 0)), (1, .int (iI (c : Int)))]) (fun A => jj_Qi _ _ _ _ _ _ A) hEVh (by decide) rfl (Nat.le_of_ble_eq_true rfl) rfl ?_
  intro p9 e9 s9 m9 a9 b9 me9 c9 A9 C1 hr hin
  have C0 : jj_C p9 s9 m9 a9 me9 c9 (dC, dI) vwCl A9 2 cX3_mark "Strikehall" lw_U _ EVh := jj_toU C1
  have hw := C0.2.2.2.2.1
  have hE := C0.2.2.2.2.2.2.2.1
  refine jj_aload_n C0 0 rfl dX3_mark_0 ?_
  refine jj_get C0 (ci := 4) (v := .ref (ha 1)) hin_X3 (0) (rfl) rfl 0 (by decide) (hw _ hU_138) (fun _ h9 => h9) rfl dX3_mark_1 ?_
  refine jj_aload_n C0 0 rfl dX3_mark_4 ?_
  refine jj_iload_n C0 1 rfl dX3_mark_5 ?_
  refine jj_callVr C0 (cc_X3_contractOf  (c := c) (by first | exact hcn | omega) (by first | exact hn | omega) (by first | exact hED | omega)) (cwV 1 hw (lw_gV hU_481 hU_483 hU_16 hU_43 hU_484) rfl rfl rfl (by decide +kernel) ⟨Nat.le_of_ble_eq_true rfl, Nat.le_of_ble_eq_true rfl⟩) (ci := 4) (q0 := 0) rfl (rfl) rfl rfl (Nat.le_of_ble_eq_true rfl) ⟨by decide, by decide⟩ rfl rfl dX3_mark_6 ?_
  intro _ hu
  show jj_W _ _ _ _ _ _ _ _ _ _ _ _ _ _ _ _ _ 9 _ [.ref (cA c), .ref (ha 1)] (wH ha cA hA nA ed cI cJ cZ td pr up dn dv rw sd mc n mo sh co Ca Cz K St Ex Am Bi As BL AL He Co ++ EE)
  refine jj_aload_n C0 0 rfl dX3_mark_9 ?_
  refine jj_get C0 (ci := 4) (v := .ref (ha 1)) hin_X3 (0) (rfl) rfl 0 (by decide) (hw _ hU_138) (fun _ h9 => h9) rfl dX3_mark_10 ?_
  refine jj_getN C0 (ci := 3) (v := .int (iI pr)) hin_X2 (1) (rfl) rfl 2 (by decide) (va_Nw.use rfl (hE.1 _ (hN_79))) (fun _ h9 => h9) rfl dX3_mark_13 ?_
  refine jj_callVNi C0 (cc_X2_markAt  (c := c) (fr := pr) (hexs c hcn) (by first | exact hcn | omega) (by first | exact htd | omega) (by omega) (by first | exact hup | omega) (by first | exact hdn | omega) (by first | exact hdv | omega) (by first | exact hK | omega) (by first | exact hSt | omega) (by first | exact hEx | omega) (by first | exact hAm | omega)) ⟨va_cnB 2 hw (lw_gc hU_289 lw_UU) rfl rfl rfl (hE.1 _ hN_286) (hw _ hU_44) (by decide +kernel) ⟨Nat.le_of_ble_eq_true rfl, Nat.le_of_ble_eq_true rfl⟩, hw _ hU_288, hw _ hU_5⟩ (ci := 3) (q0 := 1) rfl (rfl) rfl rfl (Nat.le_of_ble_eq_true rfl) ⟨by decide, by decide⟩ rfl rfl dX3_mark_16 ?_
  intro r8_1 hu
  show jj_W _ _ _ _ _ _ _ _ _ _ _ _ _ _ _ _ _ 19 _ [.int (iI (f_mark up dn dv td (K c) (St c) (Ex c) (Am c) pr))] (wH ha cA hA nA ed cI cJ cZ td pr up dn dv r8_1 sd mc n mo sh co Ca Cz K St Ex Am Bi As BL AL He Co ++ EE)
  exact jj_iret C0 hr r8_1 (trivial) (rfl) (rfl) (by decide) (by decide) dX3_mark_19
set_option maxHeartbeats 4000000 in
set_option maxRecDepth 100000 in
theorem cc_X3_contrary  {c k : Nat} {v : Int} (hk : k ≤ 5) (hv : v = 0 ∨ v = 1) (hov : (td : Int) ≤ Ex c) (hcn : c < n) (hn : n ≤ 12) (hED : 0 < n → f_ED cA n ed cO EE) (hCo : ∀ j, 0 ≤ Co j ∧ Co j ≤ 1) (htd : td ≤ 200) (hEx : ∀ j, 0 ≤ Ex j ∧ Ex j ≤ 200) : jj_Mi EVh (dC, dI) vwCl [(cI, .int), (cJ, .long), (cZ, .boolean), (cO, .object "java/lang/Object")] l yX3_contrary (Cond.code yX3_contrary cX3_contrary 5 (some .boolean) :: lw_U) ({ frames := 4, cells := 0, slots := 0, locals := 85 } : Room) [.ref (ha 0), .int (iI (k : Int)), .int (iI (c : Int)), .int (iI v)] (wH ha cA hA nA ed cI cJ cZ td pr up dn dv rw sd mc n mo sh co Ca Cz K St Ex Am Bi As BL AL He Co ++ EE) (S := Unit) (fun _ => (if Co (7 * c + k) = v then 0 else 1)) (fun _ => True) (fun _ => wH ha cA hA nA ed cI cJ cZ td pr up dn dv rw sd mc n mo sh co Ca Cz K St Ex Am Bi As BL AL He (va_up Co (7 * c + k) v) ++ EE) := by
  refine jj_start (cc := cX3_contrary) (nL := 5) (ret := (some .boolean)) (lv := [(0, .ref (ha 0)), (1, .int (iI (k : Int))), (2, .int (iI (c : Int))), (3, .int (iI v))]) (fun A => jj_Qi _ _ _ _ _ _ A) hEVh (by decide) rfl (Nat.le_of_ble_eq_true rfl) rfl ?_
  intro p9 e9 s9 m9 a9 b9 me9 c9 A9 C1 hr hin
  have C0 : jj_C p9 s9 m9 a9 me9 c9 (dC, dI) vwCl A9 5 cX3_contrary "Strikehall" lw_U _ EVh := jj_toU C1
  have hw := C0.2.2.2.2.1
  have hE := C0.2.2.2.2.2.2.2.1
  refine jj_iload_n C0 1 rfl dX3_contrary_0 ?_
  refine jj_callSv C0 (cc_X3_checkCustomer  (z := (k : Int)) (by omega)) (cwS 1 hw (lw_gS hU_565 hU_566 hU_43 hU_567) rfl rfl rfl (by decide +kernel) ⟨Nat.le_of_ble_eq_true rfl, Nat.le_of_ble_eq_true rfl⟩) rfl rfl (Nat.le_of_ble_eq_true rfl) ⟨by decide, by decide⟩ rfl rfl dX3_contrary_1 ?_
  intro _ hu
  show jj_W _ _ _ _ _ _ _ _ _ _ _ _ _ _ _ _ _ 4 _ [] (wH ha cA hA nA ed cI cJ cZ td pr up dn dv rw sd mc n mo sh co Ca Cz K St Ex Am Bi As BL AL He Co ++ EE)
  refine jj_aload_n C0 0 rfl dX3_contrary_4 ?_
  refine jj_iload_n C0 2 rfl dX3_contrary_5 ?_
  refine jj_callVr C0 (cc_X3_contractOf  (c := c) (by first | exact hcn | omega) (by first | exact hn | omega) (by first | exact hED | omega)) (cwV 1 hw (lw_gV hU_481 hU_483 hU_16 hU_43 hU_484) rfl rfl rfl (by decide +kernel) ⟨Nat.le_of_ble_eq_true rfl, Nat.le_of_ble_eq_true rfl⟩) (ci := 4) (q0 := 0) rfl (rfl) rfl rfl (Nat.le_of_ble_eq_true rfl) ⟨by decide, by decide⟩ rfl rfl dX3_contrary_6 ?_
  intro _ hu
  show jj_W _ _ _ _ _ _ _ _ _ _ _ _ _ _ _ _ _ 9 _ [.ref (cA c)] (wH ha cA hA nA ed cI cJ cZ td pr up dn dv rw sd mc n mo sh co Ca Cz K St Ex Am Bi As BL AL He Co ++ EE)
  refine jj_astore C0 (lv' := [(4, .ref (cA c)), (0, .ref (ha 0)), (1, .int (iI (k : Int))), (2, .int (iI (c : Int))), (3, .int (iI v))]) (by decide) rfl dX3_contrary_9 ?_
  refine jj_aload_n C0 1 rfl dX3_contrary_11 ?_
  refine jj_aload C0 0 rfl dX3_contrary_12 ?_
  refine jj_callVv C0 (cc_X3_checkNotOver  (c := c) (by first | exact hov | omega) (by first | exact hcn | omega) (by first | exact htd | omega) (by first | exact hEx | omega)) (cwV 1 hw (lw_gV hU_501 hU_503 hU_17 hU_43 hU_504) rfl rfl rfl (by decide +kernel) ⟨Nat.le_of_ble_eq_true rfl, Nat.le_of_ble_eq_true rfl⟩) (ci := 4) (q0 := 0) rfl (rfl) rfl rfl (Nat.le_of_ble_eq_true rfl) ⟨by decide, by decide⟩ rfl rfl dX3_contrary_14 ?_
  intro _ hu
  show jj_W _ _ _ _ _ _ _ _ _ _ _ _ _ _ _ _ _ 17 _ [] (wH ha cA hA nA ed cI cJ cZ td pr up dn dv rw sd mc n mo sh co Ca Cz K St Ex Am Bi As BL AL He Co ++ EE)
  refine jj_aload C0 0 rfl dX3_contrary_17 ?_
  refine jj_iload_n C0 2 rfl dX3_contrary_19 ?_
  refine jj_iload_n C0 4 rfl dX3_contrary_20 ?_
  refine jj_callVNi C0 (cc_X0_setNotice  (c := c) (k := k) (v := v) (by omega) (by first | exact hv | omega) (by first | exact hcn | omega) (by first | exact hCo | omega)) ⟨va_cnB 2 hw (lw_gc hU_668 lw_UU) rfl rfl rfl (hE.1 _ hN_665) (hw _ hU_55) (by decide +kernel) ⟨Nat.le_of_ble_eq_true rfl, Nat.le_of_ble_eq_true rfl⟩, hw _ hU_667, hw _ hU_38⟩ (ci := 1) (q0 := (8 + (3 * c + 0))) rfl ((wH_c (c := c) (by omega))) rfl rfl (Nat.le_of_ble_eq_true rfl) ⟨by decide, by decide⟩ rfl rfl dX3_contrary_21 ?_
  intro _ hu
  show jj_W _ _ _ _ _ _ _ _ _ _ _ _ _ _ _ _ _ 24 _ [.int (iI (if Co (7 * c + k) = v then 0 else 1))] (wH ha cA hA nA ed cI cJ cZ td pr up dn dv rw sd mc n mo sh co Ca Cz K St Ex Am Bi As BL AL He (va_up Co (7 * c + k) v) ++ EE)
  exact jj_zret C0 hr () (trivial) (rfl) (by split <;> simp) (rfl) (by decide) (by decide) dX3_contrary_24
set_option maxHeartbeats 4000000 in
set_option maxRecDepth 100000 in
theorem cc_X3_worst  {m : Nat} (hm : m ≤ 100) (hCa : ∀ j, -100000000000000000 ≤ Ca j ∧ Ca j ≤ 100000000000000000) (hpr : 0 ≤ pr ∧ pr ≤ 20000) (hexs : ∀ c, c < n → Ex c ≤ (td : Int) + 10) (hn : n ≤ 12) (htd : td ≤ 200) (hup : 1 ≤ up ∧ up ≤ 10) (hdn : 1 ≤ dn ∧ dn ≤ 10) (hdv : ∀ j, 0 ≤ dv j ∧ dv j ≤ 1000) (hK : ∀ j, 0 ≤ K j ∧ K j ≤ 1) (hSt : ∀ j, 0 ≤ St j ∧ St j ≤ 20000) (hEx : ∀ j, 0 ≤ Ex j ∧ Ex j ≤ 200) (hAm : ∀ j, 0 ≤ Am j ∧ Am j ≤ 1) (hHe : ∀ j, -1000000 ≤ He j ∧ He j ≤ 1000000) (hsh : -100000 ≤ sh ∧ sh ≤ 100000) (hED : 0 < n → f_ED cA n ed cO EE) : jj_Ml EVh (dC, dI) vwCl [(cI, .int), (cJ, .long), (cZ, .boolean), (cO, .object "java/lang/Object")] l yX3_worst (Cond.code yX3_worst cX3_worst 7 (some .long) :: lw_U) ({ frames := 6, cells := 0, slots := 0, locals := 142 } : Room) [.ref (ha 0), .int (iI (m : Int))] (wH ha cA hA nA ed cI cJ cZ td pr up dn dv rw sd mc n mo sh co Ca Cz K St Ex Am Bi As BL AL He Co ++ EE) (S := (Nat → Int)) (fun r8 => (f_worst (fun q8 => (f_W up dn dv td n K St Ex Am He Ca sh q8)) (f_W up dn dv td n K St Ex Am He Ca sh pr) pr (m : Int) (2 * m + 1))) (fun r8 => True) (fun r8 => wH ha cA hA nA ed cI cJ cZ td pr up dn dv r8 sd mc n mo sh co Ca Cz K St Ex Am Bi As BL AL He Co ++ EE) := by
  refine jj_start (cc := cX3_worst) (nL := 7) (ret := (some .long)) (lv := [(0, .ref (ha 0)), (1, .int (iI (m : Int)))]) (fun A => jj_Ql _ _ _ _ _ _ A) hEVh (by decide) rfl (Nat.le_of_ble_eq_true rfl) rfl ?_
  intro p9 e9 s9 m9 a9 b9 me9 c9 A9 C1 hr hin
  have C0 : jj_C p9 s9 m9 a9 me9 c9 (dC, dI) vwCl A9 7 cX3_worst "Strikehall" lw_U _ EVh := jj_toU C1
  have hw := C0.2.2.2.2.1
  have hE := C0.2.2.2.2.2.2.2.1
  refine jj_iload_n C0 1 rfl dX3_worst_0 ?_
  refine jj_iconst C0 dX3_worst_1 ?_
  refine jj_bipush C0 dX3_worst_2 (by decide) ?_
  refine jj_callSv C0 (cc_X3_checkRange  (a := (m : Int)) (b := 0) (d := 100) (by omega) (by omega) (by omega) (by omega)) (cwS 3 hw (lw_gS hU_178 hU_179 hU_43 hU_180) rfl rfl rfl (by decide +kernel) ⟨Nat.le_of_ble_eq_true rfl, Nat.le_of_ble_eq_true rfl⟩) rfl rfl (Nat.le_of_ble_eq_true rfl) ⟨by decide, by decide⟩ rfl rfl dX3_worst_4 ?_
  intro _ hu
  show jj_W _ _ _ _ _ _ _ _ _ _ _ _ _ _ _ _ _ 7 _ [] (wH ha cA hA nA ed cI cJ cZ td pr up dn dv rw sd mc n mo sh co Ca Cz K St Ex Am Bi As BL AL He Co ++ EE)
  refine jj_aload_n C0 0 rfl dX3_worst_7 ?_
  refine jj_callVl C0 (cc_X3_worthNow   (by first | exact hpr | omega) (by first | exact hexs | omega) (by first | exact hn | omega) (by first | exact htd | omega) (by first | exact hup | omega) (by first | exact hdn | omega) (by first | exact hdv | omega) (by first | exact hK | omega) (by first | exact hSt | omega) (by first | exact hEx | omega) (by first | exact hAm | omega) (by first | exact hHe | omega) (by first | exact hsh | omega) (by first | exact hED | omega)) (cwV 0 hw (lw_gV hU_249 hU_251 hU_1 hU_43 hU_252) rfl rfl rfl (by decide +kernel) ⟨Nat.le_of_ble_eq_true rfl, Nat.le_of_ble_eq_true rfl⟩) (ci := 4) (q0 := 0) rfl (rfl) rfl rfl (Nat.le_of_ble_eq_true rfl) ⟨by decide, by decide⟩ rfl rfl dX3_worst_8 ?_
  intro r8_1 hu
  show jj_W _ _ _ _ _ _ _ _ _ _ _ _ _ _ _ _ _ 11 _ [.long (lI (f_W up dn dv td n K St Ex Am He Ca sh pr))] (wH ha cA hA nA ed cI cJ cZ td pr up dn dv r8_1 sd mc n mo sh co Ca Cz K St Ex Am Bi As BL AL He Co ++ EE)
  refine jj_lstore_n C0 (i := 2) rfl (lv' := [(2, .long (lI (f_W up dn dv td n K St Ex Am He Ca sh pr))), (0, .ref (ha 0)), (1, .int (iI (m : Int)))]) (by decide) rfl dX3_worst_11 ?_
  refine jj_lconst C0 (z := 0) (by decide) dX3_worst_12 ?_
  refine jj_topl (b := (f_worst (fun q8 => (f_W up dn dv td n K St Ex Am He Ca sh q8)) (f_W up dn dv td n K St Ex Am He Ca sh pr) pr (m : Int) 0)) (rfl) ?_
  refine jj_lstore C0 (lv' := [(4, .long (lI (f_worst (fun q8 => (f_W up dn dv td n K St Ex Am He Ca sh q8)) (f_W up dn dv td n K St Ex Am He Ca sh pr) pr (m : Int) 0))), (2, .long (lI (f_W up dn dv td n K St Ex Am He Ca sh pr))), (0, .ref (ha 0)), (1, .int (iI (m : Int)))]) (by decide) rfl dX3_worst_13 ?_
  refine jj_iload_n C0 3 rfl dX3_worst_15 ?_
  refine jj_ineg C0 dX3_worst_16 ?_
  refine jj_topi (b := (-(m : Int) + ((0 : Nat) : Int))) (by omega) ?_
  refine jj_istore C0 (lv' := [(6, .int (iI (-(m : Int) + ((0 : Nat) : Int)))), (4, .long (lI (f_worst (fun q8 => (f_W up dn dv td n K St Ex Am He Ca sh q8)) (f_W up dn dv td n K St Ex Am He Ca sh pr) pr (m : Int) 0))), (2, .long (lI (f_W up dn dv td n K St Ex Am He Ca sh pr))), (0, .ref (ha 0)), (1, .int (iI (m : Int)))]) (by decide) rfl dX3_worst_17 ?_
  refine jj_ind (X := Nat × (Nat → Int) × Int) (fun q9 => match q9 with | ⟨i, r8, x⟩ => (2 * m + 2 - i : Nat)) (fun q9 => match q9 with | ⟨i, r8, x⟩ => [(6, .int (iI (-(m : Int) + (i : Int)))), (4, .long (lI x)), (2, .long (lI (f_W up dn dv td n K St Ex Am He Ca sh pr))), (0, .ref (ha 0)), (1, .int (iI (m : Int)))]) (fun q9 => match q9 with | ⟨i, r8, x⟩ => []) (fun q9 => match q9 with | ⟨i, r8, x⟩ => wH ha cA hA nA ed cI cJ cZ td pr up dn dv r8 sd mc n mo sh co Ca Cz K St Ex Am Bi As BL AL He Co ++ EE) (fun q9 => match q9 with | ⟨i, r8, x⟩ => i ≤ 2 * m + 1 ∧ x = (f_worst (fun q8 => (f_W up dn dv td n K St Ex Am He Ca sh q8)) (f_W up dn dv td n K St Ex Am He Ca sh pr) pr (m : Int) i) ∧ 0 ≤ x ∧ x ≤ 240000000000000000) ?_ (0, r8_1, (f_worst (fun q8 => (f_W up dn dv td n K St Ex Am He Ca sh q8)) (f_W up dn dv td n K St Ex Am He Ca sh pr) pr (m : Int) 0)) ⟨Nat.zero_le _, rfl, by simp [f_worst]⟩
  intro q9 hq9 ih19
  obtain ⟨i, r8, x⟩ := q9
  obtain ⟨hi, hx, hx1⟩ : i ≤ 2 * m + 1 ∧ x = (f_worst (fun q8 => (f_W up dn dv td n K St Ex Am He Ca sh q8)) (f_W up dn dv td n K St Ex Am He Ca sh pr) pr (m : Int) i) ∧ 0 ≤ x ∧ x ≤ 240000000000000000 := hq9
  show jj_W _ _ _ _ _ _ _ _ _ _ _ _ _ _ _ _ _ 19 [(6, .int (iI (-(m : Int) + (i : Int)))), (4, .long (lI x)), (2, .long (lI (f_W up dn dv td n K St Ex Am He Ca sh pr))), (0, .ref (ha 0)), (1, .int (iI (m : Int)))] [] (wH ha cA hA nA ed cI cJ cZ td pr up dn dv r8 sd mc n mo sh co Ca Cz K St Ex Am Bi As BL AL He Co ++ EE)
  refine jj_iload C0 0 rfl dX3_worst_19 ?_
  refine jj_iload_n C0 4 rfl dX3_worst_21 ?_
  refine jj_icmp_gt C0 (by omega) (by omega) dX3_worst_22 (tgt := 57) (by decide) (fun c_2 => ?_) (fun c_2 => ?_)
  · refine jj_lload C0 1 rfl dX3_worst_57 ?_
    exact jj_lret C0 hr r8 (trivial) (by rw [hx, show i = 2 * m + 1 by omega]) (rfl) (by decide) (by decide) dX3_worst_59
  · refine jj_lload C0 1 rfl dX3_worst_25 ?_
    refine jj_lload_n C0 2 rfl dX3_worst_27 ?_
    refine jj_aload_n C0 3 rfl dX3_worst_28 ?_
    refine jj_aload_n C0 3 rfl dX3_worst_29 ?_
    refine jj_get C0 (ci := 4) (v := .ref (ha 1)) hin_X3 (0) (rfl) rfl 0 (by decide) (hw _ hU_138) (fun _ h9 => h9) rfl dX3_worst_30 ?_
    refine jj_getN C0 (ci := 3) (v := .int (iI pr)) hin_X2 (1) (rfl) rfl 2 (by decide) (va_Nw.use rfl (hE.1 _ (hN_79))) (fun _ h9 => h9) rfl dX3_worst_33 ?_
    refine jj_bipush C0 dX3_worst_36 (by decide) ?_
    refine jj_iload C0 0 rfl dX3_worst_38 ?_
    refine jj_imul C0 dX3_worst_40 ?_
    refine jj_iadd C0 dX3_worst_41 ?_
    refine jj_callVl C0 (cc_X3_worthAt  (fr := (pr + (10 * (-(m : Int) + (i : Int))))) (by omega) (by first | exact hexs | omega) (by first | exact hn | omega) (by first | exact htd | omega) (by first | exact hup | omega) (by first | exact hdn | omega) (by first | exact hdv | omega) (by first | exact hK | omega) (by first | exact hSt | omega) (by first | exact hEx | omega) (by first | exact hAm | omega) (by first | exact hHe | omega) (by first | exact hsh | omega) (by first | exact hED | omega)) (cwV 1 hw (lw_gV hU_253 hU_255 hU_2 hU_43 hU_256) rfl rfl rfl (by decide +kernel) ⟨Nat.le_of_ble_eq_true rfl, Nat.le_of_ble_eq_true rfl⟩) (ci := 4) (q0 := 0) rfl (rfl) rfl rfl (Nat.le_of_ble_eq_true rfl) ⟨by decide, by decide⟩ rfl rfl dX3_worst_42 ?_
    intro r8_3 hu
    show jj_W _ _ _ _ _ _ _ _ _ _ _ _ _ _ _ _ _ 45 _ [.long (lI (f_W up dn dv td n K St Ex Am He Ca sh (pr + (10 * (-(m : Int) + (i : Int)))))), .long (lI (f_W up dn dv td n K St Ex Am He Ca sh pr)), .long (lI x)] (wH ha cA hA nA ed cI cJ cZ td pr up dn dv r8_3 sd mc n mo sh co Ca Cz K St Ex Am Bi As BL AL He Co ++ EE)
    have hw1 := f_W_bd hup hdn hdv hSt (show -30000 ≤ pr ∧ pr ≤ 30000 by omega) hHe (hCa 6) hsh (fun c hc => ⟨hexs c hc, (hEx c).2⟩) hn (K := K) (Am := Am)
    have hw2 := f_W_bd hup hdn hdv hSt (show -30000 ≤ (pr + (10 * (-(m : Int) + (i : Int)))) ∧ (pr + (10 * (-(m : Int) + (i : Int)))) ≤ 30000 by omega) hHe (hCa 6) hsh (fun c hc => ⟨hexs c hc, (hEx c).2⟩) hn (K := K) (Am := Am)
    refine jj_lsub C0 dX3_worst_45 ?_
    refine jj_mmaxl C0 (by omega) (by omega) (hw _ hU_705) (List.forall_mem_cons.mpr ⟨hw _ hU_310, List.forall_mem_cons.mpr ⟨hw _ hU_53, List.forall_mem_cons.mpr ⟨hw _ hU_311, fun _ h => absurd h List.not_mem_nil⟩⟩⟩) (by decide) (Nat.le_of_ble_eq_true rfl) ⟨by decide, by decide⟩ dX3_worst_46 ?_
    refine jj_lstore C0 (lv' := [(4, .long (lI (max x ((f_W up dn dv td n K St Ex Am He Ca sh pr) - (f_W up dn dv td n K St Ex Am He Ca sh (pr + (10 * (-(m : Int) + (i : Int))))))))), (6, .int (iI (-(m : Int) + (i : Int)))), (2, .long (lI (f_W up dn dv td n K St Ex Am He Ca sh pr))), (0, .ref (ha 0)), (1, .int (iI (m : Int)))]) (by decide) rfl dX3_worst_49 ?_
    refine jj_iinc C0 (z := (-(m : Int) + ((i + 1 : Nat) : Int))) (lv' := [(6, .int (iI (-(m : Int) + ((i + 1 : Nat) : Int)))), (4, .long (lI (max x ((f_W up dn dv td n K St Ex Am He Ca sh pr) - (f_W up dn dv td n K St Ex Am He Ca sh (pr + (10 * (-(m : Int) + (i : Int))))))))), (2, .long (lI (f_W up dn dv td n K St Ex Am He Ca sh pr))), (0, .ref (ha 0)), (1, .int (iI (m : Int)))]) 1 rfl (by omega) (by decide) rfl dX3_worst_51 ?_
    refine jj_goto C0 (tgt := 19) dX3_worst_54 (by decide) ?_
    exact ih19 (i + 1, r8_3, (max x ((f_W up dn dv td n K St Ex Am He Ca sh pr) - (f_W up dn dv td n K St Ex Am He Ca sh (pr + (10 * (-(m : Int) + (i : Int)))))))) ⟨by omega, by simp only [f_worst]; rw [← hx], by omega⟩ (by dsimp only; omega)
end CC3
