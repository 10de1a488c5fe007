section CC2
variable {l : Launch} {dC : Nat → ClassId} {dI : Nat → Nat → Nat} {cI cJ cZ cO : ClassId} {EE ws : va_W} {ha cA hA nA : Nat → Nat} {ed : Nat} {td : Nat} {pr up dn : Int} {dv rw : Nat → Int} {sd mc : Int} {n : Nat} {mo sh co : Int} {Ca Cz K St Ex Am Bi As BL AL He Co : Nat → Int}
set_option maxHeartbeats 4000000 in
set_option maxRecDepth 100000 in
theorem cc_Jx4a65c_size_8abf5    : jj_Mi EVh (dC, dI) vwCl [(cI, .int), (cJ, .long), (cZ, .boolean), (cO, .object "java/lang/Object")] l yJx4a65c_size_8abf5 (Cond.code yJx4a65c_size_8abf5 cJx4a65c_size_8abf5 1 (some .int) :: lw_U) ({ frames := 0, cells := 0, slots := 0, locals := 0 } : Room) [.ref (ha 5)] (wH ha cA hA nA ed cI cJ cZ td pr up dn dv rw sd mc n mo sh co Ca Cz K St Ex Am Bi As BL AL He Co ++ EE) (S := Unit) (fun _ => (n : Int)) (fun _ => True) (fun _ => wH ha cA hA nA ed cI cJ cZ td pr up dn dv rw sd mc n mo sh co Ca Cz K St Ex Am Bi As BL AL He Co ++ EE) := by
  refine jj_start (cc := cJx4a65c_size_8abf5) (nL := 1) (ret := (some .int)) (lv := [(0, .ref (ha 5))]) (fun A => jj_Qi _ _ _ _ _ _ A) hEVh (by decide) rfl (Nat.le_of_ble_eq_true rfl) rfl ?_
  intro p9 e9 s9 m9 a9 b9 me9 c9 A9 C1 hr hin
  have C0 : jj_C p9 s9 m9 a9 me9 c9 (dC, dI) vwCl A9 1 cJx4a65c_size_8abf5 "java/util/ArrayList" lw_U _ EVh := jj_toU C1
  have hw := C0.2.2.2.2.1
  have hE := C0.2.2.2.2.2.2.2.1
  refine jj_aload_n C0 0 rfl dJx4a65c_size_8abf5_0 ?_
  refine jj_get C0 (ci := 0) (v := .int (iI (n : Int))) hin_Jx4a65c (5) (rfl) rfl 2 (by decide) (hw _ hU_127) (fun _ h9 => h9) rfl dJx4a65c_size_8abf5_1 ?_
  exact jj_iret C0 hr () (trivial) (rfl) (rfl) (by decide) (by decide) dJx4a65c_size_8abf5_4
set_option maxHeartbeats 4000000 in
set_option maxRecDepth 100000 in
theorem cc_J3_checkIndex_8e157  {i j : Nat} (hij : i < j ∧ j ≤ 1000000) : jj_Mi EVh (dC, dI) vwCl [(cI, .int), (cJ, .long), (cZ, .boolean), (cO, .object "java/lang/Object")] l yJ3_checkIndex_8e157 (Cond.code yJ3_checkIndex_8e157 cJ3_checkIndex_8e157 3 (some .int) :: lw_U) ({ frames := 0, cells := 0, slots := 0, locals := 0 } : Room) [.int (iI (i : Int)), .int (iI (j : Int)), .null] (ws) (S := Unit) (fun _ => (i : Int)) (fun _ => True) (fun _ => ws) := by
  refine jj_start (cc := cJ3_checkIndex_8e157) (nL := 3) (ret := (some .int)) (lv := [(0, .int (iI (i : Int))), (1, .int (iI (j : Int))), (2, .null)]) (fun A => jj_Qi _ _ _ _ _ _ A) hEVh (by decide) rfl (Nat.le_of_ble_eq_true rfl) rfl ?_
  intro p9 e9 s9 m9 a9 b9 me9 c9 A9 C1 hr hin
  have C0 : jj_C p9 s9 m9 a9 me9 c9 (dC, dI) vwCl A9 3 cJ3_checkIndex_8e157 "jdk/internal/util/Preconditions" lw_U _ EVh := jj_toU C1
  have hw := C0.2.2.2.2.1
  refine jj_iload_n C0 0 rfl dJ3_checkIndex_8e157_0 ?_
  refine jj_if_lt C0 (by omega) dJ3_checkIndex_8e157_1 (tgt := 9) (by decide) (fun c_1 => absurd c_1 (by omega)) (fun c_1 => ?_)
  refine jj_iload_n C0 0 rfl dJ3_checkIndex_8e157_4 ?_
  refine jj_iload_n C0 1 rfl dJ3_checkIndex_8e157_5 ?_
  refine jj_icmp_lt C0 (by omega) (by omega) dJ3_checkIndex_8e157_6 (tgt := 16) (by decide) (fun c_2 => ?_) (fun c_2 => absurd c_2 (by omega))
  refine jj_iload_n C0 0 rfl dJ3_checkIndex_8e157_16 ?_
  exact jj_iret C0 hr () (trivial) (rfl) (rfl) (by decide) (by decide) dJ3_checkIndex_8e157_17
set_option maxHeartbeats 4000000 in
set_option maxRecDepth 100000 in
theorem cc_J15_checkIndex_7cf53  {i j : Nat} (hij : i < j ∧ j ≤ 1000000) : jj_Mi EVh (dC, dI) vwCl [(cI, .int), (cJ, .long), (cZ, .boolean), (cO, .object "java/lang/Object")] l yJ15_checkIndex_7cf53 (Cond.code yJ15_checkIndex_7cf53 cJ15_checkIndex_7cf53 2 (some .int) :: lw_U) ({ frames := 1, cells := 0, slots := 0, locals := 22 } : Room) [.int (iI (i : Int)), .int (iI (j : Int))] (ws) (S := Unit) (fun _ => (i : Int)) (fun _ => True) (fun _ => ws) := by
  refine jj_start (cc := cJ15_checkIndex_7cf53) (nL := 2) (ret := (some .int)) (lv := [(0, .int (iI (i : Int))), (1, .int (iI (j : Int)))]) (fun A => jj_Qi _ _ _ _ _ _ A) hEVh (by decide) rfl (Nat.le_of_ble_eq_true rfl) rfl ?_
  intro p9 e9 s9 m9 a9 b9 me9 c9 A9 C1 hr hin
  have C0 : jj_C p9 s9 m9 a9 me9 c9 (dC, dI) vwCl A9 2 cJ15_checkIndex_7cf53 "java/util/Objects" lw_U _ EVh := jj_toU C1
  have hw := C0.2.2.2.2.1
  refine jj_iload_n C0 0 rfl dJ15_checkIndex_7cf53_0 ?_
  refine jj_iload_n C0 1 rfl dJ15_checkIndex_7cf53_1 ?_
  refine jj_anull C0 dJ15_checkIndex_7cf53_2 ?_
  refine jj_callSi C0 (cc_J3_checkIndex_8e157  (i := i) (j := j) (by first | exact hij | omega)) (va_cwS 3 hw (lw_gSx hU_273 hU_274 hU_60 hU_275) rfl rfl rfl (by decide +kernel) ⟨Nat.le_of_ble_eq_true rfl, Nat.le_of_ble_eq_true rfl⟩) rfl rfl (Nat.le_of_ble_eq_true rfl) ⟨by decide, by decide⟩ rfl rfl dJ15_checkIndex_7cf53_3 ?_
  intro _ hu
  show jj_W _ _ _ _ _ _ _ _ _ _ _ _ _ _ _ _ _ 6 _ [.int (iI (i : Int))] (ws)
  exact jj_iret C0 hr () (trivial) (rfl) (rfl) (by decide) (by decide) dJ15_checkIndex_7cf53_6
set_option maxHeartbeats 4000000 in
set_option maxRecDepth 100000 in
theorem cc_Jx4a65c_elementData_915e3  {i : Nat} (hi : i < n) (hED : 0 < n → f_ED cA n ed cO EE) : jj_Mr EVh (dC, dI) vwCl [(cI, .int), (cJ, .long), (cZ, .boolean), (cO, .object "java/lang/Object")] l yJx4a65c_elementData_915e3 (Cond.code yJx4a65c_elementData_915e3 cJx4a65c_elementData_915e3 2 (some (.object "java/lang/Object")) :: lw_U) ({ frames := 0, cells := 0, slots := 0, locals := 0 } : Room) [.ref (ha 5), .int (iI (i : Int))] (wH ha cA hA nA ed cI cJ cZ td pr up dn dv rw sd mc n mo sh co Ca Cz K St Ex Am Bi As BL AL He Co ++ EE) (S := Unit) (fun _ => cA i) (fun _ => True) (fun _ => wH ha cA hA nA ed cI cJ cZ td pr up dn dv rw sd mc n mo sh co Ca Cz K St Ex Am Bi As BL AL He Co ++ EE) := by
  refine jj_start (cc := cJx4a65c_elementData_915e3) (nL := 2) (ret := (some (.object "java/lang/Object"))) (lv := [(0, .ref (ha 5)), (1, .int (iI (i : Int)))]) (fun A => jj_Qr _ _ _ _ _ _ A) hEVh (by decide) rfl (Nat.le_of_ble_eq_true rfl) rfl ?_
  intro p9 e9 s9 m9 a9 b9 me9 c9 A9 C1 hr hin
  have C0 : jj_C p9 s9 m9 a9 me9 c9 (dC, dI) vwCl A9 2 cJx4a65c_elementData_915e3 "java/util/ArrayList" lw_U _ EVh := jj_toU C1
  have hw := C0.2.2.2.2.1
  have hE := C0.2.2.2.2.2.2.2.1
  obtain ⟨qe, cap, fe, he, hnc, hcap, hfe⟩ := hED (by omega)
  refine jj_aload_n C0 0 rfl dJx4a65c_elementData_915e3_0 ?_
  refine jj_get C0 (ci := 0) (v := .ref ed) hin_Jx4a65c (5) (rfl) rfl 1 (by decide) (hw _ hU_126) (fun _ h9 => h9) rfl dJx4a65c_elementData_915e3_1 ?_
  refine jj_iload_n C0 1 rfl dJx4a65c_elementData_915e3_4 ?_
  refine jj_aald C0 (q0 := 8 + (3 * n + qe)) (t0 := 3) (wH_ee he) rfl (k := i) (by omega) (by omega) (by omega) (hfe i (by omega)) dJx4a65c_elementData_915e3_5 ?_
  exact jj_aret C0 (Or.inl ⟨_, rfl⟩) hr () (trivial) (rfl) (rfl) (by decide) (by decide) dJx4a65c_elementData_915e3_6
set_option maxHeartbeats 4000000 in
set_option maxRecDepth 100000 in
theorem cc_Jx4a65c_get_915e3  {i : Nat} (hi : i < n) (hn : n ≤ 12) (hED : 0 < n → f_ED cA n ed cO EE) : jj_Mr EVh (dC, dI) vwCl [(cI, .int), (cJ, .long), (cZ, .boolean), (cO, .object "java/lang/Object")] l yJx4a65c_get_915e3 (Cond.code yJx4a65c_get_915e3 cJx4a65c_get_915e3 2 (some (.object "java/lang/Object")) :: lw_U) ({ frames := 2, cells := 0, slots := 0, locals := 43 } : Room) [.ref (ha 5), .int (iI (i : Int))] (wH ha cA hA nA ed cI cJ cZ td pr up dn dv rw sd mc n mo sh co Ca Cz K St Ex Am Bi As BL AL He Co ++ EE) (S := Unit) (fun _ => cA i) (fun _ => True) (fun _ => wH ha cA hA nA ed cI cJ cZ td pr up dn dv rw sd mc n mo sh co Ca Cz K St Ex Am Bi As BL AL He Co ++ EE) := by
  refine jj_start (cc := cJx4a65c_get_915e3) (nL := 2) (ret := (some (.object "java/lang/Object"))) (lv := [(0, .ref (ha 5)), (1, .int (iI (i : Int)))]) (fun A => jj_Qr _ _ _ _ _ _ A) hEVh (by decide) rfl (Nat.le_of_ble_eq_true rfl) rfl ?_
  intro p9 e9 s9 m9 a9 b9 me9 c9 A9 C1 hr hin
  have C0 : jj_C p9 s9 m9 a9 me9 c9 (dC, dI) vwCl A9 2 cJx4a65c_get_915e3 "java/util/ArrayList" lw_U _ EVh := jj_toU C1
  have hw := C0.2.2.2.2.1
  have hE := C0.2.2.2.2.2.2.2.1
  refine jj_iload_n C0 1 rfl dJx4a65c_get_915e3_0 ?_
  refine jj_aload_n C0 0 rfl dJx4a65c_get_915e3_1 ?_
  refine jj_get C0 (ci := 0) (v := .int (iI (n : Int))) hin_Jx4a65c (5) (rfl) rfl 2 (by decide) (hw _ hU_127) (fun _ h9 => h9) rfl dJx4a65c_get_915e3_2 ?_
  refine jj_callSi C0 (cc_J15_checkIndex_7cf53  (i := i) (j := n) (by omega)) (va_cwS 2 hw (lw_gSx hU_270 hU_271 hU_59 hU_272) rfl rfl rfl (by decide +kernel) ⟨Nat.le_of_ble_eq_true rfl, Nat.le_of_ble_eq_true rfl⟩) rfl rfl (Nat.le_of_ble_eq_true rfl) ⟨by decide, by decide⟩ rfl rfl dJx4a65c_get_915e3_5 ?_
  intro _ hu
  show jj_W _ _ _ _ _ _ _ _ _ _ _ _ _ _ _ _ _ 8 _ [.int (iI (i : Int))] (wH ha cA hA nA ed cI cJ cZ td pr up dn dv rw sd mc n mo sh co Ca Cz K St Ex Am Bi As BL AL He Co ++ EE)
  refine jj_pop C0 dJx4a65c_get_915e3_8 rfl ?_
  refine jj_aload_n C0 0 rfl dJx4a65c_get_915e3_9 ?_
  refine jj_iload_n C0 1 rfl dJx4a65c_get_915e3_10 ?_
  refine jj_callVr C0 (cc_Jx4a65c_elementData_915e3  (i := i) (by first | exact hi | omega) (by first | exact hED | omega)) (cwV 1 hw (lw_gV hU_276 hU_277 hU_278 hU_48 hU_279) rfl rfl rfl (by decide +kernel) ⟨Nat.le_of_ble_eq_true rfl, Nat.le_of_ble_eq_true rfl⟩) (ci := 0) (q0 := 5) rfl (rfl) rfl rfl (Nat.le_of_ble_eq_true rfl) ⟨by decide, by decide⟩ rfl rfl dJx4a65c_get_915e3_11 ?_
  intro _ hu
  show jj_W _ _ _ _ _ _ _ _ _ _ _ _ _ _ _ _ _ 14 _ [.ref (cA i)] (wH ha cA hA nA ed cI cJ cZ td pr up dn dv rw sd mc n mo sh co Ca Cz K St Ex Am Bi As BL AL He Co ++ EE)
  exact jj_aret C0 (Or.inl ⟨_, rfl⟩) hr () (trivial) (rfl) (rfl) (by decide) (by decide) dJx4a65c_get_915e3_14
set_option maxHeartbeats 4000000 in
set_option maxRecDepth 100000 in
theorem cc_X3_worthAt  {fr : Int} (hfr : -30000 ≤ fr ∧ fr ≤ 30000) (hexs : ∀ c, c < n → Ex c ≤ (td : Int) + 10) (hn : n ≤ 12) (htd : td ≤ 200) (hup : 1 ≤ up ∧ up ≤ 10) (hdn : 1 ≤ dn ∧ dn ≤ 10) (hdv : ∀ j, 0 ≤ dv j ∧ dv j ≤ 1000) (hK : ∀ j, 0 ≤ K j ∧ K j ≤ 1) (hSt : ∀ j, 0 ≤ St j ∧ St j ≤ 20000) (hEx : ∀ j, 0 ≤ Ex j ∧ Ex j ≤ 200) (hAm : ∀ j, 0 ≤ Am j ∧ Am j ≤ 1) (hHe : ∀ j, -1000000 ≤ He j ∧ He j ≤ 1000000) (hsh : -100000 ≤ sh ∧ sh ≤ 100000) (hED : 0 < n → f_ED cA n ed cO EE) : jj_Ml EVh (dC, dI) vwCl [(cI, .int), (cJ, .long), (cZ, .boolean), (cO, .object "java/lang/Object")] l yX3_worthAt (Cond.code yX3_worthAt cX3_worthAt 7 (some .long) :: lw_U) ({ frames := 4, cells := 0, slots := 0, locals := 96 } : Room) [.ref (ha 0), .int (iI fr)] (wH ha cA hA nA ed cI cJ cZ td pr up dn dv rw sd mc n mo sh co Ca Cz K St Ex Am Bi As BL AL He Co ++ EE) (S := (Nat → Int)) (fun r8 => (f_W up dn dv td n K St Ex Am He Ca sh fr)) (fun r8 => True) (fun r8 => wH ha cA hA nA ed cI cJ cZ td pr up dn dv r8 sd mc n mo sh co Ca Cz K St Ex Am Bi As BL AL He Co ++ EE) := by
  refine jj_start (cc := cX3_worthAt) (nL := 7) (ret := (some .long)) (lv := [(0, .ref (ha 0)), (1, .int (iI fr))]) (fun A => jj_Ql _ _ _ _ _ _ A) hEVh (by decide) rfl (Nat.le_of_ble_eq_true rfl) rfl ?_
  intro p9 e9 s9 m9 a9 b9 me9 c9 A9 C1 hr hin
  have C0 : jj_C p9 s9 m9 a9 me9 c9 (dC, dI) vwCl A9 7 cX3_worthAt "Strikehall" lw_U _ EVh := jj_toU C1
  have hw := C0.2.2.2.2.1
  have hE := C0.2.2.2.2.2.2.2.1
  refine jj_aload_n C0 0 rfl dX3_worthAt_0 ?_
  refine jj_bipush C0 dX3_worthAt_1 (by decide) ?_
  refine jj_callVl C0 (cc_X3_moneyAt  (k := 6) (by omega)) (cwV 1 hw (lw_gV hU_257 hU_259 hU_3 hU_43 hU_260) rfl rfl rfl (by decide +kernel) ⟨Nat.le_of_ble_eq_true rfl, Nat.le_of_ble_eq_true rfl⟩) (ci := 4) (q0 := 0) rfl (rfl) rfl rfl (Nat.le_of_ble_eq_true rfl) ⟨by decide, by decide⟩ rfl rfl dX3_worthAt_3 ?_
  intro _ hu
  show jj_W _ _ _ _ _ _ _ _ _ _ _ _ _ _ _ _ _ 6 _ [.long (lI (Ca 6))] (wH ha cA hA nA ed cI cJ cZ td pr up dn dv rw sd mc n mo sh co Ca Cz K St Ex Am Bi As BL AL He Co ++ EE)
  refine jj_ldc2 C0 (z := 1000) (by decide) (hw _ hU_261) dX3_worthAt_6 ?_
  refine jj_iload_n C0 1 rfl dX3_worthAt_9 ?_
  refine jj_i2l C0 (by omega) dX3_worthAt_10 ?_
  refine jj_lmul C0 dX3_worthAt_11 ?_
  refine jj_aload_n C0 0 rfl dX3_worthAt_12 ?_
  refine jj_get C0 (ci := 4) (v := .int (iI sh)) hin_X3 (0) (rfl) rfl 6 (by decide) (hw _ hU_144) (fun _ h9 => h9) rfl dX3_worthAt_13 ?_
  refine jj_i2l C0 (by omega) dX3_worthAt_16 ?_
  refine jj_lmul C0 dX3_worthAt_17 ?_
  refine jj_ladd C0 dX3_worthAt_18 ?_
  refine jj_topl (b := (f_worth up dn dv td K St Ex Am (fun c => He (7 * c + 6)) (Ca 6) sh fr 0)) (rfl) ?_
  refine jj_lstore_n C0 (i := 2) rfl (lv' := [(2, .long (lI (f_worth up dn dv td K St Ex Am (fun c => He (7 * c + 6)) (Ca 6) sh fr 0))), (0, .ref (ha 0)), (1, .int (iI fr))]) (by decide) rfl dX3_worthAt_19 ?_
  refine jj_iconst C0 dX3_worthAt_20 ?_
  refine jj_istore C0 (lv' := [(4, .int (iI 0)), (2, .long (lI (f_worth up dn dv td K St Ex Am (fun c => He (7 * c + 6)) (Ca 6) sh fr 0))), (0, .ref (ha 0)), (1, .int (iI fr))]) (by decide) rfl dX3_worthAt_21 ?_
  refine jj_ind (X := Nat × (Nat → Int)) (fun q9 => match q9 with | ⟨i, r8⟩ => (n + 1 - i : Nat)) (fun q9 => match q9 with | ⟨i, r8⟩ => [(4, .int (iI (i : Int))), (2, .long (lI (f_worth up dn dv td K St Ex Am (fun c => He (7 * c + 6)) (Ca 6) sh fr i))), (0, .ref (ha 0)), (1, .int (iI fr))]) (fun q9 => match q9 with | ⟨i, r8⟩ => []) (fun q9 => match q9 with | ⟨i, r8⟩ => wH ha cA hA nA ed cI cJ cZ td pr up dn dv r8 sd mc n mo sh co Ca Cz K St Ex Am Bi As BL AL He Co ++ EE) (fun q9 => match q9 with | ⟨i, r8⟩ => i ≤ n) ?_ (0, rw) (Nat.zero_le _)
  intro q9 hq9 ih23
  obtain ⟨i, r8⟩ := q9
  have hi : i ≤ n := hq9
  show jj_W _ _ _ _ _ _ _ _ _ _ _ _ _ _ _ _ _ 23 [(4, .int (iI (i : Int))), (2, .long (lI (f_worth up dn dv td K St Ex Am (fun c => He (7 * c + 6)) (Ca 6) sh fr i))), (0, .ref (ha 0)), (1, .int (iI fr))] [] (wH ha cA hA nA ed cI cJ cZ td pr up dn dv r8 sd mc n mo sh co Ca Cz K St Ex Am Bi As BL AL He Co ++ EE)
  refine jj_iload C0 0 rfl dX3_worthAt_23 ?_
  refine jj_aload_n C0 2 rfl dX3_worthAt_25 ?_
  refine jj_get C0 (ci := 4) (v := .ref (ha 5)) hin_X3 (0) (rfl) rfl 2 (by decide) (hw _ hU_140) (fun _ h9 => h9) rfl dX3_worthAt_26 ?_
  refine jj_callVi C0 (cc_Jx4a65c_size_8abf5   ) (cwV 0 hw (lw_gV hU_262 hU_263 hU_264 hU_48 hU_265) rfl rfl rfl (by decide +kernel) ⟨Nat.le_of_ble_eq_true rfl, Nat.le_of_ble_eq_true rfl⟩) (ci := 0) (q0 := 5) rfl (rfl) rfl rfl (Nat.le_of_ble_eq_true rfl) ⟨by decide, by decide⟩ rfl rfl dX3_worthAt_29 ?_
  intro _ hu
  show jj_W _ _ _ _ _ _ _ _ _ _ _ _ _ _ _ _ _ 32 _ [.int (iI (n : Int)), .int (iI (i : Int))] (wH ha cA hA nA ed cI cJ cZ td pr up dn dv r8 sd mc n mo sh co Ca Cz K St Ex Am Bi As BL AL He Co ++ EE)
  refine jj_icmp_ge C0 (by omega) (by omega) dX3_worthAt_32 (tgt := 87) (by decide) (fun c_1 => ?_) (fun c_1 => ?_)
  · refine jj_lload_n C0 1 rfl dX3_worthAt_87 ?_
    exact jj_lret C0 hr r8 (trivial) (by rw [show i = n by omega]; rfl) (rfl) (by decide) (by decide) dX3_worthAt_88
  · refine jj_aload_n C0 2 rfl dX3_worthAt_35 ?_
    refine jj_get C0 (ci := 4) (v := .ref (ha 5)) hin_X3 (0) (rfl) rfl 2 (by decide) (hw _ hU_140) (fun _ h9 => h9) rfl dX3_worthAt_36 ?_
    refine jj_iload C0 0 rfl dX3_worthAt_39 ?_
    refine jj_callVr C0 (cc_Jx4a65c_get_915e3  (i := i) (by omega) (by first | exact hn | omega) (by first | exact hED | omega)) (cwV 1 hw (lw_gV hU_266 hU_267 hU_268 hU_48 hU_269) rfl rfl rfl (by decide +kernel) ⟨Nat.le_of_ble_eq_true rfl, Nat.le_of_ble_eq_true rfl⟩) (ci := 0) (q0 := 5) rfl (rfl) rfl rfl (Nat.le_of_ble_eq_true rfl) ⟨by decide, by decide⟩ rfl rfl dX3_worthAt_41 ?_
    intro _ hu
    show jj_W _ _ _ _ _ _ _ _ _ _ _ _ _ _ _ _ _ 44 _ [.ref (cA i)] (wH ha cA hA nA ed cI cJ cZ td pr up dn dv r8 sd mc n mo sh co Ca Cz K St Ex Am Bi As BL AL He Co ++ EE)
    refine jj_cast C0 (ci := 1) (q0 := (8 + (3 * i + 0))) rfl ((wH_c (c := i) (by omega))) (hw _ hU_280) dX3_worthAt_44 ?_
    refine jj_astore C0 (lv' := [(5, .ref (cA i)), (4, .int (iI (i : Int))), (2, .long (lI (f_worth up dn dv td K St Ex Am (fun c => He (7 * c + 6)) (Ca 6) sh fr i))), (0, .ref (ha 0)), (1, .int (iI fr))]) (by decide) rfl dX3_worthAt_47 ?_
    refine jj_aload C0 0 rfl dX3_worthAt_49 ?_
    refine jj_bipush C0 dX3_worthAt_51 (by decide) ?_
    refine jj_callVNi C0 (cc_X0_lotsAt  (c := i) (k := 6) (by omega) (by omega)) ⟨va_cnB 1 hw (lw_gc hU_285 lw_UU) rfl rfl rfl (hE.1 _ hN_281) (hw _ hU_55) (by decide +kernel) ⟨Nat.le_of_ble_eq_true rfl, Nat.le_of_ble_eq_true rfl⟩, hw _ hU_283, hw _ hU_4⟩ (ci := 1) (q0 := (8 + (3 * i + 0))) rfl ((wH_c (c := i) (by omega))) rfl rfl (Nat.le_of_ble_eq_true rfl) ⟨by decide, by decide⟩ rfl rfl dX3_worthAt_53 ?_
    intro _ hu
    show jj_W _ _ _ _ _ _ _ _ _ _ _ _ _ _ _ _ _ 56 _ [.int (iI (He (7 * i + 6)))] (wH ha cA hA nA ed cI cJ cZ td pr up dn dv r8 sd mc n mo sh co Ca Cz K St Ex Am Bi As BL AL He Co ++ EE)
    have hh6 := hHe (7 * i + 6)
    refine jj_istore C0 (lv' := [(6, .int (iI (He (7 * i + 6)))), (5, .ref (cA i)), (4, .int (iI (i : Int))), (2, .long (lI (f_worth up dn dv td K St Ex Am (fun c => He (7 * c + 6)) (Ca 6) sh fr i))), (0, .ref (ha 0)), (1, .int (iI fr))]) (by decide) rfl dX3_worthAt_56 ?_
    refine jj_iload C0 0 rfl dX3_worthAt_58 ?_
    refine jj_if_eq C0 (by omega) dX3_worthAt_60 (tgt := 81) (by decide) (fun c_2 => ?_) (fun c_2 => ?_)
    · refine jj_lve (lv' := [(6, .int (iI (He (7 * i + 6)))), (5, .ref (cA i)), (4, .int (iI (i : Int))), (2, .long (lI (f_worth up dn dv td K St Ex Am (fun c => He (7 * c + 6)) (Ca 6) sh fr (i + 1)))), (0, .ref (ha 0)), (1, .int (iI fr))]) (by simp only [f_worth]; rw [show He (7 * i + 6) = 0 by omega]; simp) ?_
      refine jj_iinc C0 (z := ((i + 1 : Nat) : Int)) (lv' := [(4, .int (iI ((i + 1 : Nat) : Int))), (6, .int (iI (He (7 * i + 6)))), (5, .ref (cA i)), (2, .long (lI (f_worth up dn dv td K St Ex Am (fun c => He (7 * c + 6)) (Ca 6) sh fr (i + 1)))), (0, .ref (ha 0)), (1, .int (iI fr))]) 2 rfl (by omega) (by decide) rfl dX3_worthAt_81 ?_
      refine jj_goto C0 (tgt := 23) dX3_worthAt_84 (by decide) ?_
      refine jj_lv [0, 3, 4, 5] rfl ?_
      exact ih23 (i + 1, r8) (by omega) (by dsimp only; omega)
    · have hmk := f_mark_bd hup hdn hdv (hSt i) hfr (hexs i (by omega)) (ki := K i) (am := Am i)
      refine jj_lload_n C0 3 rfl dX3_worthAt_63 ?_
      refine jj_iload C0 0 rfl dX3_worthAt_64 ?_
      refine jj_i2l C0 (by omega) dX3_worthAt_66 ?_
      refine jj_aload_n C0 4 rfl dX3_worthAt_67 ?_
      refine jj_get C0 (ci := 4) (v := .ref (ha 1)) hin_X3 (0) (rfl) rfl 0 (by decide) (hw _ hU_138) (fun _ h9 => h9) rfl dX3_worthAt_68 ?_
      refine jj_aload C0 1 rfl dX3_worthAt_71 ?_
      refine jj_iload_n C0 5 rfl dX3_worthAt_73 ?_
      refine jj_callVNi C0 (cc_X2_markAt  (c := i) (fr := fr) (hexs i (by omega)) (by omega) (by first | exact htd | omega) (by first | exact hfr | omega) (by first | exact hup | omega) (by first | exact hdn | omega) (by first | exact hdv | omega) (by first | exact hK | omega) (by first | exact hSt | omega) (by first | exact hEx | omega) (by first | exact hAm | omega)) ⟨va_cnB 2 hw (lw_gc hU_289 lw_UU) rfl rfl rfl (hE.1 _ hN_286) (hw _ hU_44) (by decide +kernel) ⟨Nat.le_of_ble_eq_true rfl, Nat.le_of_ble_eq_true rfl⟩, hw _ hU_288, hw _ hU_5⟩ (ci := 3) (q0 := 1) rfl (rfl) rfl rfl (Nat.le_of_ble_eq_true rfl) ⟨by decide, by decide⟩ rfl rfl dX3_worthAt_74 ?_
      intro r8_3 hu
      show jj_W _ _ _ _ _ _ _ _ _ _ _ _ _ _ _ _ _ 77 _ [.int (iI (f_mark up dn dv td (K i) (St i) (Ex i) (Am i) fr)), .long (lI (He (7 * i + 6))), .long (lI (f_worth up dn dv td K St Ex Am (fun c => He (7 * c + 6)) (Ca 6) sh fr i))] (wH ha cA hA nA ed cI cJ cZ td pr up dn dv r8_3 sd mc n mo sh co Ca Cz K St Ex Am Bi As BL AL He Co ++ EE)
      refine jj_i2l C0 (by omega) dX3_worthAt_77 ?_
      refine jj_lmul C0 dX3_worthAt_78 ?_
      refine jj_ladd C0 dX3_worthAt_79 ?_
      refine jj_topl (b := (f_worth up dn dv td K St Ex Am (fun c => He (7 * c + 6)) (Ca 6) sh fr (i + 1))) (by simp only [f_worth]) ?_
      refine jj_lstore_n C0 (i := 2) rfl (lv' := [(2, .long (lI (f_worth up dn dv td K St Ex Am (fun c => He (7 * c + 6)) (Ca 6) sh fr (i + 1)))), (6, .int (iI (He (7 * i + 6)))), (5, .ref (cA i)), (4, .int (iI (i : Int))), (0, .ref (ha 0)), (1, .int (iI fr))]) (by decide) rfl dX3_worthAt_80 ?_
      refine jj_iinc C0 (z := ((i + 1 : Nat) : Int)) (lv' := [(4, .int (iI ((i + 1 : Nat) : Int))), (2, .long (lI (f_worth up dn dv td K St Ex Am (fun c => He (7 * c + 6)) (Ca 6) sh fr (i + 1)))), (6, .int (iI (He (7 * i + 6)))), (5, .ref (cA i)), (0, .ref (ha 0)), (1, .int (iI fr))]) 3 rfl (by omega) (by decide) rfl dX3_worthAt_81 ?_
      refine jj_goto C0 (tgt := 23) dX3_worthAt_84 (by decide) ?_
      refine jj_lv [0, 1, 4, 5] rfl ?_
      exact ih23 (i + 1, r8_3) (by omega) (by dsimp only; omega)
end CC2
