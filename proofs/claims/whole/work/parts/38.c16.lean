section CC16
variable {es mi o cap : Nat} {sa : Nat → Nat} {fe : Nat → Option Nat} {F : Nat → Int} {EF : va_W} {l : Launch} {dC : Nat → ClassId} {dI : Nat → Nat → Nat} {cI cJ cZ cO : ClassId} {EE ws : va_W} {ha cA hA nA : Nat → Nat} {ed : Nat} {td : Nat} {pr up dn : Int} {dv rw : Nat → Int} {sd mc : Int} {n : Nat} {mo sh co : Int} {Ca Cz K St Ex Am Bi As BL AL He Co : Nat → Int}
theorem f_ED_cons {x : Nat × va_E} (h : f_ED cA n ed cO EE) : f_ED cA n ed cO (x :: EE) := by
  obtain ⟨q, cp, f2, h1, h2, h3, h4⟩ := h
  exact ⟨q + 1, cp, f2, h1, h2, h3, h4⟩
set_option maxHeartbeats 4000000 in
set_option maxRecDepth 100000 in
theorem cr_L_steps (hl : l.stackTraces = false) {x y : Int} (hbad : ¬ (1 ≤ x ∧ x ≤ 10 ∧ 1 ≤ y ∧ y ≤ 10)) (hrx : iR x) (hry : iR y) (hED0 : 0 < n → f_ED cA n ed cO EE) : jj_Mi (EVL es mi sa) (dC, dI) vwCl [(cI, .int), (cJ, .long), (cZ, .boolean), (cO, .object "java/lang/Object")] l yL_steps (Cond.codeWith yL_steps cL_steps 4 (some .int) [(0, 6, 9, 13)] :: lw_U) ({ frames := 8, cells := 1, slots := 6, locals := 146 } : Room) [.ref (ha 0), .int (iI x), .int (iI y)] (wH ha cA hA nA ed cI cJ cZ td pr up dn dv rw sd mc n mo sh co Ca Cz K St Ex Am Bi As BL AL He Co ++ ((o, .inl (cJ, 1, .inr (.inl (lA F)))) :: EE)) (S := Unit) (fun _ => 1) (fun _ => True) (fun _ => wH ha cA hA nA ed cI cJ cZ td pr up dn dv rw sd mc n mo sh co Ca Cz K St Ex Am Bi As BL AL He Co ++ ((o, .inl (cJ, 1, .inr (.inl (lA F)))) :: EE)) := by
  refine jj_startW (hh := [(0, 6, 9, 13)]) (cc := cL_steps) (nL := 4) (ret := (some .int)) (lv := [(0, .ref (ha 0)), (1, .int (iI x)), (2, .int (iI y))]) (fun A => jj_Qi _ _ _ _ _ _ A) (hEVL es mi sa) (by decide) rfl (Nat.le_of_ble_eq_true rfl) rfl ?_
  intro p9 e9 s9 m9 a9 b9 me9 c9 A9 C1 hr hT
  have C0 : jj_C p9 s9 m9 a9 me9 c9 (dC, dI) vwCl A9 4 cL_steps "StrikehallLaw" lw_U _ (EVL es mi sa) := jj_toU C1
  have hw := C0.2.2.2.2.1
  have hE := C0.2.2.2.2.2.2.2.1
  have hED : 0 < n → f_ED cA n ed cO ((o, .inl (cJ, 1, .inr (.inl (lA F)))) :: EE) := fun h => f_ED_cons (hED0 h)
  refine jj_aload_n C0 0 rfl dL_steps_0 ?_
  refine jj_iload_n C0 1 rfl dL_steps_1 ?_
  refine jj_iload_n C0 2 rfl dL_steps_2 ?_
  refine jj_tryV C0 hT (jj_weakX (fun A U H h => h.1) (cx_X3_steps hl (by first | exact hbad | omega) (by first | exact hrx | omega) (by first | exact hry | omega))) (cwV 2 hw (lw_gV hU_325 hU_326 hU_327 hU_60 hU_328) rfl rfl rfl (by decide +kernel) ⟨Nat.le_of_ble_eq_true rfl, Nat.le_of_ble_eq_true rfl⟩) (ci := 4) (q0 := 0) rfl (rfl) rfl rfl (Nat.le_of_ble_eq_true rfl) ⟨by decide, by decide⟩ rfl rfl dL_steps_3 [] ⟨0, 6, 9, 13⟩ [] rfl (fun z hz => absurd hz List.not_mem_nil) (by decide) (by decide) (hw _ hU_324) (va_Nw.use rfl (hE.1.2.2.1 (.castable "java/lang/IllegalArgumentException" "java/lang/IllegalArgumentException") (by decide +kernel))) (hpc := 9) rfl ?_
  intro q9
  refine jj_astore_n C0 (i := 3) rfl (lv' := [(3, .ref q9), (0, .ref (ha 0)), (1, .int (iI x)), (2, .int (iI y))]) (by decide) rfl dL_steps_9 ?_
  refine jj_iconst C0 dL_steps_10 ?_
  exact jj_iret C0 hr () (trivial) (rfl) (rfl) (by decide) (by decide) dL_steps_11
set_option maxHeartbeats 4000000 in
set_option maxRecDepth 100000 in
theorem cr_L_move (hl : l.stackTraces = false) {x : Int} (hbad : ¬ (0 ≤ x ∧ x ≤ 20000)) (hrx : iR x) (hED0 : 0 < n → f_ED cA n ed cO EE) : jj_Mi (EVL es mi sa) (dC, dI) vwCl [(cI, .int), (cJ, .long), (cZ, .boolean), (cO, .object "java/lang/Object")] l yL_move (Cond.codeWith yL_move cL_move 4 (some .int) [(0, 8, 11, 13)] :: lw_U) ({ frames := 8, cells := 1, slots := 6, locals := 147 } : Room) [.ref (ha 0), .int (iI x), .ref o] (wH ha cA hA nA ed cI cJ cZ td pr up dn dv rw sd mc n mo sh co Ca Cz K St Ex Am Bi As BL AL He Co ++ ((o, .inl (cJ, 1, .inr (.inl (lA F)))) :: EE)) (S := Unit) (fun _ => 1) (fun _ => True) (fun _ => wH ha cA hA nA ed cI cJ cZ td pr up dn dv rw sd mc n mo sh co Ca Cz K St Ex Am Bi As BL AL He Co ++ ((o, .inl (cJ, 1, .inr (.inl (lA F)))) :: EE)) := by
  refine jj_startW (hh := [(0, 8, 11, 13)]) (cc := cL_move) (nL := 4) (ret := (some .int)) (lv := [(0, .ref (ha 0)), (1, .int (iI x)), (2, .ref o)]) (fun A => jj_Qi _ _ _ _ _ _ A) (hEVL es mi sa) (by decide) rfl (Nat.le_of_ble_eq_true rfl) rfl ?_
  intro p9 e9 s9 m9 a9 b9 me9 c9 A9 C1 hr hT
  have C0 : jj_C p9 s9 m9 a9 me9 c9 (dC, dI) vwCl A9 4 cL_move "StrikehallLaw" lw_U _ (EVL es mi sa) := jj_toU C1
  have hw := C0.2.2.2.2.1
  have hE := C0.2.2.2.2.2.2.2.1
  have hED : 0 < n → f_ED cA n ed cO ((o, .inl (cJ, 1, .inr (.inl (lA F)))) :: EE) := fun h => f_ED_cons (hED0 h)
  refine jj_aload_n C0 2 rfl dL_move_0 ?_
  refine jj_iconst C0 dL_move_1 ?_
  refine jj_aload_n C0 0 rfl dL_move_2 ?_
  refine jj_iload_n C0 1 rfl dL_move_3 ?_
  refine jj_tryV C0 hT (jj_weakX (fun A U H h => h.1) (cx_X3_move hl (by first | exact hbad | omega) (by first | exact hrx | omega))) (cwV 1 hw (lw_gV hU_407 hU_408 hU_409 hU_60 hU_410) rfl rfl rfl (by decide +kernel) ⟨Nat.le_of_ble_eq_true rfl, Nat.le_of_ble_eq_true rfl⟩) (ci := 4) (q0 := 0) rfl (rfl) rfl rfl (Nat.le_of_ble_eq_true rfl) ⟨by decide, by decide⟩ rfl rfl dL_move_4 [] ⟨0, 8, 11, 13⟩ [] rfl (fun z hz => absurd hz List.not_mem_nil) (by decide) (by decide) (hw _ hU_324) (va_Nw.use rfl (hE.1.2.2.1 (.castable "java/lang/IllegalArgumentException" "java/lang/IllegalArgumentException") (by decide +kernel))) (hpc := 11) rfl ?_
  intro q9
  refine jj_astore_n C0 (i := 3) rfl (lv' := [(3, .ref q9), (0, .ref (ha 0)), (1, .int (iI x)), (2, .ref o)]) (by decide) rfl dL_move_11 ?_
  refine jj_iconst C0 dL_move_12 ?_
  exact jj_iret C0 hr () (trivial) (rfl) (rfl) (by decide) (by decide) dL_move_13
set_option maxHeartbeats 4000000 in
set_option maxRecDepth 100000 in
theorem cr_L_dividend (hl : l.stackTraces = false) {x y : Int} (hbad : ¬ ((td : Int) + 1 ≤ x ∧ x ≤ 200 ∧ 0 ≤ y ∧ y ≤ 1000)) (hrx : iR x) (hry : iR y) (htd : td ≤ 200) (hED0 : 0 < n → f_ED cA n ed cO EE) : jj_Mi (EVL es mi sa) (dC, dI) vwCl [(cI, .int), (cJ, .long), (cZ, .boolean), (cO, .object "java/lang/Object")] l yL_dividend (Cond.codeWith yL_dividend cL_dividend 5 (some .int) [(0, 10, 13, 13)] :: lw_U) ({ frames := 8, cells := 1, slots := 6, locals := 147 } : Room) [.ref (ha 0), .int (iI x), .int (iI y), .ref o] (wH ha cA hA nA ed cI cJ cZ td pr up dn dv rw sd mc n mo sh co Ca Cz K St Ex Am Bi As BL AL He Co ++ ((o, .inl (cJ, 1, .inr (.inl (lA F)))) :: EE)) (S := Unit) (fun _ => 1) (fun _ => True) (fun _ => wH ha cA hA nA ed cI cJ cZ td pr up dn dv rw sd mc n mo sh co Ca Cz K St Ex Am Bi As BL AL He Co ++ ((o, .inl (cJ, 1, .inr (.inl (lA F)))) :: EE)) := by
  refine jj_startW (hh := [(0, 10, 13, 13)]) (cc := cL_dividend) (nL := 5) (ret := (some .int)) (lv := [(0, .ref (ha 0)), (1, .int (iI x)), (2, .int (iI y)), (3, .ref o)]) (fun A => jj_Qi _ _ _ _ _ _ A) (hEVL es mi sa) (by decide) rfl (Nat.le_of_ble_eq_true rfl) rfl ?_
  intro p9 e9 s9 m9 a9 b9 me9 c9 A9 C1 hr hT
  have C0 : jj_C p9 s9 m9 a9 me9 c9 (dC, dI) vwCl A9 5 cL_dividend "StrikehallLaw" lw_U _ (EVL es mi sa) := jj_toU C1
  have hw := C0.2.2.2.2.1
  have hE := C0.2.2.2.2.2.2.2.1
  have hED : 0 < n → f_ED cA n ed cO ((o, .inl (cJ, 1, .inr (.inl (lA F)))) :: EE) := fun h => f_ED_cons (hED0 h)
  refine jj_aload_n C0 3 rfl dL_dividend_0 ?_
  refine jj_iconst C0 dL_dividend_1 ?_
  refine jj_aload_n C0 0 rfl dL_dividend_2 ?_
  refine jj_iload_n C0 1 rfl dL_dividend_3 ?_
  refine jj_iload_n C0 2 rfl dL_dividend_4 ?_
  refine jj_tryV C0 hT (jj_weakX (fun A U H h => h.1) (cx_X3_dividend hl (by first | exact hbad | omega) (by first | exact hrx | omega) (by first | exact hry | omega) (by first | exact htd | omega))) (cwV 2 hw (lw_gV hU_414 hU_415 hU_416 hU_60 hU_417) rfl rfl rfl (by decide +kernel) ⟨Nat.le_of_ble_eq_true rfl, Nat.le_of_ble_eq_true rfl⟩) (ci := 4) (q0 := 0) rfl (rfl) rfl rfl (Nat.le_of_ble_eq_true rfl) ⟨by decide, by decide⟩ rfl rfl dL_dividend_5 [] ⟨0, 10, 13, 13⟩ [] rfl (fun z hz => absurd hz List.not_mem_nil) (by decide) (by decide) (hw _ hU_324) (va_Nw.use rfl (hE.1.2.2.1 (.castable "java/lang/IllegalArgumentException" "java/lang/IllegalArgumentException") (by decide +kernel))) (hpc := 13) rfl ?_
  intro q9
  refine jj_astore C0 (lv' := [(4, .ref q9), (0, .ref (ha 0)), (1, .int (iI x)), (2, .int (iI y)), (3, .ref o)]) (by decide) rfl dL_dividend_13 ?_
  refine jj_iconst C0 dL_dividend_15 ?_
  exact jj_iret C0 hr () (trivial) (rfl) (rfl) (by decide) (by decide) dL_dividend_16
set_option maxHeartbeats 4000000 in
set_option maxRecDepth 100000 in
theorem cr_L_contract (hl : l.stackTraces = false) {x y z v : Int} (hbad : ¬ (0 ≤ x ∧ x ≤ 1 ∧ 0 ≤ y ∧ y ≤ 20000 ∧ (td : Int) ≤ z ∧ z ≤ (td : Int) + 10 ∧ z ≤ 200)) (hrx : iR x) (hry : iR y) (hrz : iR z) (htd : td ≤ 200) (hED0 : 0 < n → f_ED cA n ed cO EE) : jj_Mi (EVL es mi sa) (dC, dI) vwCl [(cI, .int), (cJ, .long), (cZ, .boolean), (cO, .object "java/lang/Object")] l yL_contract (Cond.codeWith yL_contract cL_contract 7 (some .int) [(0, 14, 17, 13), (0, 14, 21, 27)] :: lw_U) ({ frames := 8, cells := 1, slots := 6, locals := 147 } : Room) [.ref (ha 0), .int (iI x), .int (iI y), .int (iI z), .int (iI v), .ref o] (wH ha cA hA nA ed cI cJ cZ td pr up dn dv rw sd mc n mo sh co Ca Cz K St Ex Am Bi As BL AL He Co ++ ((o, .inl (cJ, 1, .inr (.inl (lA F)))) :: EE)) (S := Unit) (fun _ => 1) (fun _ => True) (fun _ => wH ha cA hA nA ed cI cJ cZ td pr up dn dv rw sd mc n mo sh co Ca Cz K St Ex Am Bi As BL AL He Co ++ ((o, .inl (cJ, 1, .inr (.inl (lA F)))) :: EE)) := by
  refine jj_startW (hh := [(0, 14, 17, 13), (0, 14, 21, 27)]) (cc := cL_contract) (nL := 7) (ret := (some .int)) (lv := [(0, .ref (ha 0)), (1, .int (iI x)), (2, .int (iI y)), (3, .int (iI z)), (4, .int (iI v)), (5, .ref o)]) (fun A => jj_Qi _ _ _ _ _ _ A) (hEVL es mi sa) (by decide) rfl (Nat.le_of_ble_eq_true rfl) rfl ?_
  intro p9 e9 s9 m9 a9 b9 me9 c9 A9 C1 hr hT
  have C0 : jj_C p9 s9 m9 a9 me9 c9 (dC, dI) vwCl A9 7 cL_contract "StrikehallLaw" lw_U _ (EVL es mi sa) := jj_toU C1
  have hw := C0.2.2.2.2.1
  have hE := C0.2.2.2.2.2.2.2.1
  have hED : 0 < n → f_ED cA n ed cO ((o, .inl (cJ, 1, .inr (.inl (lA F)))) :: EE) := fun h => f_ED_cons (hED0 h)
  refine jj_aload C0 5 rfl dL_contract_0 ?_
  refine jj_iconst C0 dL_contract_2 ?_
  refine jj_aload_n C0 0 rfl dL_contract_3 ?_
  refine jj_iload_n C0 1 rfl dL_contract_4 ?_
  refine jj_iload_n C0 2 rfl dL_contract_5 ?_
  refine jj_iload_n C0 3 rfl dL_contract_6 ?_
  refine jj_iload C0 4 rfl dL_contract_7 ?_
  refine jj_tryV C0 hT (jj_weakX (fun A U H h => h.1) (cx_X3_contract hl (by first | exact hbad | omega) (by first | exact hrx | omega) (by first | exact hry | omega) (by first | exact hrz | omega) (by first | exact htd | omega))) (cwV 4 hw (lw_gV hU_427 hU_428 hU_429 hU_60 hU_430) rfl rfl rfl (by decide +kernel) ⟨Nat.le_of_ble_eq_true rfl, Nat.le_of_ble_eq_true rfl⟩) (ci := 4) (q0 := 0) rfl (rfl) rfl rfl (Nat.le_of_ble_eq_true rfl) ⟨by decide, by decide⟩ rfl rfl dL_contract_9 [] ⟨0, 14, 17, 13⟩ [⟨0, 14, 21, 27⟩] rfl (fun z hz => absurd hz List.not_mem_nil) (by decide) (by decide) (hw _ hU_324) (va_Nw.use rfl (hE.1.2.2.1 (.castable "java/lang/IllegalArgumentException" "java/lang/IllegalArgumentException") (by decide +kernel))) (hpc := 17) rfl ?_
  intro q9
  refine jj_astore C0 (lv' := [(6, .ref q9), (0, .ref (ha 0)), (1, .int (iI x)), (2, .int (iI y)), (3, .int (iI z)), (4, .int (iI v)), (5, .ref o)]) (by decide) rfl dL_contract_17 ?_
  refine jj_iconst C0 dL_contract_19 ?_
  exact jj_iret C0 hr () (trivial) (rfl) (rfl) (by decide) (by decide) dL_contract_20
set_option maxHeartbeats 4000000 in
set_option maxRecDepth 100000 in
theorem cr_L_contract_S (hl : l.stackTraces = false) {x y z v : Int} (hbad : 0 ≤ x ∧ x ≤ 1 ∧ 0 ≤ y ∧ y ≤ 20000 ∧ (td : Int) ≤ z ∧ z ≤ (td : Int) + 10 ∧ z ≤ 200) (hn12 : n = 12) (hrx : iR x) (hry : iR y) (hrz : iR z) (htd : td ≤ 200) (hED0 : 0 < n → f_ED cA n ed cO EE) : jj_Mi (EVL es mi sa) (dC, dI) vwCl [(cI, .int), (cJ, .long), (cZ, .boolean), (cO, .object "java/lang/Object")] l yL_contract (Cond.codeWith yL_contract cL_contract 7 (some .int) [(0, 14, 17, 13), (0, 14, 21, 27)] :: lw_U) ({ frames := 7, cells := 1, slots := 6, locals := 125 } : Room) [.ref (ha 0), .int (iI x), .int (iI y), .int (iI z), .int (iI v), .ref o] (wH ha cA hA nA ed cI cJ cZ td pr up dn dv rw sd mc n mo sh co Ca Cz K St Ex Am Bi As BL AL He Co ++ ((o, .inl (cJ, 1, .inr (.inl (lA F)))) :: EE)) (S := Unit) (fun _ => 2) (fun _ => True) (fun _ => wH ha cA hA nA ed cI cJ cZ td pr up dn dv rw sd mc n mo sh co Ca Cz K St Ex Am Bi As BL AL He Co ++ ((o, .inl (cJ, 1, .inr (.inl (lA F)))) :: EE)) := by
  refine jj_startW (hh := [(0, 14, 17, 13), (0, 14, 21, 27)]) (cc := cL_contract) (nL := 7) (ret := (some .int)) (lv := [(0, .ref (ha 0)), (1, .int (iI x)), (2, .int (iI y)), (3, .int (iI z)), (4, .int (iI v)), (5, .ref o)]) (fun A => jj_Qi _ _ _ _ _ _ A) (hEVL es mi sa) (by decide) rfl (Nat.le_of_ble_eq_true rfl) rfl ?_
  intro p9 e9 s9 m9 a9 b9 me9 c9 A9 C1 hr hT
  have C0 : jj_C p9 s9 m9 a9 me9 c9 (dC, dI) vwCl A9 7 cL_contract "StrikehallLaw" lw_U _ (EVL es mi sa) := jj_toU C1
  have hw := C0.2.2.2.2.1
  have hE := C0.2.2.2.2.2.2.2.1
  have hED : 0 < n → f_ED cA n ed cO ((o, .inl (cJ, 1, .inr (.inl (lA F)))) :: EE) := fun h => f_ED_cons (hED0 h)
  refine jj_aload C0 5 rfl dL_contract_0 ?_
  refine jj_iconst C0 dL_contract_2 ?_
  refine jj_aload_n C0 0 rfl dL_contract_3 ?_
  refine jj_iload_n C0 1 rfl dL_contract_4 ?_
  refine jj_iload_n C0 2 rfl dL_contract_5 ?_
  refine jj_iload_n C0 3 rfl dL_contract_6 ?_
  refine jj_iload C0 4 rfl dL_contract_7 ?_
  refine jj_tryV C0 hT (jj_weakX (fun A U H h => h.1) (cx_X3_contract_S hl (by first | exact hbad | omega) (by first | exact hn12 | omega) (by first | exact hrx | omega) (by first | exact hry | omega) (by first | exact hrz | omega) (by first | exact htd | omega))) (cwV 4 hw (lw_gV hU_427 hU_428 hU_429 hU_60 hU_430) rfl rfl rfl (by decide +kernel) ⟨Nat.le_of_ble_eq_true rfl, Nat.le_of_ble_eq_true rfl⟩) (ci := 4) (q0 := 0) rfl (rfl) rfl rfl (Nat.le_of_ble_eq_true rfl) ⟨by decide, by decide⟩ rfl rfl dL_contract_9 [⟨0, 14, 17, 13⟩] ⟨0, 14, 21, 27⟩ [] rfl (List.forall_mem_cons.mpr ⟨Or.inr ⟨by decide, _, hw _ hU_324, hE.2.2.2.2⟩, fun z hz => absurd hz List.not_mem_nil⟩) (by decide) (by decide) (hw _ hU_426) (va_Nw.use rfl (hE.1.2.2.1 (.castable "java/lang/IllegalStateException" "java/lang/IllegalStateException") (by decide +kernel))) (hpc := 21) rfl ?_
  intro q9
  refine jj_astore C0 (lv' := [(6, .ref q9), (0, .ref (ha 0)), (1, .int (iI x)), (2, .int (iI y)), (3, .int (iI z)), (4, .int (iI v)), (5, .ref o)]) (by decide) rfl dL_contract_21 ?_
  refine jj_iconst C0 dL_contract_23 ?_
  exact jj_iret C0 hr () (trivial) (rfl) (rfl) (by decide) (by decide) dL_contract_24
set_option maxHeartbeats 4000000 in
set_option maxRecDepth 100000 in
theorem cr_L_quote (hl : l.stackTraces = false) {w x y z : Int} (hbad : ¬ (0 ≤ w ∧ w < (n : Int))) (hrw : iR w) (hn : n ≤ 12) (hED0 : 0 < n → f_ED cA n ed cO EE) : jj_Mi (EVL es mi sa) (dC, dI) vwCl [(cI, .int), (cJ, .long), (cZ, .boolean), (cO, .object "java/lang/Object")] l yL_quote (Cond.codeWith yL_quote cL_quote 7 (some .int) [(0, 14, 17, 33), (0, 14, 21, 13), (0, 14, 25, 27)] :: lw_U) ({ frames := 8, cells := 1, slots := 6, locals := 146 } : Room) [.ref (ha 0), .int (iI w), .int (iI x), .int (iI y), .int (iI z), .ref o] (wH ha cA hA nA ed cI cJ cZ td pr up dn dv rw sd mc n mo sh co Ca Cz K St Ex Am Bi As BL AL He Co ++ ((o, .inl (cJ, 1, .inr (.inl (lA F)))) :: EE)) (S := Unit) (fun _ => 1) (fun _ => True) (fun _ => wH ha cA hA nA ed cI cJ cZ td pr up dn dv rw sd mc n mo sh co Ca Cz K St Ex Am Bi As BL AL He Co ++ ((o, .inl (cJ, 1, .inr (.inl (lA F)))) :: EE)) := by
  refine jj_startW (hh := [(0, 14, 17, 33), (0, 14, 21, 13), (0, 14, 25, 27)]) (cc := cL_quote) (nL := 7) (ret := (some .int)) (lv := [(0, .ref (ha 0)), (1, .int (iI w)), (2, .int (iI x)), (3, .int (iI y)), (4, .int (iI z)), (5, .ref o)]) (fun A => jj_Qi _ _ _ _ _ _ A) (hEVL es mi sa) (by decide) rfl (Nat.le_of_ble_eq_true rfl) rfl ?_
  intro p9 e9 s9 m9 a9 b9 me9 c9 A9 C1 hr hT
  have C0 : jj_C p9 s9 m9 a9 me9 c9 (dC, dI) vwCl A9 7 cL_quote "StrikehallLaw" lw_U _ (EVL es mi sa) := jj_toU C1
  have hw := C0.2.2.2.2.1
  have hE := C0.2.2.2.2.2.2.2.1
  have hED : 0 < n → f_ED cA n ed cO ((o, .inl (cJ, 1, .inr (.inl (lA F)))) :: EE) := fun h => f_ED_cons (hED0 h)
  refine jj_aload C0 5 rfl dL_quote_0 ?_
  refine jj_iconst C0 dL_quote_2 ?_
  refine jj_aload_n C0 0 rfl dL_quote_3 ?_
  refine jj_iload_n C0 1 rfl dL_quote_4 ?_
  refine jj_iload_n C0 2 rfl dL_quote_5 ?_
  refine jj_iload_n C0 3 rfl dL_quote_6 ?_
  refine jj_iload C0 4 rfl dL_quote_7 ?_
  refine jj_tryV C0 hT (jj_weakX (fun A U H h => h.1) (cx_X3_quote hl (by first | exact hbad | omega) (by first | exact hrw | omega) (by first | exact hn | omega))) (cwV 4 hw (lw_gV hU_550 hU_551 hU_552 hU_60 hU_553) rfl rfl rfl (by decide +kernel) ⟨Nat.le_of_ble_eq_true rfl, Nat.le_of_ble_eq_true rfl⟩) (ci := 4) (q0 := 0) rfl (rfl) rfl rfl (Nat.le_of_ble_eq_true rfl) ⟨by decide, by decide⟩ rfl rfl dL_quote_9 [] ⟨0, 14, 17, 33⟩ [⟨0, 14, 21, 13⟩, ⟨0, 14, 25, 27⟩] rfl (fun z hz => absurd hz List.not_mem_nil) (by decide) (by decide) (hw _ hU_549) (va_Nw.use rfl (hE.1.2.2.1 (.castable "java/lang/IndexOutOfBoundsException" "java/lang/IndexOutOfBoundsException") (by decide +kernel))) (hpc := 17) rfl ?_
  intro q9
  refine jj_astore C0 (lv' := [(6, .ref q9), (0, .ref (ha 0)), (1, .int (iI w)), (2, .int (iI x)), (3, .int (iI y)), (4, .int (iI z)), (5, .ref o)]) (by decide) rfl dL_quote_17 ?_
  refine jj_iconst C0 dL_quote_19 ?_
  exact jj_iret C0 hr () (trivial) (rfl) (rfl) (by decide) (by decide) dL_quote_20
set_option maxHeartbeats 4000000 in
set_option maxRecDepth 100000 in
theorem cr_L_quote_A (hl : l.stackTraces = false) {c : Nat} {x y z : Int} (hbad : ¬ (0 ≤ x ∧ x ≤ 20000 ∧ 0 ≤ y ∧ y ≤ 20000 ∧ 0 ≤ z ∧ z ≤ 100)) (hrx : iR x) (hry : iR y) (hrz : iR z) (hcn : c < n) (hn : n ≤ 12) (hED0 : 0 < n → f_ED cA n ed cO EE) : jj_Mi (EVL es mi sa) (dC, dI) vwCl [(cI, .int), (cJ, .long), (cZ, .boolean), (cO, .object "java/lang/Object")] l yL_quote (Cond.codeWith yL_quote cL_quote 7 (some .int) [(0, 14, 17, 33), (0, 14, 21, 13), (0, 14, 25, 27)] :: lw_U) ({ frames := 8, cells := 1, slots := 6, locals := 147 } : Room) [.ref (ha 0), .int (iI (c : Int)), .int (iI x), .int (iI y), .int (iI z), .ref o] (wH ha cA hA nA ed cI cJ cZ td pr up dn dv rw sd mc n mo sh co Ca Cz K St Ex Am Bi As BL AL He Co ++ ((o, .inl (cJ, 1, .inr (.inl (lA F)))) :: EE)) (S := Unit) (fun _ => 2) (fun _ => True) (fun _ => wH ha cA hA nA ed cI cJ cZ td pr up dn dv rw sd mc n mo sh co Ca Cz K St Ex Am Bi As BL AL He Co ++ ((o, .inl (cJ, 1, .inr (.inl (lA F)))) :: EE)) := by
  refine jj_startW (hh := [(0, 14, 17, 33), (0, 14, 21, 13), (0, 14, 25, 27)]) (cc := cL_quote) (nL := 7) (ret := (some .int)) (lv := [(0, .ref (ha 0)), (1, .int (iI (c : Int))), (2, .int (iI x)), (3, .int (iI y)), (4, .int (iI z)), (5, .ref o)]) (fun A => jj_Qi _ _ _ _ _ _ A) (hEVL es mi sa) (by decide) rfl (Nat.le_of_ble_eq_true rfl) rfl ?_
  intro p9 e9 s9 m9 a9 b9 me9 c9 A9 C1 hr hT
  have C0 : jj_C p9 s9 m9 a9 me9 c9 (dC, dI) vwCl A9 7 cL_quote "StrikehallLaw" lw_U _ (EVL es mi sa) := jj_toU C1
  have hw := C0.2.2.2.2.1
  have hE := C0.2.2.2.2.2.2.2.1
  have hED : 0 < n → f_ED cA n ed cO ((o, .inl (cJ, 1, .inr (.inl (lA F)))) :: EE) := fun h => f_ED_cons (hED0 h)
  refine jj_aload C0 5 rfl dL_quote_0 ?_
  refine jj_iconst C0 dL_quote_2 ?_
  refine jj_aload_n C0 0 rfl dL_quote_3 ?_
  refine jj_iload_n C0 1 rfl dL_quote_4 ?_
  refine jj_iload_n C0 2 rfl dL_quote_5 ?_
  refine jj_iload_n C0 3 rfl dL_quote_6 ?_
  refine jj_iload C0 4 rfl dL_quote_7 ?_
  refine jj_tryV C0 hT (jj_weakX (fun A U H h => h.1) (cx_X3_quote_A hl (by first | exact hbad | omega) (by first | exact hrx | omega) (by first | exact hry | omega) (by first | exact hrz | omega) (by first | exact hcn | omega) (by first | exact hn | omega) (by first | exact hED | omega))) (cwV 4 hw (lw_gV hU_550 hU_551 hU_552 hU_60 hU_553) rfl rfl rfl (by decide +kernel) ⟨Nat.le_of_ble_eq_true rfl, Nat.le_of_ble_eq_true rfl⟩) (ci := 4) (q0 := 0) rfl (rfl) rfl rfl (Nat.le_of_ble_eq_true rfl) ⟨by decide, by decide⟩ rfl rfl dL_quote_9 [⟨0, 14, 17, 33⟩] ⟨0, 14, 21, 13⟩ [⟨0, 14, 25, 27⟩] rfl (List.forall_mem_cons.mpr ⟨Or.inr ⟨by decide, _, hw _ hU_549, hE.2.2.1⟩, fun z hz => absurd hz List.not_mem_nil⟩) (by decide) (by decide) (hw _ hU_324) (va_Nw.use rfl (hE.1.2.2.1 (.castable "java/lang/IllegalArgumentException" "java/lang/IllegalArgumentException") (by decide +kernel))) (hpc := 21) rfl ?_
  intro q9
  refine jj_astore C0 (lv' := [(6, .ref q9), (0, .ref (ha 0)), (1, .int (iI (c : Int))), (2, .int (iI x)), (3, .int (iI y)), (4, .int (iI z)), (5, .ref o)]) (by decide) rfl dL_quote_21 ?_
  refine jj_iconst C0 dL_quote_23 ?_
  exact jj_iret C0 hr () (trivial) (rfl) (rfl) (by decide) (by decide) dL_quote_24
set_option maxHeartbeats 4000000 in
set_option maxRecDepth 100000 in
theorem cr_L_quote_S (hl : l.stackTraces = false) {c : Nat} {x y z : Int} (hbad : Ex c < (td : Int)) (hrq : 0 ≤ x ∧ x ≤ 20000 ∧ 0 ≤ y ∧ y ≤ 20000 ∧ 0 ≤ z ∧ z ≤ 100) (hcn : c < n) (hn : n ≤ 12) (hEx : ∀ j, 0 ≤ Ex j ∧ Ex j ≤ 200) (htd : td ≤ 200) (hED0 : 0 < n → f_ED cA n ed cO EE) : jj_Mi (EVL es mi sa) (dC, dI) vwCl [(cI, .int), (cJ, .long), (cZ, .boolean), (cO, .object "java/lang/Object")] l yL_quote (Cond.codeWith yL_quote cL_quote 7 (some .int) [(0, 14, 17, 33), (0, 14, 21, 13), (0, 14, 25, 27)] :: lw_U) ({ frames := 8, cells := 1, slots := 6, locals := 146 } : Room) [.ref (ha 0), .int (iI (c : Int)), .int (iI x), .int (iI y), .int (iI z), .ref o] (wH ha cA hA nA ed cI cJ cZ td pr up dn dv rw sd mc n mo sh co Ca Cz K St Ex Am Bi As BL AL He Co ++ ((o, .inl (cJ, 1, .inr (.inl (lA F)))) :: EE)) (S := Unit) (fun _ => 3) (fun _ => True) (fun _ => wH ha cA hA nA ed cI cJ cZ td pr up dn dv rw sd mc n mo sh co Ca Cz K St Ex Am Bi As BL AL He Co ++ ((o, .inl (cJ, 1, .inr (.inl (lA F)))) :: EE)) := by
  refine jj_startW (hh := [(0, 14, 17, 33), (0, 14, 21, 13), (0, 14, 25, 27)]) (cc := cL_quote) (nL := 7) (ret := (some .int)) (lv := [(0, .ref (ha 0)), (1, .int (iI (c : Int))), (2, .int (iI x)), (3, .int (iI y)), (4, .int (iI z)), (5, .ref o)]) (fun A => jj_Qi _ _ _ _ _ _ A) (hEVL es mi sa) (by decide) rfl (Nat.le_of_ble_eq_true rfl) rfl ?_
  intro p9 e9 s9 m9 a9 b9 me9 c9 A9 C1 hr hT
  have C0 : jj_C p9 s9 m9 a9 me9 c9 (dC, dI) vwCl A9 7 cL_quote "StrikehallLaw" lw_U _ (EVL es mi sa) := jj_toU C1
  have hw := C0.2.2.2.2.1
  have hE := C0.2.2.2.2.2.2.2.1
  have hED : 0 < n → f_ED cA n ed cO ((o, .inl (cJ, 1, .inr (.inl (lA F)))) :: EE) := fun h => f_ED_cons (hED0 h)
  refine jj_aload C0 5 rfl dL_quote_0 ?_
  refine jj_iconst C0 dL_quote_2 ?_
  refine jj_aload_n C0 0 rfl dL_quote_3 ?_
  refine jj_iload_n C0 1 rfl dL_quote_4 ?_
  refine jj_iload_n C0 2 rfl dL_quote_5 ?_
  refine jj_iload_n C0 3 rfl dL_quote_6 ?_
  refine jj_iload C0 4 rfl dL_quote_7 ?_
  refine jj_tryV C0 hT (jj_weakX (fun A U H h => h.1) (cx_X3_quote_S hl (by first | exact hbad | omega) (by first | exact hrq | omega) (by first | exact hcn | omega) (by first | exact hn | omega) (by first | exact hED | omega) (by first | exact hEx | omega) (by first | exact htd | omega))) (cwV 4 hw (lw_gV hU_550 hU_551 hU_552 hU_60 hU_553) rfl rfl rfl (by decide +kernel) ⟨Nat.le_of_ble_eq_true rfl, Nat.le_of_ble_eq_true rfl⟩) (ci := 4) (q0 := 0) rfl (rfl) rfl rfl (Nat.le_of_ble_eq_true rfl) ⟨by decide, by decide⟩ rfl rfl dL_quote_9 [⟨0, 14, 17, 33⟩, ⟨0, 14, 21, 13⟩] ⟨0, 14, 25, 27⟩ [] rfl (List.forall_mem_cons.mpr ⟨Or.inr ⟨by decide, _, hw _ hU_549, hE.2.2.2.1⟩, List.forall_mem_cons.mpr ⟨Or.inr ⟨by decide, _, hw _ hU_324, hE.2.2.2.2⟩, fun z hz => absurd hz List.not_mem_nil⟩⟩) (by decide) (by decide) (hw _ hU_426) (va_Nw.use rfl (hE.1.2.2.1 (.castable "java/lang/IllegalStateException" "java/lang/IllegalStateException") (by decide +kernel))) (hpc := 25) rfl ?_
  intro q9
  refine jj_astore C0 (lv' := [(6, .ref q9), (0, .ref (ha 0)), (1, .int (iI (c : Int))), (2, .int (iI x)), (3, .int (iI y)), (4, .int (iI z)), (5, .ref o)]) (by decide) rfl dL_quote_25 ?_
  refine jj_iconst C0 dL_quote_27 ?_
  exact jj_iret C0 hr () (trivial) (rfl) (rfl) (by decide) (by decide) dL_quote_28
set_option maxHeartbeats 4000000 in
set_option maxRecDepth 100000 in
theorem cr_L_limit (hl : l.stackTraces = false) {x : Int} (hbad : ¬ (0 ≤ x ∧ x ≤ 1000)) (hrx : iR x) (hED0 : 0 < n → f_ED cA n ed cO EE) : jj_Mi (EVL es mi sa) (dC, dI) vwCl [(cI, .int), (cJ, .long), (cZ, .boolean), (cO, .object "java/lang/Object")] l yL_limit (Cond.codeWith yL_limit cL_limit 4 (some .int) [(0, 9, 12, 13)] :: lw_U) ({ frames := 8, cells := 1, slots := 6, locals := 144 } : Room) [.ref (ha 0), .int (iI x), .ref o] (wH ha cA hA nA ed cI cJ cZ td pr up dn dv rw sd mc n mo sh co Ca Cz K St Ex Am Bi As BL AL He Co ++ ((o, .inl (cJ, 1, .inr (.inl (lA F)))) :: EE)) (S := Unit) (fun _ => 1) (fun _ => True) (fun _ => wH ha cA hA nA ed cI cJ cZ td pr up dn dv rw sd mc n mo sh co Ca Cz K St Ex Am Bi As BL AL He Co ++ ((o, .inl (cJ, 1, .inr (.inl (lA F)))) :: EE)) := by
  refine jj_startW (hh := [(0, 9, 12, 13)]) (cc := cL_limit) (nL := 4) (ret := (some .int)) (lv := [(0, .ref (ha 0)), (1, .int (iI x)), (2, .ref o)]) (fun A => jj_Qi _ _ _ _ _ _ A) (hEVL es mi sa) (by decide) rfl (Nat.le_of_ble_eq_true rfl) rfl ?_
  intro p9 e9 s9 m9 a9 b9 me9 c9 A9 C1 hr hT
  have C0 : jj_C p9 s9 m9 a9 me9 c9 (dC, dI) vwCl A9 4 cL_limit "StrikehallLaw" lw_U _ (EVL es mi sa) := jj_toU C1
  have hw := C0.2.2.2.2.1
  have hE := C0.2.2.2.2.2.2.2.1
  have hED : 0 < n → f_ED cA n ed cO ((o, .inl (cJ, 1, .inr (.inl (lA F)))) :: EE) := fun h => f_ED_cons (hED0 h)
  refine jj_aload_n C0 2 rfl dL_limit_0 ?_
  refine jj_iconst C0 dL_limit_1 ?_
  refine jj_aload_n C0 0 rfl dL_limit_2 ?_
  refine jj_iload_n C0 1 rfl dL_limit_3 ?_
  refine jj_tryV C0 hT (jj_weakX (fun A U H h => h.1) (cx_X3_limit hl (by first | exact hbad | omega) (by first | exact hrx | omega))) (cwV 1 hw (lw_gV hU_583 hU_584 hU_585 hU_60 hU_586) rfl rfl rfl (by decide +kernel) ⟨Nat.le_of_ble_eq_true rfl, Nat.le_of_ble_eq_true rfl⟩) (ci := 4) (q0 := 0) rfl (rfl) rfl rfl (Nat.le_of_ble_eq_true rfl) ⟨by decide, by decide⟩ rfl rfl dL_limit_4 [] ⟨0, 9, 12, 13⟩ [] rfl (fun z hz => absurd hz List.not_mem_nil) (by decide) (by decide) (hw _ hU_324) (va_Nw.use rfl (hE.1.2.2.1 (.castable "java/lang/IllegalArgumentException" "java/lang/IllegalArgumentException") (by decide +kernel))) (hpc := 12) rfl ?_
  intro q9
  refine jj_astore_n C0 (i := 3) rfl (lv' := [(3, .ref q9), (0, .ref (ha 0)), (1, .int (iI x)), (2, .ref o)]) (by decide) rfl dL_limit_12 ?_
  refine jj_iconst C0 dL_limit_13 ?_
  exact jj_iret C0 hr () (trivial) (rfl) (rfl) (by decide) (by decide) dL_limit_14
set_option maxHeartbeats 4000000 in
set_option maxRecDepth 100000 in
theorem cr_L_order (hl : l.stackTraces = false) {w z x y : Int} (hbad : ¬ (0 ≤ w ∧ w ≤ 5 ∧ 0 ≤ z ∧ z < (n : Int))) (hrw : iR w) (hrz : iR z) (hn : n ≤ 12) (hED0 : 0 < n → f_ED cA n ed cO EE) : jj_Mi (EVL es mi sa) (dC, dI) vwCl [(cI, .int), (cJ, .long), (cZ, .boolean), (cO, .object "java/lang/Object")] l yL_order (Cond.codeWith yL_order cL_order 7 (some .int) [(0, 14, 17, 33), (0, 14, 21, 13), (0, 14, 25, 27)] :: lw_U) ({ frames := 8, cells := 1, slots := 6, locals := 149 } : Room) [.ref (ha 0), .int (iI w), .int (iI z), .int (iI x), .int (iI y), .ref o] (wH ha cA hA nA ed cI cJ cZ td pr up dn dv rw sd mc n mo sh co Ca Cz K St Ex Am Bi As BL AL He Co ++ ((o, .inl (cJ, 1, .inr (.inl (lA F)))) :: EE)) (S := Unit) (fun _ => 1) (fun _ => True) (fun _ => wH ha cA hA nA ed cI cJ cZ td pr up dn dv rw sd mc n mo sh co Ca Cz K St Ex Am Bi As BL AL He Co ++ ((o, .inl (cJ, 1, .inr (.inl (lA F)))) :: EE)) := by
  refine jj_startW (hh := [(0, 14, 17, 33), (0, 14, 21, 13), (0, 14, 25, 27)]) (cc := cL_order) (nL := 7) (ret := (some .int)) (lv := [(0, .ref (ha 0)), (1, .int (iI w)), (2, .int (iI z)), (3, .int (iI x)), (4, .int (iI y)), (5, .ref o)]) (fun A => jj_Qi _ _ _ _ _ _ A) (hEVL es mi sa) (by decide) rfl (Nat.le_of_ble_eq_true rfl) rfl ?_
  intro p9 e9 s9 m9 a9 b9 me9 c9 A9 C1 hr hT
  have C0 : jj_C p9 s9 m9 a9 me9 c9 (dC, dI) vwCl A9 7 cL_order "StrikehallLaw" lw_U _ (EVL es mi sa) := jj_toU C1
  have hw := C0.2.2.2.2.1
  have hE := C0.2.2.2.2.2.2.2.1
  have hED : 0 < n → f_ED cA n ed cO ((o, .inl (cJ, 1, .inr (.inl (lA F)))) :: EE) := fun h => f_ED_cons (hED0 h)
  refine jj_aload C0 5 rfl dL_order_0 ?_
  refine jj_iconst C0 dL_order_2 ?_
  refine jj_aload_n C0 0 rfl dL_order_3 ?_
  refine jj_iload_n C0 1 rfl dL_order_4 ?_
  refine jj_iload_n C0 2 rfl dL_order_5 ?_
  refine jj_iload_n C0 3 rfl dL_order_6 ?_
  refine jj_iload C0 4 rfl dL_order_7 ?_
  refine jj_tryV C0 hT (jj_weakX (fun A U H h => h.1) (cx_X3_order hl (by first | exact hbad | omega) (by first | exact hrw | omega) (by first | exact hrz | omega) (by first | exact hn | omega))) (cwV 4 hw (lw_gV hU_590 hU_591 hU_592 hU_60 hU_593) rfl rfl rfl (by decide +kernel) ⟨Nat.le_of_ble_eq_true rfl, Nat.le_of_ble_eq_true rfl⟩) (ci := 4) (q0 := 0) rfl (rfl) rfl rfl (Nat.le_of_ble_eq_true rfl) ⟨by decide, by decide⟩ rfl rfl dL_order_9 [] ⟨0, 14, 17, 33⟩ [⟨0, 14, 21, 13⟩, ⟨0, 14, 25, 27⟩] rfl (fun z hz => absurd hz List.not_mem_nil) (by decide) (by decide) (hw _ hU_549) (va_Nw.use rfl (hE.1.2.2.1 (.castable "java/lang/IndexOutOfBoundsException" "java/lang/IndexOutOfBoundsException") (by decide +kernel))) (hpc := 17) rfl ?_
  intro q9
  refine jj_astore C0 (lv' := [(6, .ref q9), (0, .ref (ha 0)), (1, .int (iI w)), (2, .int (iI z)), (3, .int (iI x)), (4, .int (iI y)), (5, .ref o)]) (by decide) rfl dL_order_17 ?_
  refine jj_iconst C0 dL_order_19 ?_
  exact jj_iret C0 hr () (trivial) (rfl) (rfl) (by decide) (by decide) dL_order_20
set_option maxHeartbeats 4000000 in
set_option maxRecDepth 100000 in
theorem cr_L_order_A (hl : l.stackTraces = false) {c : Nat} {w x y : Int} (hbad : ¬ (-100 ≤ x ∧ x ≤ 100 ∧ x ≠ 0 ∧ 0 ≤ y ∧ y ≤ 20000)) (hw0 : 0 ≤ w ∧ w ≤ 5) (hrx : iR x) (hry : iR y) (hcn : c < n) (hn : n ≤ 12) (hED0 : 0 < n → f_ED cA n ed cO EE) : jj_Mi (EVL es mi sa) (dC, dI) vwCl [(cI, .int), (cJ, .long), (cZ, .boolean), (cO, .object "java/lang/Object")] l yL_order (Cond.codeWith yL_order cL_order 7 (some .int) [(0, 14, 17, 33), (0, 14, 21, 13), (0, 14, 25, 27)] :: lw_U) ({ frames := 8, cells := 1, slots := 6, locals := 150 } : Room) [.ref (ha 0), .int (iI w), .int (iI (c : Int)), .int (iI x), .int (iI y), .ref o] (wH ha cA hA nA ed cI cJ cZ td pr up dn dv rw sd mc n mo sh co Ca Cz K St Ex Am Bi As BL AL He Co ++ ((o, .inl (cJ, 1, .inr (.inl (lA F)))) :: EE)) (S := Unit) (fun _ => 2) (fun _ => True) (fun _ => wH ha cA hA nA ed cI cJ cZ td pr up dn dv rw sd mc n mo sh co Ca Cz K St Ex Am Bi As BL AL He Co ++ ((o, .inl (cJ, 1, .inr (.inl (lA F)))) :: EE)) := by
  refine jj_startW (hh := [(0, 14, 17, 33), (0, 14, 21, 13), (0, 14, 25, 27)]) (cc := cL_order) (nL := 7) (ret := (some .int)) (lv := [(0, .ref (ha 0)), (1, .int (iI w)), (2, .int (iI (c : Int))), (3, .int (iI x)), (4, .int (iI y)), (5, .ref o)]) (fun A => jj_Qi _ _ _ _ _ _ A) (hEVL es mi sa) (by decide) rfl (Nat.le_of_ble_eq_true rfl) rfl ?_
  intro p9 e9 s9 m9 a9 b9 me9 c9 A9 C1 hr hT
  have C0 : jj_C p9 s9 m9 a9 me9 c9 (dC, dI) vwCl A9 7 cL_order "StrikehallLaw" lw_U _ (EVL es mi sa) := jj_toU C1
  have hw := C0.2.2.2.2.1
  have hE := C0.2.2.2.2.2.2.2.1
  have hED : 0 < n → f_ED cA n ed cO ((o, .inl (cJ, 1, .inr (.inl (lA F)))) :: EE) := fun h => f_ED_cons (hED0 h)
  refine jj_aload C0 5 rfl dL_order_0 ?_
  refine jj_iconst C0 dL_order_2 ?_
  refine jj_aload_n C0 0 rfl dL_order_3 ?_
  refine jj_iload_n C0 1 rfl dL_order_4 ?_
  refine jj_iload_n C0 2 rfl dL_order_5 ?_
  refine jj_iload_n C0 3 rfl dL_order_6 ?_
  refine jj_iload C0 4 rfl dL_order_7 ?_
  refine jj_tryV C0 hT (jj_weakX (fun A U H h => h.1) (cx_X3_order_A hl (by first | exact hbad | omega) (by first | exact hw0 | omega) (by first | exact hrx | omega) (by first | exact hry | omega) (by first | exact hcn | omega) (by first | exact hn | omega) (by first | exact hED | omega))) (cwV 4 hw (lw_gV hU_590 hU_591 hU_592 hU_60 hU_593) rfl rfl rfl (by decide +kernel) ⟨Nat.le_of_ble_eq_true rfl, Nat.le_of_ble_eq_true rfl⟩) (ci := 4) (q0 := 0) rfl (rfl) rfl rfl (Nat.le_of_ble_eq_true rfl) ⟨by decide, by decide⟩ rfl rfl dL_order_9 [⟨0, 14, 17, 33⟩] ⟨0, 14, 21, 13⟩ [⟨0, 14, 25, 27⟩] rfl (List.forall_mem_cons.mpr ⟨Or.inr ⟨by decide, _, hw _ hU_549, hE.2.2.1⟩, fun z hz => absurd hz List.not_mem_nil⟩) (by decide) (by decide) (hw _ hU_324) (va_Nw.use rfl (hE.1.2.2.1 (.castable "java/lang/IllegalArgumentException" "java/lang/IllegalArgumentException") (by decide +kernel))) (hpc := 21) rfl ?_
  intro q9
  refine jj_astore C0 (lv' := [(6, .ref q9), (0, .ref (ha 0)), (1, .int (iI w)), (2, .int (iI (c : Int))), (3, .int (iI x)), (4, .int (iI y)), (5, .ref o)]) (by decide) rfl dL_order_21 ?_
  refine jj_iconst C0 dL_order_23 ?_
  exact jj_iret C0 hr () (trivial) (rfl) (rfl) (by decide) (by decide) dL_order_24
set_option maxHeartbeats 4000000 in
set_option maxRecDepth 100000 in
theorem cr_L_order_S (hl : l.stackTraces = false) {c : Nat} {w x y : Int} (hbad : Ex c < (td : Int)) (hro : -100 ≤ x ∧ x ≤ 100 ∧ x ≠ 0 ∧ 0 ≤ y ∧ y ≤ 20000) (hw0 : 0 ≤ w ∧ w ≤ 5) (hcn : c < n) (hn : n ≤ 12) (hEx : ∀ j, 0 ≤ Ex j ∧ Ex j ≤ 200) (htd : td ≤ 200) (hED0 : 0 < n → f_ED cA n ed cO EE) : jj_Mi (EVL es mi sa) (dC, dI) vwCl [(cI, .int), (cJ, .long), (cZ, .boolean), (cO, .object "java/lang/Object")] l yL_order (Cond.codeWith yL_order cL_order 7 (some .int) [(0, 14, 17, 33), (0, 14, 21, 13), (0, 14, 25, 27)] :: lw_U) ({ frames := 8, cells := 1, slots := 6, locals := 149 } : Room) [.ref (ha 0), .int (iI w), .int (iI (c : Int)), .int (iI x), .int (iI y), .ref o] (wH ha cA hA nA ed cI cJ cZ td pr up dn dv rw sd mc n mo sh co Ca Cz K St Ex Am Bi As BL AL He Co ++ ((o, .inl (cJ, 1, .inr (.inl (lA F)))) :: EE)) (S := Unit) (fun _ => 3) (fun _ => True) (fun _ => wH ha cA hA nA ed cI cJ cZ td pr up dn dv rw sd mc n mo sh co Ca Cz K St Ex Am Bi As BL AL He Co ++ ((o, .inl (cJ, 1, .inr (.inl (lA F)))) :: EE)) := by
  refine jj_startW (hh := [(0, 14, 17, 33), (0, 14, 21, 13), (0, 14, 25, 27)]) (cc := cL_order) (nL := 7) (ret := (some .int)) (lv := [(0, .ref (ha 0)), (1, .int (iI w)), (2, .int (iI (c : Int))), (3, .int (iI x)), (4, .int (iI y)), (5, .ref o)]) (fun A => jj_Qi _ _ _ _ _ _ A) (hEVL es mi sa) (by decide) rfl (Nat.le_of_ble_eq_true rfl) rfl ?_
  intro p9 e9 s9 m9 a9 b9 me9 c9 A9 C1 hr hT
  have C0 : jj_C p9 s9 m9 a9 me9 c9 (dC, dI) vwCl A9 7 cL_order "StrikehallLaw" lw_U _ (EVL es mi sa) := jj_toU C1
  have hw := C0.2.2.2.2.1
  have hE := C0.2.2.2.2.2.2.2.1
  have hED : 0 < n → f_ED cA n ed cO ((o, .inl (cJ, 1, .inr (.inl (lA F)))) :: EE) := fun h => f_ED_cons (hED0 h)
  refine jj_aload C0 5 rfl dL_order_0 ?_
  refine jj_iconst C0 dL_order_2 ?_
  refine jj_aload_n C0 0 rfl dL_order_3 ?_
  refine jj_iload_n C0 1 rfl dL_order_4 ?_
  refine jj_iload_n C0 2 rfl dL_order_5 ?_
  refine jj_iload_n C0 3 rfl dL_order_6 ?_
  refine jj_iload C0 4 rfl dL_order_7 ?_
  refine jj_tryV C0 hT (jj_weakX (fun A U H h => h.1) (cx_X3_order_S hl (by first | exact hbad | omega) (by first | exact hro | omega) (by first | exact hw0 | omega) (by first | exact hcn | omega) (by first | exact hn | omega) (by first | exact hED | omega) (by first | exact hEx | omega) (by first | exact htd | omega))) (cwV 4 hw (lw_gV hU_590 hU_591 hU_592 hU_60 hU_593) rfl rfl rfl (by decide +kernel) ⟨Nat.le_of_ble_eq_true rfl, Nat.le_of_ble_eq_true rfl⟩) (ci := 4) (q0 := 0) rfl (rfl) rfl rfl (Nat.le_of_ble_eq_true rfl) ⟨by decide, by decide⟩ rfl rfl dL_order_9 [⟨0, 14, 17, 33⟩, ⟨0, 14, 21, 13⟩] ⟨0, 14, 25, 27⟩ [] rfl (List.forall_mem_cons.mpr ⟨Or.inr ⟨by decide, _, hw _ hU_549, hE.2.2.2.1⟩, List.forall_mem_cons.mpr ⟨Or.inr ⟨by decide, _, hw _ hU_324, hE.2.2.2.2⟩, fun z hz => absurd hz List.not_mem_nil⟩⟩) (by decide) (by decide) (hw _ hU_426) (va_Nw.use rfl (hE.1.2.2.1 (.castable "java/lang/IllegalStateException" "java/lang/IllegalStateException") (by decide +kernel))) (hpc := 25) rfl ?_
  intro q9
  refine jj_astore C0 (lv' := [(6, .ref q9), (0, .ref (ha 0)), (1, .int (iI w)), (2, .int (iI (c : Int))), (3, .int (iI x)), (4, .int (iI y)), (5, .ref o)]) (by decide) rfl dL_order_25 ?_
  refine jj_iconst C0 dL_order_27 ?_
  exact jj_iret C0 hr () (trivial) (rfl) (rfl) (by decide) (by decide) dL_order_28
set_option maxHeartbeats 4000000 in
set_option maxRecDepth 100000 in
theorem cr_L_hedge (hl : l.stackTraces = false) {x y : Int} (hbad : ¬ (-10000 ≤ x ∧ x ≤ 10000 ∧ 0 ≤ y ∧ y ≤ 10000 ∧ -100000 ≤ sh + x ∧ sh + x ≤ 100000)) (hrx : iR x) (hry : iR y) (hsh : -100000 ≤ sh ∧ sh ≤ 100000) (hED0 : 0 < n → f_ED cA n ed cO EE) : jj_Mi (EVL es mi sa) (dC, dI) vwCl [(cI, .int), (cJ, .long), (cZ, .boolean), (cO, .object "java/lang/Object")] l yL_hedge (Cond.codeWith yL_hedge cL_hedge 5 (some .int) [(0, 10, 13, 13)] :: lw_U) ({ frames := 8, cells := 1, slots := 6, locals := 146 } : Room) [.ref (ha 0), .int (iI x), .int (iI y), .ref o] (wH ha cA hA nA ed cI cJ cZ td pr up dn dv rw sd mc n mo sh co Ca Cz K St Ex Am Bi As BL AL He Co ++ ((o, .inl (cJ, 1, .inr (.inl (lA F)))) :: EE)) (S := Unit) (fun _ => 1) (fun _ => True) (fun _ => wH ha cA hA nA ed cI cJ cZ td pr up dn dv rw sd mc n mo sh co Ca Cz K St Ex Am Bi As BL AL He Co ++ ((o, .inl (cJ, 1, .inr (.inl (lA F)))) :: EE)) := by
  refine jj_startW (hh := [(0, 10, 13, 13)]) (cc := cL_hedge) (nL := 5) (ret := (some .int)) (lv := [(0, .ref (ha 0)), (1, .int (iI x)), (2, .int (iI y)), (3, .ref o)]) (fun A => jj_Qi _ _ _ _ _ _ A) (hEVL es mi sa) (by decide) rfl (Nat.le_of_ble_eq_true rfl) rfl ?_
  intro p9 e9 s9 m9 a9 b9 me9 c9 A9 C1 hr hT
  have C0 : jj_C p9 s9 m9 a9 me9 c9 (dC, dI) vwCl A9 5 cL_hedge "StrikehallLaw" lw_U _ (EVL es mi sa) := jj_toU C1
  have hw := C0.2.2.2.2.1
  have hE := C0.2.2.2.2.2.2.2.1
  have hED : 0 < n → f_ED cA n ed cO ((o, .inl (cJ, 1, .inr (.inl (lA F)))) :: EE) := fun h => f_ED_cons (hED0 h)
  refine jj_aload_n C0 3 rfl dL_hedge_0 ?_
  refine jj_iconst C0 dL_hedge_1 ?_
  refine jj_aload_n C0 0 rfl dL_hedge_2 ?_
  refine jj_iload_n C0 1 rfl dL_hedge_3 ?_
  refine jj_iload_n C0 2 rfl dL_hedge_4 ?_
  refine jj_tryV C0 hT (jj_weakX (fun A U H h => h.1) (cx_X3_hedge hl (by first | exact hbad | omega) (by first | exact hrx | omega) (by first | exact hry | omega) (by first | exact hsh | omega))) (cwV 2 hw (lw_gV hU_629 hU_630 hU_631 hU_60 hU_632) rfl rfl rfl (by decide +kernel) ⟨Nat.le_of_ble_eq_true rfl, Nat.le_of_ble_eq_true rfl⟩) (ci := 4) (q0 := 0) rfl (rfl) rfl rfl (Nat.le_of_ble_eq_true rfl) ⟨by decide, by decide⟩ rfl rfl dL_hedge_5 [] ⟨0, 10, 13, 13⟩ [] rfl (fun z hz => absurd hz List.not_mem_nil) (by decide) (by decide) (hw _ hU_324) (va_Nw.use rfl (hE.1.2.2.1 (.castable "java/lang/IllegalArgumentException" "java/lang/IllegalArgumentException") (by decide +kernel))) (hpc := 13) rfl ?_
  intro q9
  refine jj_astore C0 (lv' := [(4, .ref q9), (0, .ref (ha 0)), (1, .int (iI x)), (2, .int (iI y)), (3, .ref o)]) (by decide) rfl dL_hedge_13 ?_
  refine jj_iconst C0 dL_hedge_15 ?_
  exact jj_iret C0 hr () (trivial) (rfl) (rfl) (by decide) (by decide) dL_hedge_16
set_option maxHeartbeats 4000000 in
set_option maxRecDepth 100000 in
theorem cr_L_seed (hl : l.stackTraces = false) {x : Int} (hbad : x < 0) (hrx : iR x) (hED0 : 0 < n → f_ED cA n ed cO EE) : jj_Mi (EVL es mi sa) (dC, dI) vwCl [(cI, .int), (cJ, .long), (cZ, .boolean), (cO, .object "java/lang/Object")] l yL_seed (Cond.codeWith yL_seed cL_seed 3 (some .int) [(0, 5, 8, 13)] :: lw_U) ({ frames := 7, cells := 1, slots := 6, locals := 121 } : Room) [.ref (ha 0), .int (iI x)] (wH ha cA hA nA ed cI cJ cZ td pr up dn dv rw sd mc n mo sh co Ca Cz K St Ex Am Bi As BL AL He Co ++ ((o, .inl (cJ, 1, .inr (.inl (lA F)))) :: EE)) (S := Unit) (fun _ => 1) (fun _ => True) (fun _ => wH ha cA hA nA ed cI cJ cZ td pr up dn dv rw sd mc n mo sh co Ca Cz K St Ex Am Bi As BL AL He Co ++ ((o, .inl (cJ, 1, .inr (.inl (lA F)))) :: EE)) := by
  refine jj_startW (hh := [(0, 5, 8, 13)]) (cc := cL_seed) (nL := 3) (ret := (some .int)) (lv := [(0, .ref (ha 0)), (1, .int (iI x))]) (fun A => jj_Qi _ _ _ _ _ _ A) (hEVL es mi sa) (by decide) rfl (Nat.le_of_ble_eq_true rfl) rfl ?_
  intro p9 e9 s9 m9 a9 b9 me9 c9 A9 C1 hr hT
  have C0 : jj_C p9 s9 m9 a9 me9 c9 (dC, dI) vwCl A9 3 cL_seed "StrikehallLaw" lw_U _ (EVL es mi sa) := jj_toU C1
  have hw := C0.2.2.2.2.1
  have hE := C0.2.2.2.2.2.2.2.1
  have hED : 0 < n → f_ED cA n ed cO ((o, .inl (cJ, 1, .inr (.inl (lA F)))) :: EE) := fun h => f_ED_cons (hED0 h)
  refine jj_aload_n C0 0 rfl dL_seed_0 ?_
  refine jj_iload_n C0 1 rfl dL_seed_1 ?_
  refine jj_tryV C0 hT (jj_weakX (fun A U H h => h.1) (cx_X3_seed hl (by first | exact hbad | omega) (by first | exact hrx | omega))) (cwV 1 hw (lw_gV hU_642 hU_643 hU_644 hU_60 hU_645) rfl rfl rfl (by decide +kernel) ⟨Nat.le_of_ble_eq_true rfl, Nat.le_of_ble_eq_true rfl⟩) (ci := 4) (q0 := 0) rfl (rfl) rfl rfl (Nat.le_of_ble_eq_true rfl) ⟨by decide, by decide⟩ rfl rfl dL_seed_2 [] ⟨0, 5, 8, 13⟩ [] rfl (fun z hz => absurd hz List.not_mem_nil) (by decide) (by decide) (hw _ hU_324) (va_Nw.use rfl (hE.1.2.2.1 (.castable "java/lang/IllegalArgumentException" "java/lang/IllegalArgumentException") (by decide +kernel))) (hpc := 8) rfl ?_
  intro q9
  refine jj_astore_n C0 (i := 2) rfl (lv' := [(2, .ref q9), (0, .ref (ha 0)), (1, .int (iI x))]) (by decide) rfl dL_seed_8 ?_
  refine jj_iconst C0 dL_seed_9 ?_
  exact jj_iret C0 hr () (trivial) (rfl) (rfl) (by decide) (by decide) dL_seed_10
set_option maxHeartbeats 4000000 in
set_option maxRecDepth 100000 in
theorem cr_L_exercise_1 (hl : l.stackTraces = false) {w z x : Int} (hbad : ¬ (-1 ≤ w ∧ w ≤ 5)) (hrw : iR w) (hED0 : 0 < n → f_ED cA n ed cO EE) : jj_Mi (EVL es mi sa) (dC, dI) vwCl [(cI, .int), (cJ, .long), (cZ, .boolean), (cO, .object "java/lang/Object")] l yL_exercise (Cond.codeWith yL_exercise cL_exercise 6 (some .int) [(0, 12, 15, 33), (0, 12, 19, 13), (0, 12, 23, 27)] :: lw_U) ({ frames := 9, cells := 1, slots := 6, locals := 167 } : Room) [.ref (ha 0), .int (iI w), .int (iI z), .int (iI x), .ref o] (wH ha cA hA nA ed cI cJ cZ td pr up dn dv rw sd mc n mo sh co Ca Cz K St Ex Am Bi As BL AL He Co ++ ((o, .inl (cJ, 1, .inr (.inl (lA F)))) :: EE)) (S := Unit) (fun _ => 1) (fun _ => True) (fun _ => wH ha cA hA nA ed cI cJ cZ td pr up dn dv rw sd mc n mo sh co Ca Cz K St Ex Am Bi As BL AL He Co ++ ((o, .inl (cJ, 1, .inr (.inl (lA F)))) :: EE)) := by
  refine jj_startW (hh := [(0, 12, 15, 33), (0, 12, 19, 13), (0, 12, 23, 27)]) (cc := cL_exercise) (nL := 6) (ret := (some .int)) (lv := [(0, .ref (ha 0)), (1, .int (iI w)), (2, .int (iI z)), (3, .int (iI x)), (4, .ref o)]) (fun A => jj_Qi _ _ _ _ _ _ A) (hEVL es mi sa) (by decide) rfl (Nat.le_of_ble_eq_true rfl) rfl ?_
  intro p9 e9 s9 m9 a9 b9 me9 c9 A9 C1 hr hT
  have C0 : jj_C p9 s9 m9 a9 me9 c9 (dC, dI) vwCl A9 6 cL_exercise "StrikehallLaw" lw_U _ (EVL es mi sa) := jj_toU C1
  have hw := C0.2.2.2.2.1
  have hE := C0.2.2.2.2.2.2.2.1
  have hED : 0 < n → f_ED cA n ed cO ((o, .inl (cJ, 1, .inr (.inl (lA F)))) :: EE) := fun h => f_ED_cons (hED0 h)
  refine jj_aload C0 4 rfl dL_exercise_0 ?_
  refine jj_iconst C0 dL_exercise_2 ?_
  refine jj_aload_n C0 0 rfl dL_exercise_3 ?_
  refine jj_iload_n C0 1 rfl dL_exercise_4 ?_
  refine jj_iload_n C0 2 rfl dL_exercise_5 ?_
  refine jj_iload_n C0 3 rfl dL_exercise_6 ?_
  refine jj_tryV C0 hT (jj_weakX (fun A U H h => h.1) (cx_X3_exercise_1 hl (by first | exact hbad | omega) (by first | exact hrw | omega))) (cwV 3 hw (lw_gV hU_650 hU_651 hU_652 hU_60 hU_653) rfl rfl rfl (by decide +kernel) ⟨Nat.le_of_ble_eq_true rfl, Nat.le_of_ble_eq_true rfl⟩) (ci := 4) (q0 := 0) rfl (rfl) rfl rfl (Nat.le_of_ble_eq_true rfl) ⟨by decide, by decide⟩ rfl rfl dL_exercise_7 [] ⟨0, 12, 15, 33⟩ [⟨0, 12, 19, 13⟩, ⟨0, 12, 23, 27⟩] rfl (fun z hz => absurd hz List.not_mem_nil) (by decide) (by decide) (hw _ hU_549) (va_Nw.use rfl (hE.1.2.2.1 (.castable "java/lang/IndexOutOfBoundsException" "java/lang/IndexOutOfBoundsException") (by decide +kernel))) (hpc := 15) rfl ?_
  intro q9
  refine jj_astore C0 (lv' := [(5, .ref q9), (0, .ref (ha 0)), (1, .int (iI w)), (2, .int (iI z)), (3, .int (iI x)), (4, .ref o)]) (by decide) rfl dL_exercise_15 ?_
  refine jj_iconst C0 dL_exercise_17 ?_
  exact jj_iret C0 hr () (trivial) (rfl) (rfl) (by decide) (by decide) dL_exercise_18
set_option maxHeartbeats 4000000 in
set_option maxRecDepth 100000 in
theorem cr_L_exercise_2 (hl : l.stackTraces = false) {k : Nat} {w z x : Int} (hbad : ¬ (0 ≤ z ∧ z < (n : Int))) (hzk : (w = -1 ∧ k = 6) ∨ (w = (k : Int) ∧ k ≤ 5)) (hrz : iR z) (hn : n ≤ 12) (hED0 : 0 < n → f_ED cA n ed cO EE) : jj_Mi (EVL es mi sa) (dC, dI) vwCl [(cI, .int), (cJ, .long), (cZ, .boolean), (cO, .object "java/lang/Object")] l yL_exercise (Cond.codeWith yL_exercise cL_exercise 6 (some .int) [(0, 12, 15, 33), (0, 12, 19, 13), (0, 12, 23, 27)] :: lw_U) ({ frames := 8, cells := 1, slots := 6, locals := 148 } : Room) [.ref (ha 0), .int (iI w), .int (iI z), .int (iI x), .ref o] (wH ha cA hA nA ed cI cJ cZ td pr up dn dv rw sd mc n mo sh co Ca Cz K St Ex Am Bi As BL AL He Co ++ ((o, .inl (cJ, 1, .inr (.inl (lA F)))) :: EE)) (S := Unit) (fun _ => 1) (fun _ => True) (fun _ => wH ha cA hA nA ed cI cJ cZ td pr up dn dv rw sd mc n mo sh co Ca Cz K St Ex Am Bi As BL AL He Co ++ ((o, .inl (cJ, 1, .inr (.inl (lA F)))) :: EE)) := by
  refine jj_startW (hh := [(0, 12, 15, 33), (0, 12, 19, 13), (0, 12, 23, 27)]) (cc := cL_exercise) (nL := 6) (ret := (some .int)) (lv := [(0, .ref (ha 0)), (1, .int (iI w)), (2, .int (iI z)), (3, .int (iI x)), (4, .ref o)]) (fun A => jj_Qi _ _ _ _ _ _ A) (hEVL es mi sa) (by decide) rfl (Nat.le_of_ble_eq_true rfl) rfl ?_
  intro p9 e9 s9 m9 a9 b9 me9 c9 A9 C1 hr hT
  have C0 : jj_C p9 s9 m9 a9 me9 c9 (dC, dI) vwCl A9 6 cL_exercise "StrikehallLaw" lw_U _ (EVL es mi sa) := jj_toU C1
  have hw := C0.2.2.2.2.1
  have hE := C0.2.2.2.2.2.2.2.1
  have hED : 0 < n → f_ED cA n ed cO ((o, .inl (cJ, 1, .inr (.inl (lA F)))) :: EE) := fun h => f_ED_cons (hED0 h)
  refine jj_aload C0 4 rfl dL_exercise_0 ?_
  refine jj_iconst C0 dL_exercise_2 ?_
  refine jj_aload_n C0 0 rfl dL_exercise_3 ?_
  refine jj_iload_n C0 1 rfl dL_exercise_4 ?_
  refine jj_iload_n C0 2 rfl dL_exercise_5 ?_
  refine jj_iload_n C0 3 rfl dL_exercise_6 ?_
  refine jj_tryV C0 hT (jj_weakX (fun A U H h => h.1) (cx_X3_exercise_2 hl (by first | exact hbad | omega) (by first | exact hzk | omega) (by first | exact hrz | omega) (by first | exact hn | omega))) (cwV 3 hw (lw_gV hU_650 hU_651 hU_652 hU_60 hU_653) rfl rfl rfl (by decide +kernel) ⟨Nat.le_of_ble_eq_true rfl, Nat.le_of_ble_eq_true rfl⟩) (ci := 4) (q0 := 0) rfl (rfl) rfl rfl (Nat.le_of_ble_eq_true rfl) ⟨by decide, by decide⟩ rfl rfl dL_exercise_7 [] ⟨0, 12, 15, 33⟩ [⟨0, 12, 19, 13⟩, ⟨0, 12, 23, 27⟩] rfl (fun z hz => absurd hz List.not_mem_nil) (by decide) (by decide) (hw _ hU_549) (va_Nw.use rfl (hE.1.2.2.1 (.castable "java/lang/IndexOutOfBoundsException" "java/lang/IndexOutOfBoundsException") (by decide +kernel))) (hpc := 15) rfl ?_
  intro q9
  refine jj_astore C0 (lv' := [(5, .ref q9), (0, .ref (ha 0)), (1, .int (iI w)), (2, .int (iI z)), (3, .int (iI x)), (4, .ref o)]) (by decide) rfl dL_exercise_15 ?_
  refine jj_iconst C0 dL_exercise_17 ?_
  exact jj_iret C0 hr () (trivial) (rfl) (rfl) (by decide) (by decide) dL_exercise_18
set_option maxHeartbeats 4000000 in
set_option maxRecDepth 100000 in
theorem cr_L_exercise_A (hl : l.stackTraces = false) {k c : Nat} {w x : Int} (hbad : ¬ (1 ≤ x ∧ x ≤ 1000)) (hzk : (w = -1 ∧ k = 6) ∨ (w = (k : Int) ∧ k ≤ 5)) (hrx : iR x) (hcn : c < n) (hn : n ≤ 12) (hED0 : 0 < n → f_ED cA n ed cO EE) : jj_Mi (EVL es mi sa) (dC, dI) vwCl [(cI, .int), (cJ, .long), (cZ, .boolean), (cO, .object "java/lang/Object")] l yL_exercise (Cond.codeWith yL_exercise cL_exercise 6 (some .int) [(0, 12, 15, 33), (0, 12, 19, 13), (0, 12, 23, 27)] :: lw_U) ({ frames := 8, cells := 1, slots := 6, locals := 149 } : Room) [.ref (ha 0), .int (iI w), .int (iI (c : Int)), .int (iI x), .ref o] (wH ha cA hA nA ed cI cJ cZ td pr up dn dv rw sd mc n mo sh co Ca Cz K St Ex Am Bi As BL AL He Co ++ ((o, .inl (cJ, 1, .inr (.inl (lA F)))) :: EE)) (S := Unit) (fun _ => 2) (fun _ => True) (fun _ => wH ha cA hA nA ed cI cJ cZ td pr up dn dv rw sd mc n mo sh co Ca Cz K St Ex Am Bi As BL AL He Co ++ ((o, .inl (cJ, 1, .inr (.inl (lA F)))) :: EE)) := by
  refine jj_startW (hh := [(0, 12, 15, 33), (0, 12, 19, 13), (0, 12, 23, 27)]) (cc := cL_exercise) (nL := 6) (ret := (some .int)) (lv := [(0, .ref (ha 0)), (1, .int (iI w)), (2, .int (iI (c : Int))), (3, .int (iI x)), (4, .ref o)]) (fun A => jj_Qi _ _ _ _ _ _ A) (hEVL es mi sa) (by decide) rfl (Nat.le_of_ble_eq_true rfl) rfl ?_
  intro p9 e9 s9 m9 a9 b9 me9 c9 A9 C1 hr hT
  have C0 : jj_C p9 s9 m9 a9 me9 c9 (dC, dI) vwCl A9 6 cL_exercise "StrikehallLaw" lw_U _ (EVL es mi sa) := jj_toU C1
  have hw := C0.2.2.2.2.1
  have hE := C0.2.2.2.2.2.2.2.1
  have hED : 0 < n → f_ED cA n ed cO ((o, .inl (cJ, 1, .inr (.inl (lA F)))) :: EE) := fun h => f_ED_cons (hED0 h)
  refine jj_aload C0 4 rfl dL_exercise_0 ?_
  refine jj_iconst C0 dL_exercise_2 ?_
  refine jj_aload_n C0 0 rfl dL_exercise_3 ?_
  refine jj_iload_n C0 1 rfl dL_exercise_4 ?_
  refine jj_iload_n C0 2 rfl dL_exercise_5 ?_
  refine jj_iload_n C0 3 rfl dL_exercise_6 ?_
  refine jj_tryV C0 hT (jj_weakX (fun A U H h => h.1) (cx_X3_exercise_A hl (by first | exact hbad | omega) (by first | exact hzk | omega) (by first | exact hrx | omega) (by first | exact hcn | omega) (by first | exact hn | omega) (by first | exact hED | omega))) (cwV 3 hw (lw_gV hU_650 hU_651 hU_652 hU_60 hU_653) rfl rfl rfl (by decide +kernel) ⟨Nat.le_of_ble_eq_true rfl, Nat.le_of_ble_eq_true rfl⟩) (ci := 4) (q0 := 0) rfl (rfl) rfl rfl (Nat.le_of_ble_eq_true rfl) ⟨by decide, by decide⟩ rfl rfl dL_exercise_7 [⟨0, 12, 15, 33⟩] ⟨0, 12, 19, 13⟩ [⟨0, 12, 23, 27⟩] rfl (List.forall_mem_cons.mpr ⟨Or.inr ⟨by decide, _, hw _ hU_549, hE.2.2.1⟩, fun z hz => absurd hz List.not_mem_nil⟩) (by decide) (by decide) (hw _ hU_324) (va_Nw.use rfl (hE.1.2.2.1 (.castable "java/lang/IllegalArgumentException" "java/lang/IllegalArgumentException") (by decide +kernel))) (hpc := 19) rfl ?_
  intro q9
  refine jj_astore C0 (lv' := [(5, .ref q9), (0, .ref (ha 0)), (1, .int (iI w)), (2, .int (iI (c : Int))), (3, .int (iI x)), (4, .ref o)]) (by decide) rfl dL_exercise_19 ?_
  refine jj_iconst C0 dL_exercise_21 ?_
  exact jj_iret C0 hr () (trivial) (rfl) (rfl) (by decide) (by decide) dL_exercise_22
set_option maxHeartbeats 4000000 in
set_option maxRecDepth 100000 in
theorem cr_L_exercise_S (hl : l.stackTraces = false) {k c : Nat} {w x : Int} (hbad : ¬ (x ≤ He (7 * c + k) ∧ (td : Int) ≤ Ex c ∧ (Am c ≠ 0 ∨ Ex c = (td : Int)))) (hx1 : 1 ≤ x ∧ x ≤ 1000) (hzk : (w = -1 ∧ k = 6) ∨ (w = (k : Int) ∧ k ≤ 5)) (hcn : c < n) (hn : n ≤ 12) (hEx : ∀ j, 0 ≤ Ex j ∧ Ex j ≤ 200) (htd : td ≤ 200) (hHe : ∀ j, -1000000 ≤ He j ∧ He j ≤ 1000000) (hAm : ∀ j, 0 ≤ Am j ∧ Am j ≤ 1) (hED0 : 0 < n → f_ED cA n ed cO EE) : jj_Mi (EVL es mi sa) (dC, dI) vwCl [(cI, .int), (cJ, .long), (cZ, .boolean), (cO, .object "java/lang/Object")] l yL_exercise (Cond.codeWith yL_exercise cL_exercise 6 (some .int) [(0, 12, 15, 33), (0, 12, 19, 13), (0, 12, 23, 27)] :: lw_U) ({ frames := 8, cells := 1, slots := 6, locals := 148 } : Room) [.ref (ha 0), .int (iI w), .int (iI (c : Int)), .int (iI x), .ref o] (wH ha cA hA nA ed cI cJ cZ td pr up dn dv rw sd mc n mo sh co Ca Cz K St Ex Am Bi As BL AL He Co ++ ((o, .inl (cJ, 1, .inr (.inl (lA F)))) :: EE)) (S := Unit) (fun _ => 3) (fun _ => True) (fun _ => wH ha cA hA nA ed cI cJ cZ td pr up dn dv rw sd mc n mo sh co Ca Cz K St Ex Am Bi As BL AL He Co ++ ((o, .inl (cJ, 1, .inr (.inl (lA F)))) :: EE)) := by
  refine jj_startW (hh := [(0, 12, 15, 33), (0, 12, 19, 13), (0, 12, 23, 27)]) (cc := cL_exercise) (nL := 6) (ret := (some .int)) (lv := [(0, .ref (ha 0)), (1, .int (iI w)), (2, .int (iI (c : Int))), (3, .int (iI x)), (4, .ref o)]) (fun A => jj_Qi _ _ _ _ _ _ A) (hEVL es mi sa) (by decide) rfl (Nat.le_of_ble_eq_true rfl) rfl ?_
  intro p9 e9 s9 m9 a9 b9 me9 c9 A9 C1 hr hT
  have C0 : jj_C p9 s9 m9 a9 me9 c9 (dC, dI) vwCl A9 6 cL_exercise "StrikehallLaw" lw_U _ (EVL es mi sa) := jj_toU C1
  have hw := C0.2.2.2.2.1
  have hE := C0.2.2.2.2.2.2.2.1
  have hED : 0 < n → f_ED cA n ed cO ((o, .inl (cJ, 1, .inr (.inl (lA F)))) :: EE) := fun h => f_ED_cons (hED0 h)
  refine jj_aload C0 4 rfl dL_exercise_0 ?_
  refine jj_iconst C0 dL_exercise_2 ?_
  refine jj_aload_n C0 0 rfl dL_exercise_3 ?_
  refine jj_iload_n C0 1 rfl dL_exercise_4 ?_
  refine jj_iload_n C0 2 rfl dL_exercise_5 ?_
  refine jj_iload_n C0 3 rfl dL_exercise_6 ?_
  refine jj_tryV C0 hT (jj_weakX (fun A U H h => h.1) (cx_X3_exercise_S hl (by first | exact hbad | omega) (by first | exact hx1 | omega) (by first | exact hzk | omega) (by first | exact hcn | omega) (by first | exact hn | omega) (by first | exact hED | omega) (by first | exact hEx | omega) (by first | exact htd | omega) (by first | exact hHe | omega) (by first | exact hAm | omega))) (cwV 3 hw (lw_gV hU_650 hU_651 hU_652 hU_60 hU_653) rfl rfl rfl (by decide +kernel) ⟨Nat.le_of_ble_eq_true rfl, Nat.le_of_ble_eq_true rfl⟩) (ci := 4) (q0 := 0) rfl (rfl) rfl rfl (Nat.le_of_ble_eq_true rfl) ⟨by decide, by decide⟩ rfl rfl dL_exercise_7 [⟨0, 12, 15, 33⟩, ⟨0, 12, 19, 13⟩] ⟨0, 12, 23, 27⟩ [] rfl (List.forall_mem_cons.mpr ⟨Or.inr ⟨by decide, _, hw _ hU_549, hE.2.2.2.1⟩, List.forall_mem_cons.mpr ⟨Or.inr ⟨by decide, _, hw _ hU_324, hE.2.2.2.2⟩, fun z hz => absurd hz List.not_mem_nil⟩⟩) (by decide) (by decide) (hw _ hU_426) (va_Nw.use rfl (hE.1.2.2.1 (.castable "java/lang/IllegalStateException" "java/lang/IllegalStateException") (by decide +kernel))) (hpc := 23) rfl ?_
  intro q9
  refine jj_astore C0 (lv' := [(5, .ref q9), (0, .ref (ha 0)), (1, .int (iI w)), (2, .int (iI (c : Int))), (3, .int (iI x)), (4, .ref o)]) (by decide) rfl dL_exercise_23 ?_
  refine jj_iconst C0 dL_exercise_25 ?_
  exact jj_iret C0 hr () (trivial) (rfl) (rfl) (by decide) (by decide) dL_exercise_26
set_option maxHeartbeats 4000000 in
set_option maxRecDepth 100000 in
theorem cr_L_contrary (hl : l.stackTraces = false) {w z v : Int} (hbad : ¬ (0 ≤ w ∧ w ≤ 5 ∧ 0 ≤ z ∧ z < (n : Int))) (hrw : iR w) (hrz : iR z) (hn : n ≤ 12) (hED0 : 0 < n → f_ED cA n ed cO EE) : jj_Mi (EVL es mi sa) (dC, dI) vwCl [(cI, .int), (cJ, .long), (cZ, .boolean), (cO, .object "java/lang/Object")] l yL_contrary (Cond.codeWith yL_contrary cL_contrary 6 (some .int) [(0, 19, 22, 33), (0, 19, 26, 27)] :: lw_U) ({ frames := 8, cells := 1, slots := 6, locals := 145 } : Room) [.ref (ha 0), .int (iI w), .int (iI z), .int (iI v), .ref o] (wH ha cA hA nA ed cI cJ cZ td pr up dn dv rw sd mc n mo sh co Ca Cz K St Ex Am Bi As BL AL He Co ++ ((o, .inl (cJ, 1, .inr (.inl (lA F)))) :: EE)) (S := Unit) (fun _ => 1) (fun _ => True) (fun _ => wH ha cA hA nA ed cI cJ cZ td pr up dn dv rw sd mc n mo sh co Ca Cz K St Ex Am Bi As BL AL He Co ++ ((o, .inl (cJ, 1, .inr (.inl (lA F)))) :: EE)) := by
  refine jj_startW (hh := [(0, 19, 22, 33), (0, 19, 26, 27)]) (cc := cL_contrary) (nL := 6) (ret := (some .int)) (lv := [(0, .ref (ha 0)), (1, .int (iI w)), (2, .int (iI z)), (3, .int (iI v)), (4, .ref o)]) (fun A => jj_Qi _ _ _ _ _ _ A) (hEVL es mi sa) (by decide) rfl (Nat.le_of_ble_eq_true rfl) rfl ?_
  intro p9 e9 s9 m9 a9 b9 me9 c9 A9 C1 hr hT
  have C0 : jj_C p9 s9 m9 a9 me9 c9 (dC, dI) vwCl A9 6 cL_contrary "StrikehallLaw" lw_U _ (EVL es mi sa) := jj_toU C1
  have hw := C0.2.2.2.2.1
  have hE := C0.2.2.2.2.2.2.2.1
  have hED : 0 < n → f_ED cA n ed cO ((o, .inl (cJ, 1, .inr (.inl (lA F)))) :: EE) := fun h => f_ED_cons (hED0 h)
  refine jj_aload C0 4 rfl dL_contrary_0 ?_
  refine jj_iconst C0 dL_contrary_2 ?_
  refine jj_aload_n C0 0 rfl dL_contrary_3 ?_
  refine jj_iload_n C0 1 rfl dL_contrary_4 ?_
  refine jj_iload_n C0 2 rfl dL_contrary_5 ?_
  refine jj_iload_n C0 3 rfl dL_contrary_6 ?_
  refine jj_tryV C0 hT (jj_weakX (fun A U H h => h.1) (cx_X3_contrary hl (by first | exact hbad | omega) (by first | exact hrw | omega) (by first | exact hrz | omega) (by first | exact hn | omega))) (cwV 3 hw (lw_gV hU_683 hU_684 hU_685 hU_60 hU_686) rfl rfl rfl (by decide +kernel) ⟨Nat.le_of_ble_eq_true rfl, Nat.le_of_ble_eq_true rfl⟩) (ci := 4) (q0 := 0) rfl (rfl) rfl rfl (Nat.le_of_ble_eq_true rfl) ⟨by decide, by decide⟩ rfl rfl dL_contrary_7 [] ⟨0, 19, 22, 33⟩ [⟨0, 19, 26, 27⟩] rfl (fun z hz => absurd hz List.not_mem_nil) (by decide) (by decide) (hw _ hU_549) (va_Nw.use rfl (hE.1.2.2.1 (.castable "java/lang/IndexOutOfBoundsException" "java/lang/IndexOutOfBoundsException") (by decide +kernel))) (hpc := 22) rfl ?_
  intro q9
  refine jj_astore C0 (lv' := [(5, .ref q9), (0, .ref (ha 0)), (1, .int (iI w)), (2, .int (iI z)), (3, .int (iI v)), (4, .ref o)]) (by decide) rfl dL_contrary_22 ?_
  refine jj_iconst C0 dL_contrary_24 ?_
  exact jj_iret C0 hr () (trivial) (rfl) (rfl) (by decide) (by decide) dL_contrary_25
set_option maxHeartbeats 4000000 in
set_option maxRecDepth 100000 in
theorem cr_L_contrary_S (hl : l.stackTraces = false) {c : Nat} {w v : Int} (hbad : Ex c < (td : Int)) (hw0 : 0 ≤ w ∧ w ≤ 5) (hcn : c < n) (hn : n ≤ 12) (hEx : ∀ j, 0 ≤ Ex j ∧ Ex j ≤ 200) (htd : td ≤ 200) (hED0 : 0 < n → f_ED cA n ed cO EE) : jj_Mi (EVL es mi sa) (dC, dI) vwCl [(cI, .int), (cJ, .long), (cZ, .boolean), (cO, .object "java/lang/Object")] l yL_contrary (Cond.codeWith yL_contrary cL_contrary 6 (some .int) [(0, 19, 22, 33), (0, 19, 26, 27)] :: lw_U) ({ frames := 8, cells := 1, slots := 6, locals := 145 } : Room) [.ref (ha 0), .int (iI w), .int (iI (c : Int)), .int (iI v), .ref o] (wH ha cA hA nA ed cI cJ cZ td pr up dn dv rw sd mc n mo sh co Ca Cz K St Ex Am Bi As BL AL He Co ++ ((o, .inl (cJ, 1, .inr (.inl (lA F)))) :: EE)) (S := Unit) (fun _ => 2) (fun _ => True) (fun _ => wH ha cA hA nA ed cI cJ cZ td pr up dn dv rw sd mc n mo sh co Ca Cz K St Ex Am Bi As BL AL He Co ++ ((o, .inl (cJ, 1, .inr (.inl (lA F)))) :: EE)) := by
  refine jj_startW (hh := [(0, 19, 22, 33), (0, 19, 26, 27)]) (cc := cL_contrary) (nL := 6) (ret := (some .int)) (lv := [(0, .ref (ha 0)), (1, .int (iI w)), (2, .int (iI (c : Int))), (3, .int (iI v)), (4, .ref o)]) (fun A => jj_Qi _ _ _ _ _ _ A) (hEVL es mi sa) (by decide) rfl (Nat.le_of_ble_eq_true rfl) rfl ?_
  intro p9 e9 s9 m9 a9 b9 me9 c9 A9 C1 hr hT
  have C0 : jj_C p9 s9 m9 a9 me9 c9 (dC, dI) vwCl A9 6 cL_contrary "StrikehallLaw" lw_U _ (EVL es mi sa) := jj_toU C1
  have hw := C0.2.2.2.2.1
  have hE := C0.2.2.2.2.2.2.2.1
  have hED : 0 < n → f_ED cA n ed cO ((o, .inl (cJ, 1, .inr (.inl (lA F)))) :: EE) := fun h => f_ED_cons (hED0 h)
  refine jj_aload C0 4 rfl dL_contrary_0 ?_
  refine jj_iconst C0 dL_contrary_2 ?_
  refine jj_aload_n C0 0 rfl dL_contrary_3 ?_
  refine jj_iload_n C0 1 rfl dL_contrary_4 ?_
  refine jj_iload_n C0 2 rfl dL_contrary_5 ?_
  refine jj_iload_n C0 3 rfl dL_contrary_6 ?_
  refine jj_tryV C0 hT (jj_weakX (fun A U H h => h.1) (cx_X3_contrary_S hl (by first | exact hbad | omega) (by first | exact hw0 | omega) (by first | exact hcn | omega) (by first | exact hn | omega) (by first | exact hED | omega) (by first | exact hEx | omega) (by first | exact htd | omega))) (cwV 3 hw (lw_gV hU_683 hU_684 hU_685 hU_60 hU_686) rfl rfl rfl (by decide +kernel) ⟨Nat.le_of_ble_eq_true rfl, Nat.le_of_ble_eq_true rfl⟩) (ci := 4) (q0 := 0) rfl (rfl) rfl rfl (Nat.le_of_ble_eq_true rfl) ⟨by decide, by decide⟩ rfl rfl dL_contrary_7 [⟨0, 19, 22, 33⟩] ⟨0, 19, 26, 27⟩ [] rfl (List.forall_mem_cons.mpr ⟨Or.inr ⟨by decide, _, hw _ hU_549, hE.2.2.2.1⟩, fun z hz => absurd hz List.not_mem_nil⟩) (by decide) (by decide) (hw _ hU_426) (va_Nw.use rfl (hE.1.2.2.1 (.castable "java/lang/IllegalStateException" "java/lang/IllegalStateException") (by decide +kernel))) (hpc := 26) rfl ?_
  intro q9
  refine jj_astore C0 (lv' := [(5, .ref q9), (0, .ref (ha 0)), (1, .int (iI w)), (2, .int (iI (c : Int))), (3, .int (iI v)), (4, .ref o)]) (by decide) rfl dL_contrary_26 ?_
  refine jj_iconst C0 dL_contrary_28 ?_
  exact jj_iret C0 hr () (trivial) (rfl) (rfl) (by decide) (by decide) dL_contrary_29
set_option maxHeartbeats 4000000 in
set_option maxRecDepth 100000 in
theorem cr_L_close (hl : l.stackTraces = false)  (hbad : td = 200) (hED0 : 0 < n → f_ED cA n ed cO EE) : jj_Mi (EVL es mi sa) (dC, dI) vwCl [(cI, .int), (cJ, .long), (cZ, .boolean), (cO, .object "java/lang/Object")] l yL_close (Cond.codeWith yL_close cL_close 3 (some .int) [(0, 8, 11, 27)] :: lw_U) ({ frames := 7, cells := 1, slots := 6, locals := 124 } : Room) [.ref (ha 0), .ref o] (wH ha cA hA nA ed cI cJ cZ td pr up dn dv rw sd mc n mo sh co Ca Cz K St Ex Am Bi As BL AL He Co ++ ((o, .inl (cJ, 1, .inr (.inl (lA F)))) :: EE)) (S := Unit) (fun _ => 1) (fun _ => True) (fun _ => wH ha cA hA nA ed cI cJ cZ td pr up dn dv rw sd mc n mo sh co Ca Cz K St Ex Am Bi As BL AL He Co ++ ((o, .inl (cJ, 1, .inr (.inl (lA F)))) :: EE)) := by
  refine jj_startW (hh := [(0, 8, 11, 27)]) (cc := cL_close) (nL := 3) (ret := (some .int)) (lv := [(0, .ref (ha 0)), (1, .ref o)]) (fun A => jj_Qi _ _ _ _ _ _ A) (hEVL es mi sa) (by decide) rfl (Nat.le_of_ble_eq_true rfl) rfl ?_
  intro p9 e9 s9 m9 a9 b9 me9 c9 A9 C1 hr hT
  have C0 : jj_C p9 s9 m9 a9 me9 c9 (dC, dI) vwCl A9 3 cL_close "StrikehallLaw" lw_U _ (EVL es mi sa) := jj_toU C1
  have hw := C0.2.2.2.2.1
  have hE := C0.2.2.2.2.2.2.2.1
  have hED : 0 < n → f_ED cA n ed cO ((o, .inl (cJ, 1, .inr (.inl (lA F)))) :: EE) := fun h => f_ED_cons (hED0 h)
  refine jj_aload_n C0 1 rfl dL_close_0 ?_
  refine jj_iconst C0 dL_close_1 ?_
  refine jj_aload_n C0 0 rfl dL_close_2 ?_
  refine jj_tryV C0 hT (jj_weakX (fun A U H h => h.1) (cx_X3_close hl (by first | exact hbad | omega))) (cwV 0 hw (lw_gV hU_694 hU_695 hU_696 hU_60 hU_697) rfl rfl rfl (by decide +kernel) ⟨Nat.le_of_ble_eq_true rfl, Nat.le_of_ble_eq_true rfl⟩) (ci := 4) (q0 := 0) rfl (rfl) rfl rfl (Nat.le_of_ble_eq_true rfl) ⟨by decide, by decide⟩ rfl rfl dL_close_3 [] ⟨0, 8, 11, 27⟩ [] rfl (fun z hz => absurd hz List.not_mem_nil) (by decide) (by decide) (hw _ hU_426) (va_Nw.use rfl (hE.1.2.2.1 (.castable "java/lang/IllegalStateException" "java/lang/IllegalStateException") (by decide +kernel))) (hpc := 11) rfl ?_
  intro q9
  refine jj_astore_n C0 (i := 2) rfl (lv' := [(2, .ref q9), (0, .ref (ha 0)), (1, .ref o)]) (by decide) rfl dL_close_11 ?_
  refine jj_iconst C0 dL_close_12 ?_
  exact jj_iret C0 hr () (trivial) (rfl) (rfl) (by decide) (by decide) dL_close_13
set_option maxHeartbeats 4000000 in
set_option maxRecDepth 100000 in
theorem cr_L_value (hl : l.stackTraces = false) {z v : Int} (hbad : ¬ (0 ≤ z ∧ z < (n : Int))) (hrz : iR z) (hn : n ≤ 12) (hED0 : 0 < n → f_ED cA n ed cO EE) : jj_Mi (EVL es mi sa) (dC, dI) vwCl [(cI, .int), (cJ, .long), (cZ, .boolean), (cO, .object "java/lang/Object")] l yL_value (Cond.codeWith yL_value cL_value 5 (some .int) [(0, 9, 12, 33)] :: lw_U) ({ frames := 8, cells := 1, slots := 6, locals := 150 } : Room) [.ref (ha 0), .int (iI z), .int (iI v), .ref o] (wH ha cA hA nA ed cI cJ cZ td pr up dn dv rw sd mc n mo sh co Ca Cz K St Ex Am Bi As BL AL He Co ++ ((o, .inl (cJ, 1, .inr (.inl (lA F)))) :: EE)) (S := Unit) (fun _ => 1) (fun _ => True) (fun _ => wH ha cA hA nA ed cI cJ cZ td pr up dn dv rw sd mc n mo sh co Ca Cz K St Ex Am Bi As BL AL He Co ++ ((o, .inl (cJ, 1, .inr (.inl (lA F)))) :: EE)) := by
  refine jj_startW (hh := [(0, 9, 12, 33)]) (cc := cL_value) (nL := 5) (ret := (some .int)) (lv := [(0, .ref (ha 0)), (1, .int (iI z)), (2, .int (iI v)), (3, .ref o)]) (fun A => jj_Qi _ _ _ _ _ _ A) (hEVL es mi sa) (by decide) rfl (Nat.le_of_ble_eq_true rfl) rfl ?_
  intro p9 e9 s9 m9 a9 b9 me9 c9 A9 C1 hr hT
  have C0 : jj_C p9 s9 m9 a9 me9 c9 (dC, dI) vwCl A9 5 cL_value "StrikehallLaw" lw_U _ (EVL es mi sa) := jj_toU C1
  have hw := C0.2.2.2.2.1
  have hE := C0.2.2.2.2.2.2.2.1
  have hED : 0 < n → f_ED cA n ed cO ((o, .inl (cJ, 1, .inr (.inl (lA F)))) :: EE) := fun h => f_ED_cons (hED0 h)
  refine jj_aload_n C0 3 rfl dL_value_0 ?_
  refine jj_iconst C0 dL_value_1 ?_
  refine jj_aload_n C0 0 rfl dL_value_2 ?_
  refine jj_iload_n C0 1 rfl dL_value_3 ?_
  refine jj_iload_n C0 2 rfl dL_value_4 ?_
  refine jj_tryV C0 hT (jj_weakX (fun A U H h => h.1) (cx_X3_value hl (by first | exact hbad | omega) (by first | exact hrz | omega) (by first | exact hn | omega))) (cwV 2 hw (lw_gV hU_714 hU_715 hU_716 hU_60 hU_717) rfl rfl rfl (by decide +kernel) ⟨Nat.le_of_ble_eq_true rfl, Nat.le_of_ble_eq_true rfl⟩) (ci := 4) (q0 := 0) rfl (rfl) rfl rfl (Nat.le_of_ble_eq_true rfl) ⟨by decide, by decide⟩ rfl rfl dL_value_5 [] ⟨0, 9, 12, 33⟩ [] rfl (fun z hz => absurd hz List.not_mem_nil) (by decide) (by decide) (hw _ hU_549) (va_Nw.use rfl (hE.1.2.2.1 (.castable "java/lang/IndexOutOfBoundsException" "java/lang/IndexOutOfBoundsException") (by decide +kernel))) (hpc := 12) rfl ?_
  intro q9
  refine jj_astore C0 (lv' := [(4, .ref q9), (0, .ref (ha 0)), (1, .int (iI z)), (2, .int (iI v)), (3, .ref o)]) (by decide) rfl dL_value_12 ?_
  refine jj_iconst C0 dL_value_14 ?_
  exact jj_iret C0 hr () (trivial) (rfl) (rfl) (by decide) (by decide) dL_value_15
set_option maxHeartbeats 4000000 in
set_option maxRecDepth 100000 in
theorem cr_L_mark (hl : l.stackTraces = false) {z : Int} (hbad : ¬ (0 ≤ z ∧ z < (n : Int))) (hrz : iR z) (hn : n ≤ 12) (hED0 : 0 < n → f_ED cA n ed cO EE) : jj_Mi (EVL es mi sa) (dC, dI) vwCl [(cI, .int), (cJ, .long), (cZ, .boolean), (cO, .object "java/lang/Object")] l yL_mark (Cond.codeWith yL_mark cL_mark 4 (some .int) [(0, 9, 12, 33)] :: lw_U) ({ frames := 8, cells := 1, slots := 6, locals := 142 } : Room) [.ref (ha 0), .int (iI z), .ref o] (wH ha cA hA nA ed cI cJ cZ td pr up dn dv rw sd mc n mo sh co Ca Cz K St Ex Am Bi As BL AL He Co ++ ((o, .inl (cJ, 1, .inr (.inl (lA F)))) :: EE)) (S := Unit) (fun _ => 1) (fun _ => True) (fun _ => wH ha cA hA nA ed cI cJ cZ td pr up dn dv rw sd mc n mo sh co Ca Cz K St Ex Am Bi As BL AL He Co ++ ((o, .inl (cJ, 1, .inr (.inl (lA F)))) :: EE)) := by
  refine jj_startW (hh := [(0, 9, 12, 33)]) (cc := cL_mark) (nL := 4) (ret := (some .int)) (lv := [(0, .ref (ha 0)), (1, .int (iI z)), (2, .ref o)]) (fun A => jj_Qi _ _ _ _ _ _ A) (hEVL es mi sa) (by decide) rfl (Nat.le_of_ble_eq_true rfl) rfl ?_
  intro p9 e9 s9 m9 a9 b9 me9 c9 A9 C1 hr hT
  have C0 : jj_C p9 s9 m9 a9 me9 c9 (dC, dI) vwCl A9 4 cL_mark "StrikehallLaw" lw_U _ (EVL es mi sa) := jj_toU C1
  have hw := C0.2.2.2.2.1
  have hE := C0.2.2.2.2.2.2.2.1
  have hED : 0 < n → f_ED cA n ed cO ((o, .inl (cJ, 1, .inr (.inl (lA F)))) :: EE) := fun h => f_ED_cons (hED0 h)
  refine jj_aload_n C0 2 rfl dL_mark_0 ?_
  refine jj_iconst C0 dL_mark_1 ?_
  refine jj_aload_n C0 0 rfl dL_mark_2 ?_
  refine jj_iload_n C0 1 rfl dL_mark_3 ?_
  refine jj_tryV C0 hT (jj_weakX (fun A U H h => h.1) (cx_X3_mark hl (by first | exact hbad | omega) (by first | exact hrz | omega) (by first | exact hn | omega))) (cwV 1 hw (lw_gV hU_726 hU_727 hU_728 hU_60 hU_729) rfl rfl rfl (by decide +kernel) ⟨Nat.le_of_ble_eq_true rfl, Nat.le_of_ble_eq_true rfl⟩) (ci := 4) (q0 := 0) rfl (rfl) rfl rfl (Nat.le_of_ble_eq_true rfl) ⟨by decide, by decide⟩ rfl rfl dL_mark_4 [] ⟨0, 9, 12, 33⟩ [] rfl (fun z hz => absurd hz List.not_mem_nil) (by decide) (by decide) (hw _ hU_549) (va_Nw.use rfl (hE.1.2.2.1 (.castable "java/lang/IndexOutOfBoundsException" "java/lang/IndexOutOfBoundsException") (by decide +kernel))) (hpc := 12) rfl ?_
  intro q9
  refine jj_astore_n C0 (i := 3) rfl (lv' := [(3, .ref q9), (0, .ref (ha 0)), (1, .int (iI z)), (2, .ref o)]) (by decide) rfl dL_mark_12 ?_
  refine jj_iconst C0 dL_mark_13 ?_
  exact jj_iret C0 hr () (trivial) (rfl) (rfl) (by decide) (by decide) dL_mark_14
set_option maxHeartbeats 4000000 in
set_option maxRecDepth 100000 in
theorem cr_L_markByWays (hl : l.stackTraces = false) {z : Int} (hbad : ¬ (0 ≤ z ∧ z < (n : Int))) (hrz : iR z) (hn : n ≤ 12) (hED0 : 0 < n → f_ED cA n ed cO EE) : jj_Mi (EVL es mi sa) (dC, dI) vwCl [(cI, .int), (cJ, .long), (cZ, .boolean), (cO, .object "java/lang/Object")] l yL_markByWays (Cond.codeWith yL_markByWays cL_markByWays 4 (some .int) [(0, 9, 12, 33)] :: lw_U) ({ frames := 8, cells := 1, slots := 6, locals := 145 } : Room) [.ref (ha 0), .int (iI z), .ref o] (wH ha cA hA nA ed cI cJ cZ td pr up dn dv rw sd mc n mo sh co Ca Cz K St Ex Am Bi As BL AL He Co ++ ((o, .inl (cJ, 1, .inr (.inl (lA F)))) :: EE)) (S := Unit) (fun _ => 1) (fun _ => True) (fun _ => wH ha cA hA nA ed cI cJ cZ td pr up dn dv rw sd mc n mo sh co Ca Cz K St Ex Am Bi As BL AL He Co ++ ((o, .inl (cJ, 1, .inr (.inl (lA F)))) :: EE)) := by
  refine jj_startW (hh := [(0, 9, 12, 33)]) (cc := cL_markByWays) (nL := 4) (ret := (some .int)) (lv := [(0, .ref (ha 0)), (1, .int (iI z)), (2, .ref o)]) (fun A => jj_Qi _ _ _ _ _ _ A) (hEVL es mi sa) (by decide) rfl (Nat.le_of_ble_eq_true rfl) rfl ?_
  intro p9 e9 s9 m9 a9 b9 me9 c9 A9 C1 hr hT
  have C0 : jj_C p9 s9 m9 a9 me9 c9 (dC, dI) vwCl A9 4 cL_markByWays "StrikehallLaw" lw_U _ (EVL es mi sa) := jj_toU C1
  have hw := C0.2.2.2.2.1
  have hE := C0.2.2.2.2.2.2.2.1
  have hED : 0 < n → f_ED cA n ed cO ((o, .inl (cJ, 1, .inr (.inl (lA F)))) :: EE) := fun h => f_ED_cons (hED0 h)
  refine jj_aload_n C0 2 rfl dL_markByWays_0 ?_
  refine jj_iconst C0 dL_markByWays_1 ?_
  refine jj_aload_n C0 0 rfl dL_markByWays_2 ?_
  refine jj_iload_n C0 1 rfl dL_markByWays_3 ?_
  refine jj_tryV C0 hT (jj_weakX (fun A U H h => h.1) (cx_X3_markByWays hl (by first | exact hbad | omega) (by first | exact hrz | omega) (by first | exact hn | omega))) (cwV 1 hw (lw_gV hU_733 hU_734 hU_735 hU_60 hU_736) rfl rfl rfl (by decide +kernel) ⟨Nat.le_of_ble_eq_true rfl, Nat.le_of_ble_eq_true rfl⟩) (ci := 4) (q0 := 0) rfl (rfl) rfl rfl (Nat.le_of_ble_eq_true rfl) ⟨by decide, by decide⟩ rfl rfl dL_markByWays_4 [] ⟨0, 9, 12, 33⟩ [] rfl (fun z hz => absurd hz List.not_mem_nil) (by decide) (by decide) (hw _ hU_549) (va_Nw.use rfl (hE.1.2.2.1 (.castable "java/lang/IndexOutOfBoundsException" "java/lang/IndexOutOfBoundsException") (by decide +kernel))) (hpc := 12) rfl ?_
  intro q9
  refine jj_astore_n C0 (i := 3) rfl (lv' := [(3, .ref q9), (0, .ref (ha 0)), (1, .int (iI z)), (2, .ref o)]) (by decide) rfl dL_markByWays_12 ?_
  refine jj_iconst C0 dL_markByWays_13 ?_
  exact jj_iret C0 hr () (trivial) (rfl) (rfl) (by decide) (by decide) dL_markByWays_14
set_option maxHeartbeats 4000000 in
set_option maxRecDepth 100000 in
theorem cr_L_quoted (hl : l.stackTraces = false) {z v : Int} (hbad : ¬ (0 ≤ z ∧ z < (n : Int))) (hrz : iR z) (hn : n ≤ 12) (hED0 : 0 < n → f_ED cA n ed cO EE) : jj_Mi (EVL es mi sa) (dC, dI) vwCl [(cI, .int), (cJ, .long), (cZ, .boolean), (cO, .object "java/lang/Object")] l yL_quoted (Cond.codeWith yL_quoted cL_quoted 5 (some .int) [(0, 10, 13, 33), (0, 10, 17, 13)] :: lw_U) ({ frames := 8, cells := 1, slots := 6, locals := 144 } : Room) [.ref (ha 0), .int (iI z), .int (iI v), .ref o] (wH ha cA hA nA ed cI cJ cZ td pr up dn dv rw sd mc n mo sh co Ca Cz K St Ex Am Bi As BL AL He Co ++ ((o, .inl (cJ, 1, .inr (.inl (lA F)))) :: EE)) (S := Unit) (fun _ => 1) (fun _ => True) (fun _ => wH ha cA hA nA ed cI cJ cZ td pr up dn dv rw sd mc n mo sh co Ca Cz K St Ex Am Bi As BL AL He Co ++ ((o, .inl (cJ, 1, .inr (.inl (lA F)))) :: EE)) := by
  refine jj_startW (hh := [(0, 10, 13, 33), (0, 10, 17, 13)]) (cc := cL_quoted) (nL := 5) (ret := (some .int)) (lv := [(0, .ref (ha 0)), (1, .int (iI z)), (2, .int (iI v)), (3, .ref o)]) (fun A => jj_Qi _ _ _ _ _ _ A) (hEVL es mi sa) (by decide) rfl (Nat.le_of_ble_eq_true rfl) rfl ?_
  intro p9 e9 s9 m9 a9 b9 me9 c9 A9 C1 hr hT
  have C0 : jj_C p9 s9 m9 a9 me9 c9 (dC, dI) vwCl A9 5 cL_quoted "StrikehallLaw" lw_U _ (EVL es mi sa) := jj_toU C1
  have hw := C0.2.2.2.2.1
  have hE := C0.2.2.2.2.2.2.2.1
  have hED : 0 < n → f_ED cA n ed cO ((o, .inl (cJ, 1, .inr (.inl (lA F)))) :: EE) := fun h => f_ED_cons (hED0 h)
  refine jj_aload_n C0 3 rfl dL_quoted_0 ?_
  refine jj_iconst C0 dL_quoted_1 ?_
  refine jj_aload_n C0 0 rfl dL_quoted_2 ?_
  refine jj_iload_n C0 1 rfl dL_quoted_3 ?_
  refine jj_iload_n C0 2 rfl dL_quoted_4 ?_
  refine jj_tryV C0 hT (jj_weakX (fun A U H h => h.1) (cx_X3_quoted hl (by first | exact hbad | omega) (by first | exact hrz | omega) (by first | exact hn | omega))) (cwV 2 hw (lw_gV hU_746 hU_747 hU_748 hU_60 hU_749) rfl rfl rfl (by decide +kernel) ⟨Nat.le_of_ble_eq_true rfl, Nat.le_of_ble_eq_true rfl⟩) (ci := 4) (q0 := 0) rfl (rfl) rfl rfl (Nat.le_of_ble_eq_true rfl) ⟨by decide, by decide⟩ rfl rfl dL_quoted_5 [] ⟨0, 10, 13, 33⟩ [⟨0, 10, 17, 13⟩] rfl (fun z hz => absurd hz List.not_mem_nil) (by decide) (by decide) (hw _ hU_549) (va_Nw.use rfl (hE.1.2.2.1 (.castable "java/lang/IndexOutOfBoundsException" "java/lang/IndexOutOfBoundsException") (by decide +kernel))) (hpc := 13) rfl ?_
  intro q9
  refine jj_astore C0 (lv' := [(4, .ref q9), (0, .ref (ha 0)), (1, .int (iI z)), (2, .int (iI v)), (3, .ref o)]) (by decide) rfl dL_quoted_13 ?_
  refine jj_iconst C0 dL_quoted_15 ?_
  exact jj_iret C0 hr () (trivial) (rfl) (rfl) (by decide) (by decide) dL_quoted_16
set_option maxHeartbeats 4000000 in
set_option maxRecDepth 100000 in
theorem cr_L_quoted_A (hl : l.stackTraces = false) {c : Nat} {x : Int} (hbad : ¬ (0 ≤ x ∧ x ≤ 3)) (hrx : iR x) (hcn : c < n) (hn : n ≤ 12) (hED0 : 0 < n → f_ED cA n ed cO EE) : jj_Mi (EVL es mi sa) (dC, dI) vwCl [(cI, .int), (cJ, .long), (cZ, .boolean), (cO, .object "java/lang/Object")] l yL_quoted (Cond.codeWith yL_quoted cL_quoted 5 (some .int) [(0, 10, 13, 33), (0, 10, 17, 13)] :: lw_U) ({ frames := 7, cells := 1, slots := 6, locals := 123 } : Room) [.ref (ha 0), .int (iI (c : Int)), .int (iI x), .ref o] (wH ha cA hA nA ed cI cJ cZ td pr up dn dv rw sd mc n mo sh co Ca Cz K St Ex Am Bi As BL AL He Co ++ ((o, .inl (cJ, 1, .inr (.inl (lA F)))) :: EE)) (S := Unit) (fun _ => 2) (fun _ => True) (fun _ => wH ha cA hA nA ed cI cJ cZ td pr up dn dv rw sd mc n mo sh co Ca Cz K St Ex Am Bi As BL AL He Co ++ ((o, .inl (cJ, 1, .inr (.inl (lA F)))) :: EE)) := by
  refine jj_startW (hh := [(0, 10, 13, 33), (0, 10, 17, 13)]) (cc := cL_quoted) (nL := 5) (ret := (some .int)) (lv := [(0, .ref (ha 0)), (1, .int (iI (c : Int))), (2, .int (iI x)), (3, .ref o)]) (fun A => jj_Qi _ _ _ _ _ _ A) (hEVL es mi sa) (by decide) rfl (Nat.le_of_ble_eq_true rfl) rfl ?_
  intro p9 e9 s9 m9 a9 b9 me9 c9 A9 C1 hr hT
  have C0 : jj_C p9 s9 m9 a9 me9 c9 (dC, dI) vwCl A9 5 cL_quoted "StrikehallLaw" lw_U _ (EVL es mi sa) := jj_toU C1
  have hw := C0.2.2.2.2.1
  have hE := C0.2.2.2.2.2.2.2.1
  have hED : 0 < n → f_ED cA n ed cO ((o, .inl (cJ, 1, .inr (.inl (lA F)))) :: EE) := fun h => f_ED_cons (hED0 h)
  refine jj_aload_n C0 3 rfl dL_quoted_0 ?_
  refine jj_iconst C0 dL_quoted_1 ?_
  refine jj_aload_n C0 0 rfl dL_quoted_2 ?_
  refine jj_iload_n C0 1 rfl dL_quoted_3 ?_
  refine jj_iload_n C0 2 rfl dL_quoted_4 ?_
  refine jj_tryV C0 hT (jj_weakX (fun A U H h => h.1) (cx_X3_quoted_A hl (by first | exact hbad | omega) (by first | exact hrx | omega) (by first | exact hcn | omega) (by first | exact hn | omega) (by first | exact hED | omega))) (cwV 2 hw (lw_gV hU_746 hU_747 hU_748 hU_60 hU_749) rfl rfl rfl (by decide +kernel) ⟨Nat.le_of_ble_eq_true rfl, Nat.le_of_ble_eq_true rfl⟩) (ci := 4) (q0 := 0) rfl (rfl) rfl rfl (Nat.le_of_ble_eq_true rfl) ⟨by decide, by decide⟩ rfl rfl dL_quoted_5 [⟨0, 10, 13, 33⟩] ⟨0, 10, 17, 13⟩ [] rfl (List.forall_mem_cons.mpr ⟨Or.inr ⟨by decide, _, hw _ hU_549, hE.2.2.1⟩, fun z hz => absurd hz List.not_mem_nil⟩) (by decide) (by decide) (hw _ hU_324) (va_Nw.use rfl (hE.1.2.2.1 (.castable "java/lang/IllegalArgumentException" "java/lang/IllegalArgumentException") (by decide +kernel))) (hpc := 17) rfl ?_
  intro q9
  refine jj_astore C0 (lv' := [(4, .ref q9), (0, .ref (ha 0)), (1, .int (iI (c : Int))), (2, .int (iI x)), (3, .ref o)]) (by decide) rfl dL_quoted_17 ?_
  refine jj_iconst C0 dL_quoted_19 ?_
  exact jj_iret C0 hr () (trivial) (rfl) (rfl) (by decide) (by decide) dL_quoted_20
set_option maxHeartbeats 4000000 in
set_option maxRecDepth 100000 in
theorem cr_L_lots_1 (hl : l.stackTraces = false) {w z : Int} (hbad : ¬ (-1 ≤ w ∧ w ≤ 5)) (hrw : iR w) (hED0 : 0 < n → f_ED cA n ed cO EE) : jj_Mi (EVL es mi sa) (dC, dI) vwCl [(cI, .int), (cJ, .long), (cZ, .boolean), (cO, .object "java/lang/Object")] l yL_lots (Cond.codeWith yL_lots cL_lots 5 (some .int) [(0, 10, 13, 33)] :: lw_U) ({ frames := 9, cells := 1, slots := 6, locals := 163 } : Room) [.ref (ha 0), .int (iI w), .int (iI z), .ref o] (wH ha cA hA nA ed cI cJ cZ td pr up dn dv rw sd mc n mo sh co Ca Cz K St Ex Am Bi As BL AL He Co ++ ((o, .inl (cJ, 1, .inr (.inl (lA F)))) :: EE)) (S := Unit) (fun _ => 1) (fun _ => True) (fun _ => wH ha cA hA nA ed cI cJ cZ td pr up dn dv rw sd mc n mo sh co Ca Cz K St Ex Am Bi As BL AL He Co ++ ((o, .inl (cJ, 1, .inr (.inl (lA F)))) :: EE)) := by
  refine jj_startW (hh := [(0, 10, 13, 33)]) (cc := cL_lots) (nL := 5) (ret := (some .int)) (lv := [(0, .ref (ha 0)), (1, .int (iI w)), (2, .int (iI z)), (3, .ref o)]) (fun A => jj_Qi _ _ _ _ _ _ A) (hEVL es mi sa) (by decide) rfl (Nat.le_of_ble_eq_true rfl) rfl ?_
  intro p9 e9 s9 m9 a9 b9 me9 c9 A9 C1 hr hT
  have C0 : jj_C p9 s9 m9 a9 me9 c9 (dC, dI) vwCl A9 5 cL_lots "StrikehallLaw" lw_U _ (EVL es mi sa) := jj_toU C1
  have hw := C0.2.2.2.2.1
  have hE := C0.2.2.2.2.2.2.2.1
  have hED : 0 < n → f_ED cA n ed cO ((o, .inl (cJ, 1, .inr (.inl (lA F)))) :: EE) := fun h => f_ED_cons (hED0 h)
  refine jj_aload_n C0 3 rfl dL_lots_0 ?_
  refine jj_iconst C0 dL_lots_1 ?_
  refine jj_aload_n C0 0 rfl dL_lots_2 ?_
  refine jj_iload_n C0 1 rfl dL_lots_3 ?_
  refine jj_iload_n C0 2 rfl dL_lots_4 ?_
  refine jj_tryV C0 hT (jj_weakX (fun A U H h => h.1) (cx_X3_lots_1 hl (by first | exact hbad | omega) (by first | exact hrw | omega))) (cwV 2 hw (lw_gV hU_754 hU_755 hU_756 hU_60 hU_757) rfl rfl rfl (by decide +kernel) ⟨Nat.le_of_ble_eq_true rfl, Nat.le_of_ble_eq_true rfl⟩) (ci := 4) (q0 := 0) rfl (rfl) rfl rfl (Nat.le_of_ble_eq_true rfl) ⟨by decide, by decide⟩ rfl rfl dL_lots_5 [] ⟨0, 10, 13, 33⟩ [] rfl (fun z hz => absurd hz List.not_mem_nil) (by decide) (by decide) (hw _ hU_549) (va_Nw.use rfl (hE.1.2.2.1 (.castable "java/lang/IndexOutOfBoundsException" "java/lang/IndexOutOfBoundsException") (by decide +kernel))) (hpc := 13) rfl ?_
  intro q9
  refine jj_astore C0 (lv' := [(4, .ref q9), (0, .ref (ha 0)), (1, .int (iI w)), (2, .int (iI z)), (3, .ref o)]) (by decide) rfl dL_lots_13 ?_
  refine jj_iconst C0 dL_lots_15 ?_
  exact jj_iret C0 hr () (trivial) (rfl) (rfl) (by decide) (by decide) dL_lots_16
set_option maxHeartbeats 4000000 in
set_option maxRecDepth 100000 in
theorem cr_L_lots_2 (hl : l.stackTraces = false) {k : Nat} {w z : Int} (hbad : ¬ (0 ≤ z ∧ z < (n : Int))) (hzk : (w = -1 ∧ k = 6) ∨ (w = (k : Int) ∧ k ≤ 5)) (hrz : iR z) (hn : n ≤ 12) (hED0 : 0 < n → f_ED cA n ed cO EE) : jj_Mi (EVL es mi sa) (dC, dI) vwCl [(cI, .int), (cJ, .long), (cZ, .boolean), (cO, .object "java/lang/Object")] l yL_lots (Cond.codeWith yL_lots cL_lots 5 (some .int) [(0, 10, 13, 33)] :: lw_U) ({ frames := 8, cells := 1, slots := 6, locals := 144 } : Room) [.ref (ha 0), .int (iI w), .int (iI z), .ref o] (wH ha cA hA nA ed cI cJ cZ td pr up dn dv rw sd mc n mo sh co Ca Cz K St Ex Am Bi As BL AL He Co ++ ((o, .inl (cJ, 1, .inr (.inl (lA F)))) :: EE)) (S := Unit) (fun _ => 1) (fun _ => True) (fun _ => wH ha cA hA nA ed cI cJ cZ td pr up dn dv rw sd mc n mo sh co Ca Cz K St Ex Am Bi As BL AL He Co ++ ((o, .inl (cJ, 1, .inr (.inl (lA F)))) :: EE)) := by
  refine jj_startW (hh := [(0, 10, 13, 33)]) (cc := cL_lots) (nL := 5) (ret := (some .int)) (lv := [(0, .ref (ha 0)), (1, .int (iI w)), (2, .int (iI z)), (3, .ref o)]) (fun A => jj_Qi _ _ _ _ _ _ A) (hEVL es mi sa) (by decide) rfl (Nat.le_of_ble_eq_true rfl) rfl ?_
  intro p9 e9 s9 m9 a9 b9 me9 c9 A9 C1 hr hT
  have C0 : jj_C p9 s9 m9 a9 me9 c9 (dC, dI) vwCl A9 5 cL_lots "StrikehallLaw" lw_U _ (EVL es mi sa) := jj_toU C1
  have hw := C0.2.2.2.2.1
  have hE := C0.2.2.2.2.2.2.2.1
  have hED : 0 < n → f_ED cA n ed cO ((o, .inl (cJ, 1, .inr (.inl (lA F)))) :: EE) := fun h => f_ED_cons (hED0 h)
  refine jj_aload_n C0 3 rfl dL_lots_0 ?_
  refine jj_iconst C0 dL_lots_1 ?_
  refine jj_aload_n C0 0 rfl dL_lots_2 ?_
  refine jj_iload_n C0 1 rfl dL_lots_3 ?_
  refine jj_iload_n C0 2 rfl dL_lots_4 ?_
  refine jj_tryV C0 hT (jj_weakX (fun A U H h => h.1) (cx_X3_lots_2 hl (by first | exact hbad | omega) (by first | exact hzk | omega) (by first | exact hrz | omega) (by first | exact hn | omega))) (cwV 2 hw (lw_gV hU_754 hU_755 hU_756 hU_60 hU_757) rfl rfl rfl (by decide +kernel) ⟨Nat.le_of_ble_eq_true rfl, Nat.le_of_ble_eq_true rfl⟩) (ci := 4) (q0 := 0) rfl (rfl) rfl rfl (Nat.le_of_ble_eq_true rfl) ⟨by decide, by decide⟩ rfl rfl dL_lots_5 [] ⟨0, 10, 13, 33⟩ [] rfl (fun z hz => absurd hz List.not_mem_nil) (by decide) (by decide) (hw _ hU_549) (va_Nw.use rfl (hE.1.2.2.1 (.castable "java/lang/IndexOutOfBoundsException" "java/lang/IndexOutOfBoundsException") (by decide +kernel))) (hpc := 13) rfl ?_
  intro q9
  refine jj_astore C0 (lv' := [(4, .ref q9), (0, .ref (ha 0)), (1, .int (iI w)), (2, .int (iI z)), (3, .ref o)]) (by decide) rfl dL_lots_13 ?_
  refine jj_iconst C0 dL_lots_15 ?_
  exact jj_iret C0 hr () (trivial) (rfl) (rfl) (by decide) (by decide) dL_lots_16
set_option maxHeartbeats 4000000 in
set_option maxRecDepth 100000 in
theorem cr_L_cash (hl : l.stackTraces = false) {w : Int} (hbad : ¬ (-1 ≤ w ∧ w ≤ 5)) (hrw : iR w) (hED0 : 0 < n → f_ED cA n ed cO EE) : jj_Mi (EVL es mi sa) (dC, dI) vwCl [(cI, .int), (cJ, .long), (cZ, .boolean), (cO, .object "java/lang/Object")] l yL_cash (Cond.codeWith yL_cash cL_cash 4 (some .int) [(0, 8, 11, 33)] :: lw_U) ({ frames := 9, cells := 1, slots := 6, locals := 161 } : Room) [.ref (ha 0), .int (iI w), .ref o] (wH ha cA hA nA ed cI cJ cZ td pr up dn dv rw sd mc n mo sh co Ca Cz K St Ex Am Bi As BL AL He Co ++ ((o, .inl (cJ, 1, .inr (.inl (lA F)))) :: EE)) (S := Unit) (fun _ => 1) (fun _ => True) (fun _ => wH ha cA hA nA ed cI cJ cZ td pr up dn dv rw sd mc n mo sh co Ca Cz K St Ex Am Bi As BL AL He Co ++ ((o, .inl (cJ, 1, .inr (.inl (lA F)))) :: EE)) := by
  refine jj_startW (hh := [(0, 8, 11, 33)]) (cc := cL_cash) (nL := 4) (ret := (some .int)) (lv := [(0, .ref (ha 0)), (1, .int (iI w)), (2, .ref o)]) (fun A => jj_Qi _ _ _ _ _ _ A) (hEVL es mi sa) (by decide) rfl (Nat.le_of_ble_eq_true rfl) rfl ?_
  intro p9 e9 s9 m9 a9 b9 me9 c9 A9 C1 hr hT
  have C0 : jj_C p9 s9 m9 a9 me9 c9 (dC, dI) vwCl A9 4 cL_cash "StrikehallLaw" lw_U _ (EVL es mi sa) := jj_toU C1
  have hw := C0.2.2.2.2.1
  have hE := C0.2.2.2.2.2.2.2.1
  have hED : 0 < n → f_ED cA n ed cO ((o, .inl (cJ, 1, .inr (.inl (lA F)))) :: EE) := fun h => f_ED_cons (hED0 h)
  refine jj_aload_n C0 2 rfl dL_cash_0 ?_
  refine jj_iconst C0 dL_cash_1 ?_
  refine jj_aload_n C0 0 rfl dL_cash_2 ?_
  refine jj_iload_n C0 1 rfl dL_cash_3 ?_
  refine jj_tryV C0 hT (jj_weakX (fun A U H h => h.1) (cx_X3_cash hl (by first | exact hbad | omega) (by first | exact hrw | omega))) (cwV 1 hw (lw_gV hU_761 hU_762 hU_763 hU_60 hU_764) rfl rfl rfl (by decide +kernel) ⟨Nat.le_of_ble_eq_true rfl, Nat.le_of_ble_eq_true rfl⟩) (ci := 4) (q0 := 0) rfl (rfl) rfl rfl (Nat.le_of_ble_eq_true rfl) ⟨by decide, by decide⟩ rfl rfl dL_cash_4 [] ⟨0, 8, 11, 33⟩ [] rfl (fun z hz => absurd hz List.not_mem_nil) (by decide) (by decide) (hw _ hU_549) (va_Nw.use rfl (hE.1.2.2.1 (.castable "java/lang/IndexOutOfBoundsException" "java/lang/IndexOutOfBoundsException") (by decide +kernel))) (hpc := 11) rfl ?_
  intro q9
  refine jj_astore_n C0 (i := 3) rfl (lv' := [(3, .ref q9), (0, .ref (ha 0)), (1, .int (iI w)), (2, .ref o)]) (by decide) rfl dL_cash_11 ?_
  refine jj_iconst C0 dL_cash_12 ?_
  exact jj_iret C0 hr () (trivial) (rfl) (rfl) (by decide) (by decide) dL_cash_13
set_option maxHeartbeats 4000000 in
set_option maxRecDepth 100000 in
theorem cr_L_cause (hl : l.stackTraces = false) {x : Int} (hbad : ¬ (0 ≤ x ∧ x ≤ 5)) (hrx : iR x) (hED0 : 0 < n → f_ED cA n ed cO EE) : jj_Mi (EVL es mi sa) (dC, dI) vwCl [(cI, .int), (cJ, .long), (cZ, .boolean), (cO, .object "java/lang/Object")] l yL_cause (Cond.codeWith yL_cause cL_cause 4 (some .int) [(0, 8, 11, 33)] :: lw_U) ({ frames := 7, cells := 1, slots := 6, locals := 121 } : Room) [.ref (ha 0), .int (iI x), .ref o] (wH ha cA hA nA ed cI cJ cZ td pr up dn dv rw sd mc n mo sh co Ca Cz K St Ex Am Bi As BL AL He Co ++ ((o, .inl (cJ, 1, .inr (.inl (lA F)))) :: EE)) (S := Unit) (fun _ => 1) (fun _ => True) (fun _ => wH ha cA hA nA ed cI cJ cZ td pr up dn dv rw sd mc n mo sh co Ca Cz K St Ex Am Bi As BL AL He Co ++ ((o, .inl (cJ, 1, .inr (.inl (lA F)))) :: EE)) := by
  refine jj_startW (hh := [(0, 8, 11, 33)]) (cc := cL_cause) (nL := 4) (ret := (some .int)) (lv := [(0, .ref (ha 0)), (1, .int (iI x)), (2, .ref o)]) (fun A => jj_Qi _ _ _ _ _ _ A) (hEVL es mi sa) (by decide) rfl (Nat.le_of_ble_eq_true rfl) rfl ?_
  intro p9 e9 s9 m9 a9 b9 me9 c9 A9 C1 hr hT
  have C0 : jj_C p9 s9 m9 a9 me9 c9 (dC, dI) vwCl A9 4 cL_cause "StrikehallLaw" lw_U _ (EVL es mi sa) := jj_toU C1
  have hw := C0.2.2.2.2.1
  have hE := C0.2.2.2.2.2.2.2.1
  have hED : 0 < n → f_ED cA n ed cO ((o, .inl (cJ, 1, .inr (.inl (lA F)))) :: EE) := fun h => f_ED_cons (hED0 h)
  refine jj_aload_n C0 2 rfl dL_cause_0 ?_
  refine jj_iconst C0 dL_cause_1 ?_
  refine jj_aload_n C0 0 rfl dL_cause_2 ?_
  refine jj_iload_n C0 1 rfl dL_cause_3 ?_
  refine jj_tryV C0 hT (jj_weakX (fun A U H h => h.1) (cx_X3_cause hl (by first | exact hbad | omega) (by first | exact hrx | omega))) (cwV 1 hw (lw_gV hU_768 hU_769 hU_770 hU_60 hU_771) rfl rfl rfl (by decide +kernel) ⟨Nat.le_of_ble_eq_true rfl, Nat.le_of_ble_eq_true rfl⟩) (ci := 4) (q0 := 0) rfl (rfl) rfl rfl (Nat.le_of_ble_eq_true rfl) ⟨by decide, by decide⟩ rfl rfl dL_cause_4 [] ⟨0, 8, 11, 33⟩ [] rfl (fun z hz => absurd hz List.not_mem_nil) (by decide) (by decide) (hw _ hU_549) (va_Nw.use rfl (hE.1.2.2.1 (.castable "java/lang/IndexOutOfBoundsException" "java/lang/IndexOutOfBoundsException") (by decide +kernel))) (hpc := 11) rfl ?_
  intro q9
  refine jj_astore_n C0 (i := 3) rfl (lv' := [(3, .ref q9), (0, .ref (ha 0)), (1, .int (iI x)), (2, .ref o)]) (by decide) rfl dL_cause_11 ?_
  refine jj_iconst C0 dL_cause_12 ?_
  exact jj_iret C0 hr () (trivial) (rfl) (rfl) (by decide) (by decide) dL_cause_13
set_option maxHeartbeats 4000000 in
set_option maxRecDepth 100000 in
theorem cr_L_worst (hl : l.stackTraces = false) {x : Int} (hbad : ¬ (0 ≤ x ∧ x ≤ 100)) (hrx : iR x) (hED0 : 0 < n → f_ED cA n ed cO EE) : jj_Mi (EVL es mi sa) (dC, dI) vwCl [(cI, .int), (cJ, .long), (cZ, .boolean), (cO, .object "java/lang/Object")] l yL_worst (Cond.codeWith yL_worst cL_worst 4 (some .int) [(0, 8, 11, 13)] :: lw_U) ({ frames := 8, cells := 1, slots := 6, locals := 148 } : Room) [.ref (ha 0), .int (iI x), .ref o] (wH ha cA hA nA ed cI cJ cZ td pr up dn dv rw sd mc n mo sh co Ca Cz K St Ex Am Bi As BL AL He Co ++ ((o, .inl (cJ, 1, .inr (.inl (lA F)))) :: EE)) (S := Unit) (fun _ => 1) (fun _ => True) (fun _ => wH ha cA hA nA ed cI cJ cZ td pr up dn dv rw sd mc n mo sh co Ca Cz K St Ex Am Bi As BL AL He Co ++ ((o, .inl (cJ, 1, .inr (.inl (lA F)))) :: EE)) := by
  refine jj_startW (hh := [(0, 8, 11, 13)]) (cc := cL_worst) (nL := 4) (ret := (some .int)) (lv := [(0, .ref (ha 0)), (1, .int (iI x)), (2, .ref o)]) (fun A => jj_Qi _ _ _ _ _ _ A) (hEVL es mi sa) (by decide) rfl (Nat.le_of_ble_eq_true rfl) rfl ?_
  intro p9 e9 s9 m9 a9 b9 me9 c9 A9 C1 hr hT
  have C0 : jj_C p9 s9 m9 a9 me9 c9 (dC, dI) vwCl A9 4 cL_worst "StrikehallLaw" lw_U _ (EVL es mi sa) := jj_toU C1
  have hw := C0.2.2.2.2.1
  have hE := C0.2.2.2.2.2.2.2.1
  have hED : 0 < n → f_ED cA n ed cO ((o, .inl (cJ, 1, .inr (.inl (lA F)))) :: EE) := fun h => f_ED_cons (hED0 h)
  refine jj_aload_n C0 2 rfl dL_worst_0 ?_
  refine jj_iconst C0 dL_worst_1 ?_
  refine jj_aload_n C0 0 rfl dL_worst_2 ?_
  refine jj_iload_n C0 1 rfl dL_worst_3 ?_
  refine jj_tryV C0 hT (jj_weakX (fun A U H h => h.1) (cx_X3_worst hl (by first | exact hbad | omega) (by first | exact hrx | omega))) (cwV 1 hw (lw_gV hU_776 hU_777 hU_778 hU_60 hU_779) rfl rfl rfl (by decide +kernel) ⟨Nat.le_of_ble_eq_true rfl, Nat.le_of_ble_eq_true rfl⟩) (ci := 4) (q0 := 0) rfl (rfl) rfl rfl (Nat.le_of_ble_eq_true rfl) ⟨by decide, by decide⟩ rfl rfl dL_worst_4 [] ⟨0, 8, 11, 13⟩ [] rfl (fun z hz => absurd hz List.not_mem_nil) (by decide) (by decide) (hw _ hU_324) (va_Nw.use rfl (hE.1.2.2.1 (.castable "java/lang/IllegalArgumentException" "java/lang/IllegalArgumentException") (by decide +kernel))) (hpc := 11) rfl ?_
  intro q9
  refine jj_astore_n C0 (i := 3) rfl (lv' := [(3, .ref q9), (0, .ref (ha 0)), (1, .int (iI x)), (2, .ref o)]) (by decide) rfl dL_worst_11 ?_
  refine jj_iconst C0 dL_worst_12 ?_
  exact jj_iret C0 hr () (trivial) (rfl) (rfl) (by decide) (by decide) dL_worst_13
set_option maxHeartbeats 4000000 in
set_option maxRecDepth 100000 in
theorem cw_L_steps (hl : l.stackTraces = false) {x y : Int} (hx : 1 ≤ x ∧ x ≤ 10) (hy : 1 ≤ y ∧ y ≤ 10) (hpr : 0 ≤ pr ∧ pr ≤ 20000) (hexs : ∀ c, c < n → Ex c ≤ (td : Int) + 10) (hn : n ≤ 12) (htd : td ≤ 200) (hup : 1 ≤ up ∧ up ≤ 10) (hdn : 1 ≤ dn ∧ dn ≤ 10) (hdv : ∀ j, 0 ≤ dv j ∧ dv j ≤ 1000) (hK : ∀ j, 0 ≤ K j ∧ K j ≤ 1) (hSt : ∀ j, 0 ≤ St j ∧ St j ≤ 20000) (hEx : ∀ j, 0 ≤ Ex j ∧ Ex j ≤ 200) (hAm : ∀ j, 0 ≤ Am j ∧ Am j ≤ 1) (hHe : ∀ j, -1000000 ≤ He j ∧ He j ≤ 1000000) (hsh : -100000 ≤ sh ∧ sh ≤ 100000) (hED0 : 0 < n → f_ED cA n ed cO EE) : jj_Mi (EVL es mi sa) (dC, dI) vwCl [(cI, .int), (cJ, .long), (cZ, .boolean), (cO, .object "java/lang/Object")] l yL_steps (Cond.codeWith yL_steps cL_steps 4 (some .int) [(0, 6, 9, 13)] :: lw_U) ({ frames := 7, cells := 0, slots := 0, locals := 166 } : Room) [.ref (ha 0), .int (iI x), .int (iI y)] (wH ha cA hA nA ed cI cJ cZ td pr up dn dv rw sd mc n mo sh co Ca Cz K St Ex Am Bi As BL AL He Co ++ ((o, .inl (cJ, 1, .inr (.inl (lA F)))) :: EE)) (S := (Nat → Int)) (fun r8 => 0) (fun r8 => True) (fun r8 => wH ha cA hA nA ed cI cJ cZ td pr x y dv r8 sd mc n mo sh co Ca (va_up Cz 5 ((Cz 5) + ((f_W x y dv td n K St Ex Am He Ca sh pr) - (f_W up dn dv td n K St Ex Am He Ca sh pr)))) K St Ex Am Bi As BL AL He Co ++ ((o, .inl (cJ, 1, .inr (.inl (lA F)))) :: EE)) := by
  refine jj_startW (hh := [(0, 6, 9, 13)]) (cc := cL_steps) (nL := 4) (ret := (some .int)) (lv := [(0, .ref (ha 0)), (1, .int (iI x)), (2, .int (iI y))]) (fun A => jj_Qi _ _ _ _ _ _ A) (hEVL es mi sa) (by decide) rfl (Nat.le_of_ble_eq_true rfl) rfl ?_
  intro p9 e9 s9 m9 a9 b9 me9 c9 A9 C1 hr hT
  have C0 : jj_C p9 s9 m9 a9 me9 c9 (dC, dI) vwCl A9 4 cL_steps "StrikehallLaw" lw_U _ (EVL es mi sa) := jj_toU C1
  have hw := C0.2.2.2.2.1
  have hE := C0.2.2.2.2.2.2.2.1
  have hED : 0 < n → f_ED cA n ed cO ((o, .inl (cJ, 1, .inr (.inl (lA F)))) :: EE) := fun h => f_ED_cons (hED0 h)
  refine jj_aload_n C0 0 rfl dL_steps_0 ?_
  refine jj_iload_n C0 1 rfl dL_steps_1 ?_
  refine jj_iload_n C0 2 rfl dL_steps_2 ?_
  refine jj_callVv C0 (jj_weakv (fun A U H h => h.1.1) (cc_X3_steps  (x := x) (y := y) (by first | exact hx | omega) (by first | exact hy | omega) (by first | exact hpr | omega) (by first | exact hexs | omega) (by first | exact hn | omega) (by first | exact htd | omega) (by first | exact hup | omega) (by first | exact hdn | omega) (by first | exact hdv | omega) (by first | exact hK | omega) (by first | exact hSt | omega) (by first | exact hEx | omega) (by first | exact hAm | omega) (by first | exact hHe | omega) (by first | exact hsh | omega) hED)) (cwV 2 hw (lw_gV hU_325 hU_326 hU_327 hU_60 hU_328) rfl rfl rfl (by decide +kernel) ⟨Nat.le_of_ble_eq_true rfl, Nat.le_of_ble_eq_true rfl⟩) (ci := 4) (q0 := 0) rfl (rfl) rfl rfl (Nat.le_of_ble_eq_true rfl) ⟨by decide, by decide⟩ rfl rfl dL_steps_3 ?_
  intro r8_1 hu
  show jj_W _ _ _ _ _ _ _ _ _ _ _ _ _ _ _ _ _ 6 _ [] (wH ha cA hA nA ed cI cJ cZ td pr x y dv r8_1 sd mc n mo sh co Ca (va_up Cz 5 ((Cz 5) + ((f_W x y dv td n K St Ex Am He Ca sh pr) - (f_W up dn dv td n K St Ex Am He Ca sh pr)))) K St Ex Am Bi As BL AL He Co ++ ((o, .inl (cJ, 1, .inr (.inl (lA F)))) :: EE))
  refine jj_goto C0 (tgt := 12) dL_steps_6 (by decide) ?_
  refine jj_iconst C0 dL_steps_12 ?_
  exact jj_iret C0 hr r8_1 (trivial) (rfl) (rfl) (by decide) (by decide) dL_steps_13
set_option maxHeartbeats 4000000 in
set_option maxRecDepth 100000 in
theorem cw_L_move (hl : l.stackTraces = false) {x : Int} (hx : 0 ≤ x ∧ x ≤ 20000) (hpr : 0 ≤ pr ∧ pr ≤ 20000) (hexs : ∀ c, c < n → Ex c ≤ (td : Int) + 10) (hn : n ≤ 12) (htd : td ≤ 200) (hup : 1 ≤ up ∧ up ≤ 10) (hdn : 1 ≤ dn ∧ dn ≤ 10) (hdv : ∀ j, 0 ≤ dv j ∧ dv j ≤ 1000) (hK : ∀ j, 0 ≤ K j ∧ K j ≤ 1) (hSt : ∀ j, 0 ≤ St j ∧ St j ≤ 20000) (hEx : ∀ j, 0 ≤ Ex j ∧ Ex j ≤ 200) (hAm : ∀ j, 0 ≤ Am j ∧ Am j ≤ 1) (hHe : ∀ j, -1000000 ≤ He j ∧ He j ≤ 1000000) (hsh : -100000 ≤ sh ∧ sh ≤ 100000) (hED0 : 0 < n → f_ED cA n ed cO EE) : jj_Mi (EVL es mi sa) (dC, dI) vwCl [(cI, .int), (cJ, .long), (cZ, .boolean), (cO, .object "java/lang/Object")] l yL_move (Cond.codeWith yL_move cL_move 4 (some .int) [(0, 8, 11, 13)] :: lw_U) ({ frames := 7, cells := 0, slots := 0, locals := 167 } : Room) [.ref (ha 0), .int (iI x), .ref o] (wH ha cA hA nA ed cI cJ cZ td pr up dn dv rw sd mc n mo sh co Ca Cz K St Ex Am Bi As BL AL He Co ++ ((o, .inl (cJ, 1, .inr (.inl (lA F)))) :: EE)) (S := (Nat → Int)) (fun r8 => 0) (fun r8 => True) (fun r8 => wH ha cA hA nA ed cI cJ cZ td x up dn dv r8 sd mc n mo sh co Ca (va_up Cz 1 ((Cz 1) + ((f_W up dn dv td n K St Ex Am He Ca sh x) - (f_W up dn dv td n K St Ex Am He Ca sh pr)))) K St Ex Am Bi As BL AL He Co ++ ((o, .inl (cJ, 1, .inr (.inl (lA (va_up F 0 ((f_W up dn dv td n K St Ex Am He Ca sh x) - (f_W up dn dv td n K St Ex Am He Ca sh pr))))))) :: EE)) := by
  refine jj_startW (hh := [(0, 8, 11, 13)]) (cc := cL_move) (nL := 4) (ret := (some .int)) (lv := [(0, .ref (ha 0)), (1, .int (iI x)), (2, .ref o)]) (fun A => jj_Qi _ _ _ _ _ _ A) (hEVL es mi sa) (by decide) rfl (Nat.le_of_ble_eq_true rfl) rfl ?_
  intro p9 e9 s9 m9 a9 b9 me9 c9 A9 C1 hr hT
  have C0 : jj_C p9 s9 m9 a9 me9 c9 (dC, dI) vwCl A9 4 cL_move "StrikehallLaw" lw_U _ (EVL es mi sa) := jj_toU C1
  have hw := C0.2.2.2.2.1
  have hE := C0.2.2.2.2.2.2.2.1
  have hED : 0 < n → f_ED cA n ed cO ((o, .inl (cJ, 1, .inr (.inl (lA F)))) :: EE) := fun h => f_ED_cons (hED0 h)
  refine jj_aload_n C0 2 rfl dL_move_0 ?_
  refine jj_iconst C0 dL_move_1 ?_
  refine jj_aload_n C0 0 rfl dL_move_2 ?_
  refine jj_iload_n C0 1 rfl dL_move_3 ?_
  refine jj_callVl C0 (jj_weakl (fun A U H h => h.1.1) (cc_X3_move  (x := x) (by first | exact hx | omega) (by first | exact hpr | omega) (by first | exact hexs | omega) (by first | exact hn | omega) (by first | exact htd | omega) (by first | exact hup | omega) (by first | exact hdn | omega) (by first | exact hdv | omega) (by first | exact hK | omega) (by first | exact hSt | omega) (by first | exact hEx | omega) (by first | exact hAm | omega) (by first | exact hHe | omega) (by first | exact hsh | omega) hED)) (cwV 1 hw (lw_gV hU_407 hU_408 hU_409 hU_60 hU_410) rfl rfl rfl (by decide +kernel) ⟨Nat.le_of_ble_eq_true rfl, Nat.le_of_ble_eq_true rfl⟩) (ci := 4) (q0 := 0) rfl (rfl) rfl rfl (Nat.le_of_ble_eq_true rfl) ⟨by decide, by decide⟩ rfl rfl dL_move_4 ?_
  intro r8_1 hu
  show jj_W _ _ _ _ _ _ _ _ _ _ _ _ _ _ _ _ _ 7 _ [.long (lI ((f_W up dn dv td n K St Ex Am He Ca sh x) - (f_W up dn dv td n K St Ex Am He Ca sh pr))), .int (iI 0), .ref o] (wH ha cA hA nA ed cI cJ cZ td x up dn dv r8_1 sd mc n mo sh co Ca (va_up Cz 1 ((Cz 1) + ((f_W up dn dv td n K St Ex Am He Ca sh x) - (f_W up dn dv td n K St Ex Am He Ca sh pr)))) K St Ex Am Bi As BL AL He Co ++ ((o, .inl (cJ, 1, .inr (.inl (lA F)))) :: EE))
  refine jj_last C0 (q0 := (8 + (3 * n + 0))) (t0 := 1) (f := F) ((wH_ee rfl)) rfl (k := 0) (by omega) (by omega) (by decide) (ws' := wH ha cA hA nA ed cI cJ cZ td x up dn dv r8_1 sd mc n mo sh co Ca (va_up Cz 1 ((Cz 1) + ((f_W up dn dv td n K St Ex Am He Ca sh x) - (f_W up dn dv td n K St Ex Am He Ca sh pr)))) K St Ex Am Bi As BL AL He Co ++ ((o, .inl (cJ, 1, .inr (.inl (lA (va_up F 0 ((f_W up dn dv td n K St Ex Am He Ca sh x) - (f_W up dn dv td n K St Ex Am He Ca sh pr))))))) :: EE)) ((wH_es rfl)) dL_move_7 ?_
  refine jj_goto C0 (tgt := 14) dL_move_8 (by decide) ?_
  refine jj_iconst C0 dL_move_14 ?_
  exact jj_iret C0 hr r8_1 (trivial) (rfl) (rfl) (by decide) (by decide) dL_move_15
set_option maxHeartbeats 4000000 in
set_option maxRecDepth 100000 in
theorem cw_L_seed (hl : l.stackTraces = false) {x : Int} (hx : 0 ≤ x ∧ x ≤ 2147483647) (hED0 : 0 < n → f_ED cA n ed cO EE) : jj_Mi (EVL es mi sa) (dC, dI) vwCl [(cI, .int), (cJ, .long), (cZ, .boolean), (cO, .object "java/lang/Object")] l yL_seed (Cond.codeWith yL_seed cL_seed 3 (some .int) [(0, 5, 8, 13)] :: lw_U) ({ frames := 1, cells := 0, slots := 0, locals := 21 } : Room) [.ref (ha 0), .int (iI x)] (wH ha cA hA nA ed cI cJ cZ td pr up dn dv rw sd mc n mo sh co Ca Cz K St Ex Am Bi As BL AL He Co ++ ((o, .inl (cJ, 1, .inr (.inl (lA F)))) :: EE)) (S := Unit) (fun _ => 0) (fun _ => True) (fun _ => wH ha cA hA nA ed cI cJ cZ td pr up dn dv rw x mc n mo sh co Ca Cz K St Ex Am Bi As BL AL He Co ++ ((o, .inl (cJ, 1, .inr (.inl (lA F)))) :: EE)) := by
  refine jj_startW (hh := [(0, 5, 8, 13)]) (cc := cL_seed) (nL := 3) (ret := (some .int)) (lv := [(0, .ref (ha 0)), (1, .int (iI x))]) (fun A => jj_Qi _ _ _ _ _ _ A) (hEVL es mi sa) (by decide) rfl (Nat.le_of_ble_eq_true rfl) rfl ?_
  intro p9 e9 s9 m9 a9 b9 me9 c9 A9 C1 hr hT
  have C0 : jj_C p9 s9 m9 a9 me9 c9 (dC, dI) vwCl A9 3 cL_seed "StrikehallLaw" lw_U _ (EVL es mi sa) := jj_toU C1
  have hw := C0.2.2.2.2.1
  have hE := C0.2.2.2.2.2.2.2.1
  have hED : 0 < n → f_ED cA n ed cO ((o, .inl (cJ, 1, .inr (.inl (lA F)))) :: EE) := fun h => f_ED_cons (hED0 h)
  refine jj_aload_n C0 0 rfl dL_seed_0 ?_
  refine jj_iload_n C0 1 rfl dL_seed_1 ?_
  refine jj_callVv C0 (jj_weakv (fun A U H h => h.1.1) (cc_X3_seed  (x := x) (by first | exact hx | omega))) (cwV 1 hw (lw_gV hU_642 hU_643 hU_644 hU_60 hU_645) rfl rfl rfl (by decide +kernel) ⟨Nat.le_of_ble_eq_true rfl, Nat.le_of_ble_eq_true rfl⟩) (ci := 4) (q0 := 0) rfl (rfl) rfl rfl (Nat.le_of_ble_eq_true rfl) ⟨by decide, by decide⟩ rfl rfl dL_seed_2 ?_
  intro _ hu
  show jj_W _ _ _ _ _ _ _ _ _ _ _ _ _ _ _ _ _ 5 _ [] (wH ha cA hA nA ed cI cJ cZ td pr up dn dv rw x mc n mo sh co Ca Cz K St Ex Am Bi As BL AL He Co ++ ((o, .inl (cJ, 1, .inr (.inl (lA F)))) :: EE))
  refine jj_goto C0 (tgt := 11) dL_seed_5 (by decide) ?_
  refine jj_iconst C0 dL_seed_11 ?_
  exact jj_iret C0 hr () (trivial) (rfl) (rfl) (by decide) (by decide) dL_seed_12
set_option maxHeartbeats 4000000 in
set_option maxRecDepth 100000 in
theorem cw_L_value (hl : l.stackTraces = false) {c : Nat} {v : Int} (hv : v = 0 ∨ v = 1) (hcn : c < n) (hpr : 0 ≤ pr ∧ pr ≤ 20000) (hexs : ∀ c, c < n → Ex c ≤ (td : Int) + 10) (hn : n ≤ 12) (htd : td ≤ 200) (hup : 1 ≤ up ∧ up ≤ 10) (hdn : 1 ≤ dn ∧ dn ≤ 10) (hdv : ∀ j, 0 ≤ dv j ∧ dv j ≤ 1000) (hK : ∀ j, 0 ≤ K j ∧ K j ≤ 1) (hSt : ∀ j, 0 ≤ St j ∧ St j ≤ 20000) (hEx : ∀ j, 0 ≤ Ex j ∧ Ex j ≤ 200) (hAm : ∀ j, 0 ≤ Am j ∧ Am j ≤ 1) (hED0 : 0 < n → f_ED cA n ed cO EE) : jj_Mi (EVL es mi sa) (dC, dI) vwCl [(cI, .int), (cJ, .long), (cZ, .boolean), (cO, .object "java/lang/Object")] l yL_value (Cond.codeWith yL_value cL_value 5 (some .int) [(0, 9, 12, 33)] :: lw_U) ({ frames := 5, cells := 0, slots := 0, locals := 114 } : Room) [.ref (ha 0), .int (iI (c : Int)), .int (iI v), .ref o] (wH ha cA hA nA ed cI cJ cZ td pr up dn dv rw sd mc n mo sh co Ca Cz K St Ex Am Bi As BL AL He Co ++ ((o, .inl (cJ, 1, .inr (.inl (lA F)))) :: EE)) (S := (Nat → Int)) (fun r8 => 0) (fun r8 => True) (fun r8 => wH ha cA hA nA ed cI cJ cZ td pr up dn dv r8 sd mc n mo sh co Ca Cz K St Ex Am Bi As BL AL He Co ++ ((o, .inl (cJ, 1, .inr (.inl (lA (va_up F 0 (if v = 0 then (f_num up dn dv td (K c) (St c) (Ex c) (Am c) pr) / f_g (f_den up dn td (Ex c)) (f_num up dn dv td (K c) (St c) (Ex c) (Am c) pr) else (f_den up dn td (Ex c)) / f_g (f_den up dn td (Ex c)) (f_num up dn dv td (K c) (St c) (Ex c) (Am c) pr))))))) :: EE)) := by
  refine jj_startW (hh := [(0, 9, 12, 33)]) (cc := cL_value) (nL := 5) (ret := (some .int)) (lv := [(0, .ref (ha 0)), (1, .int (iI (c : Int))), (2, .int (iI v)), (3, .ref o)]) (fun A => jj_Qi _ _ _ _ _ _ A) (hEVL es mi sa) (by decide) rfl (Nat.le_of_ble_eq_true rfl) rfl ?_
  intro p9 e9 s9 m9 a9 b9 me9 c9 A9 C1 hr hT
  have C0 : jj_C p9 s9 m9 a9 me9 c9 (dC, dI) vwCl A9 5 cL_value "StrikehallLaw" lw_U _ (EVL es mi sa) := jj_toU C1
  have hw := C0.2.2.2.2.1
  have hE := C0.2.2.2.2.2.2.2.1
  have hED : 0 < n → f_ED cA n ed cO ((o, .inl (cJ, 1, .inr (.inl (lA F)))) :: EE) := fun h => f_ED_cons (hED0 h)
  refine jj_aload_n C0 3 rfl dL_value_0 ?_
  refine jj_iconst C0 dL_value_1 ?_
  refine jj_aload_n C0 0 rfl dL_value_2 ?_
  refine jj_iload_n C0 1 rfl dL_value_3 ?_
  refine jj_iload_n C0 2 rfl dL_value_4 ?_
  refine jj_callVl C0 (jj_weakl (fun A U H h => h.1.1) (cc_X3_value  (c := c) (v := v) (by first | exact hv | omega) (by first | exact hcn | omega) (by first | exact hpr | omega) (by first | exact hexs | omega) (by first | exact hn | omega) (by first | exact htd | omega) (by first | exact hup | omega) (by first | exact hdn | omega) (by first | exact hdv | omega) (by first | exact hK | omega) (by first | exact hSt | omega) (by first | exact hEx | omega) (by first | exact hAm | omega) hED)) (cwV 2 hw (lw_gV hU_714 hU_715 hU_716 hU_60 hU_717) rfl rfl rfl (by decide +kernel) ⟨Nat.le_of_ble_eq_true rfl, Nat.le_of_ble_eq_true rfl⟩) (ci := 4) (q0 := 0) rfl (rfl) rfl rfl (Nat.le_of_ble_eq_true rfl) ⟨by decide, by decide⟩ rfl rfl dL_value_5 ?_
  intro r8_1 hu
  show jj_W _ _ _ _ _ _ _ _ _ _ _ _ _ _ _ _ _ 8 _ [.long (lI (if v = 0 then (f_num up dn dv td (K c) (St c) (Ex c) (Am c) pr) / f_g (f_den up dn td (Ex c)) (f_num up dn dv td (K c) (St c) (Ex c) (Am c) pr) else (f_den up dn td (Ex c)) / f_g (f_den up dn td (Ex c)) (f_num up dn dv td (K c) (St c) (Ex c) (Am c) pr))), .int (iI 0), .ref o] (wH ha cA hA nA ed cI cJ cZ td pr up dn dv r8_1 sd mc n mo sh co Ca Cz K St Ex Am Bi As BL AL He Co ++ ((o, .inl (cJ, 1, .inr (.inl (lA F)))) :: EE))
  refine jj_last C0 (q0 := (8 + (3 * n + 0))) (t0 := 1) (f := F) ((wH_ee rfl)) rfl (k := 0) (by omega) (by omega) (by decide) (ws' := wH ha cA hA nA ed cI cJ cZ td pr up dn dv r8_1 sd mc n mo sh co Ca Cz K St Ex Am Bi As BL AL He Co ++ ((o, .inl (cJ, 1, .inr (.inl (lA (va_up F 0 (if v = 0 then (f_num up dn dv td (K c) (St c) (Ex c) (Am c) pr) / f_g (f_den up dn td (Ex c)) (f_num up dn dv td (K c) (St c) (Ex c) (Am c) pr) else (f_den up dn td (Ex c)) / f_g (f_den up dn td (Ex c)) (f_num up dn dv td (K c) (St c) (Ex c) (Am c) pr))))))) :: EE)) ((wH_es rfl)) dL_value_8 ?_
  refine jj_goto C0 (tgt := 16) dL_value_9 (by decide) ?_
  refine jj_iconst C0 dL_value_16 ?_
  exact jj_iret C0 hr r8_1 (trivial) (rfl) (rfl) (by decide) (by decide) dL_value_17
set_option maxHeartbeats 4000000 in
set_option maxRecDepth 100000 in
theorem cw_L_cash (hl : l.stackTraces = false) {k : Nat} {z : Int} (hzk : (z = -1 ∧ k = 6) ∨ (z = (k : Int) ∧ k ≤ 5)) (hED0 : 0 < n → f_ED cA n ed cO EE) : jj_Mi (EVL es mi sa) (dC, dI) vwCl [(cI, .int), (cJ, .long), (cZ, .boolean), (cO, .object "java/lang/Object")] l yL_cash (Cond.codeWith yL_cash cL_cash 4 (some .int) [(0, 8, 11, 33)] :: lw_U) ({ frames := 3, cells := 0, slots := 0, locals := 61 } : Room) [.ref (ha 0), .int (iI z), .ref o] (wH ha cA hA nA ed cI cJ cZ td pr up dn dv rw sd mc n mo sh co Ca Cz K St Ex Am Bi As BL AL He Co ++ ((o, .inl (cJ, 1, .inr (.inl (lA F)))) :: EE)) (S := Unit) (fun _ => 0) (fun _ => True) (fun _ => wH ha cA hA nA ed cI cJ cZ td pr up dn dv rw sd mc n mo sh co Ca Cz K St Ex Am Bi As BL AL He Co ++ ((o, .inl (cJ, 1, .inr (.inl (lA (va_up F 0 (Ca k)))))) :: EE)) := by
  refine jj_startW (hh := [(0, 8, 11, 33)]) (cc := cL_cash) (nL := 4) (ret := (some .int)) (lv := [(0, .ref (ha 0)), (1, .int (iI z)), (2, .ref o)]) (fun A => jj_Qi _ _ _ _ _ _ A) (hEVL es mi sa) (by decide) rfl (Nat.le_of_ble_eq_true rfl) rfl ?_
  intro p9 e9 s9 m9 a9 b9 me9 c9 A9 C1 hr hT
  have C0 : jj_C p9 s9 m9 a9 me9 c9 (dC, dI) vwCl A9 4 cL_cash "StrikehallLaw" lw_U _ (EVL es mi sa) := jj_toU C1
  have hw := C0.2.2.2.2.1
  have hE := C0.2.2.2.2.2.2.2.1
  have hED : 0 < n → f_ED cA n ed cO ((o, .inl (cJ, 1, .inr (.inl (lA F)))) :: EE) := fun h => f_ED_cons (hED0 h)
  refine jj_aload_n C0 2 rfl dL_cash_0 ?_
  refine jj_iconst C0 dL_cash_1 ?_
  refine jj_aload_n C0 0 rfl dL_cash_2 ?_
  refine jj_iload_n C0 1 rfl dL_cash_3 ?_
  refine jj_callVl C0 (jj_weakl (fun A U H h => h.1.1) (cc_X3_cash  (z := z) (by first | exact hzk | omega))) (cwV 1 hw (lw_gV hU_761 hU_762 hU_763 hU_60 hU_764) rfl rfl rfl (by decide +kernel) ⟨Nat.le_of_ble_eq_true rfl, Nat.le_of_ble_eq_true rfl⟩) (ci := 4) (q0 := 0) rfl (rfl) rfl rfl (Nat.le_of_ble_eq_true rfl) ⟨by decide, by decide⟩ rfl rfl dL_cash_4 ?_
  intro _ hu
  show jj_W _ _ _ _ _ _ _ _ _ _ _ _ _ _ _ _ _ 7 _ [.long (lI (Ca k)), .int (iI 0), .ref o] (wH ha cA hA nA ed cI cJ cZ td pr up dn dv rw sd mc n mo sh co Ca Cz K St Ex Am Bi As BL AL He Co ++ ((o, .inl (cJ, 1, .inr (.inl (lA F)))) :: EE))
  refine jj_last C0 (q0 := (8 + (3 * n + 0))) (t0 := 1) (f := F) ((wH_ee rfl)) rfl (k := 0) (by omega) (by omega) (by decide) (ws' := wH ha cA hA nA ed cI cJ cZ td pr up dn dv rw sd mc n mo sh co Ca Cz K St Ex Am Bi As BL AL He Co ++ ((o, .inl (cJ, 1, .inr (.inl (lA (va_up F 0 (Ca k)))))) :: EE)) ((wH_es rfl)) dL_cash_7 ?_
  refine jj_goto C0 (tgt := 14) dL_cash_8 (by decide) ?_
  refine jj_iconst C0 dL_cash_14 ?_
  exact jj_iret C0 hr () (trivial) (rfl) (rfl) (by decide) (by decide) dL_cash_15
set_option maxHeartbeats 4000000 in
set_option maxRecDepth 100000 in
theorem cw_L_cause (hl : l.stackTraces = false) {k : Nat} (hk : k ≤ 5) (hED0 : 0 < n → f_ED cA n ed cO EE) : jj_Mi (EVL es mi sa) (dC, dI) vwCl [(cI, .int), (cJ, .long), (cZ, .boolean), (cO, .object "java/lang/Object")] l yL_cause (Cond.codeWith yL_cause cL_cause 4 (some .int) [(0, 8, 11, 33)] :: lw_U) ({ frames := 1, cells := 0, slots := 0, locals := 21 } : Room) [.ref (ha 0), .int (iI (k : Int)), .ref o] (wH ha cA hA nA ed cI cJ cZ td pr up dn dv rw sd mc n mo sh co Ca Cz K St Ex Am Bi As BL AL He Co ++ ((o, .inl (cJ, 1, .inr (.inl (lA F)))) :: EE)) (S := Unit) (fun _ => 0) (fun _ => True) (fun _ => wH ha cA hA nA ed cI cJ cZ td pr up dn dv rw sd mc n mo sh co Ca Cz K St Ex Am Bi As BL AL He Co ++ ((o, .inl (cJ, 1, .inr (.inl (lA (va_up F 0 (Cz k)))))) :: EE)) := by
  refine jj_startW (hh := [(0, 8, 11, 33)]) (cc := cL_cause) (nL := 4) (ret := (some .int)) (lv := [(0, .ref (ha 0)), (1, .int (iI (k : Int))), (2, .ref o)]) (fun A => jj_Qi _ _ _ _ _ _ A) (hEVL es mi sa) (by decide) rfl (Nat.le_of_ble_eq_true rfl) rfl ?_
  intro p9 e9 s9 m9 a9 b9 me9 c9 A9 C1 hr hT
  have C0 : jj_C p9 s9 m9 a9 me9 c9 (dC, dI) vwCl A9 4 cL_cause "StrikehallLaw" lw_U _ (EVL es mi sa) := jj_toU C1
  have hw := C0.2.2.2.2.1
  have hE := C0.2.2.2.2.2.2.2.1
  have hED : 0 < n → f_ED cA n ed cO ((o, .inl (cJ, 1, .inr (.inl (lA F)))) :: EE) := fun h => f_ED_cons (hED0 h)
  refine jj_aload_n C0 2 rfl dL_cause_0 ?_
  refine jj_iconst C0 dL_cause_1 ?_
  refine jj_aload_n C0 0 rfl dL_cause_2 ?_
  refine jj_iload_n C0 1 rfl dL_cause_3 ?_
  refine jj_callVl C0 (jj_weakl (fun A U H h => h.1.1) (cc_X3_cause  (k := k) (by first | exact hk | omega))) (cwV 1 hw (lw_gV hU_768 hU_769 hU_770 hU_60 hU_771) rfl rfl rfl (by decide +kernel) ⟨Nat.le_of_ble_eq_true rfl, Nat.le_of_ble_eq_true rfl⟩) (ci := 4) (q0 := 0) rfl (rfl) rfl rfl (Nat.le_of_ble_eq_true rfl) ⟨by decide, by decide⟩ rfl rfl dL_cause_4 ?_
  intro _ hu
  show jj_W _ _ _ _ _ _ _ _ _ _ _ _ _ _ _ _ _ 7 _ [.long (lI (Cz k)), .int (iI 0), .ref o] (wH ha cA hA nA ed cI cJ cZ td pr up dn dv rw sd mc n mo sh co Ca Cz K St Ex Am Bi As BL AL He Co ++ ((o, .inl (cJ, 1, .inr (.inl (lA F)))) :: EE))
  refine jj_last C0 (q0 := (8 + (3 * n + 0))) (t0 := 1) (f := F) ((wH_ee rfl)) rfl (k := 0) (by omega) (by omega) (by decide) (ws' := wH ha cA hA nA ed cI cJ cZ td pr up dn dv rw sd mc n mo sh co Ca Cz K St Ex Am Bi As BL AL He Co ++ ((o, .inl (cJ, 1, .inr (.inl (lA (va_up F 0 (Cz k)))))) :: EE)) ((wH_es rfl)) dL_cause_7 ?_
  refine jj_goto C0 (tgt := 14) dL_cause_8 (by decide) ?_
  refine jj_iconst C0 dL_cause_14 ?_
  exact jj_iret C0 hr () (trivial) (rfl) (rfl) (by decide) (by decide) dL_cause_15
set_option maxHeartbeats 4000000 in
set_option maxRecDepth 100000 in
theorem cw_L_worst (hl : l.stackTraces = false) {m : Nat} (hm : m ≤ 100) (hCa : ∀ j, -100000000000000000 ≤ Ca j ∧ Ca j ≤ 100000000000000000) (hpr : 0 ≤ pr ∧ pr ≤ 20000) (hexs : ∀ c, c < n → Ex c ≤ (td : Int) + 10) (hn : n ≤ 12) (htd : td ≤ 200) (hup : 1 ≤ up ∧ up ≤ 10) (hdn : 1 ≤ dn ∧ dn ≤ 10) (hdv : ∀ j, 0 ≤ dv j ∧ dv j ≤ 1000) (hK : ∀ j, 0 ≤ K j ∧ K j ≤ 1) (hSt : ∀ j, 0 ≤ St j ∧ St j ≤ 20000) (hEx : ∀ j, 0 ≤ Ex j ∧ Ex j ≤ 200) (hAm : ∀ j, 0 ≤ Am j ∧ Am j ≤ 1) (hHe : ∀ j, -1000000 ≤ He j ∧ He j ≤ 1000000) (hsh : -100000 ≤ sh ∧ sh ≤ 100000) (hED0 : 0 < n → f_ED cA n ed cO EE) : jj_Mi (EVL es mi sa) (dC, dI) vwCl [(cI, .int), (cJ, .long), (cZ, .boolean), (cO, .object "java/lang/Object")] l yL_worst (Cond.codeWith yL_worst cL_worst 4 (some .int) [(0, 8, 11, 13)] :: lw_U) ({ frames := 7, cells := 0, slots := 0, locals := 168 } : Room) [.ref (ha 0), .int (iI (m : Int)), .ref o] (wH ha cA hA nA ed cI cJ cZ td pr up dn dv rw sd mc n mo sh co Ca Cz K St Ex Am Bi As BL AL He Co ++ ((o, .inl (cJ, 1, .inr (.inl (lA F)))) :: EE)) (S := (Nat → Int)) (fun r8 => 0) (fun r8 => True) (fun r8 => wH ha cA hA nA ed cI cJ cZ td pr up dn dv r8 sd mc n mo sh co Ca Cz K St Ex Am Bi As BL AL He Co ++ ((o, .inl (cJ, 1, .inr (.inl (lA (va_up F 0 (f_worst (fun q8 => (f_W up dn dv td n K St Ex Am He Ca sh q8)) (f_W up dn dv td n K St Ex Am He Ca sh pr) pr (m : Int) (2 * m + 1))))))) :: EE)) := by
  refine jj_startW (hh := [(0, 8, 11, 13)]) (cc := cL_worst) (nL := 4) (ret := (some .int)) (lv := [(0, .ref (ha 0)), (1, .int (iI (m : Int))), (2, .ref o)]) (fun A => jj_Qi _ _ _ _ _ _ A) (hEVL es mi sa) (by decide) rfl (Nat.le_of_ble_eq_true rfl) rfl ?_
  intro p9 e9 s9 m9 a9 b9 me9 c9 A9 C1 hr hT
  have C0 : jj_C p9 s9 m9 a9 me9 c9 (dC, dI) vwCl A9 4 cL_worst "StrikehallLaw" lw_U _ (EVL es mi sa) := jj_toU C1
  have hw := C0.2.2.2.2.1
  have hE := C0.2.2.2.2.2.2.2.1
  have hED : 0 < n → f_ED cA n ed cO ((o, .inl (cJ, 1, .inr (.inl (lA F)))) :: EE) := fun h => f_ED_cons (hED0 h)
  refine jj_aload_n C0 2 rfl dL_worst_0 ?_
  refine jj_iconst C0 dL_worst_1 ?_
  refine jj_aload_n C0 0 rfl dL_worst_2 ?_
  refine jj_iload_n C0 1 rfl dL_worst_3 ?_
  refine jj_callVl C0 (jj_weakl (fun A U H h => h.1.1) (cc_X3_worst  (m := m) (by first | exact hm | omega) (by first | exact hCa | omega) (by first | exact hpr | omega) (by first | exact hexs | omega) (by first | exact hn | omega) (by first | exact htd | omega) (by first | exact hup | omega) (by first | exact hdn | omega) (by first | exact hdv | omega) (by first | exact hK | omega) (by first | exact hSt | omega) (by first | exact hEx | omega) (by first | exact hAm | omega) (by first | exact hHe | omega) (by first | exact hsh | omega) hED)) (cwV 1 hw (lw_gV hU_776 hU_777 hU_778 hU_60 hU_779) rfl rfl rfl (by decide +kernel) ⟨Nat.le_of_ble_eq_true rfl, Nat.le_of_ble_eq_true rfl⟩) (ci := 4) (q0 := 0) rfl (rfl) rfl rfl (Nat.le_of_ble_eq_true rfl) ⟨by decide, by decide⟩ rfl rfl dL_worst_4 ?_
  intro r8_1 hu
  show jj_W _ _ _ _ _ _ _ _ _ _ _ _ _ _ _ _ _ 7 _ [.long (lI (f_worst (fun q8 => (f_W up dn dv td n K St Ex Am He Ca sh q8)) (f_W up dn dv td n K St Ex Am He Ca sh pr) pr (m : Int) (2 * m + 1))), .int (iI 0), .ref o] (wH ha cA hA nA ed cI cJ cZ td pr up dn dv r8_1 sd mc n mo sh co Ca Cz K St Ex Am Bi As BL AL He Co ++ ((o, .inl (cJ, 1, .inr (.inl (lA F)))) :: EE))
  refine jj_last C0 (q0 := (8 + (3 * n + 0))) (t0 := 1) (f := F) ((wH_ee rfl)) rfl (k := 0) (by omega) (by omega) (by decide) (ws' := wH ha cA hA nA ed cI cJ cZ td pr up dn dv r8_1 sd mc n mo sh co Ca Cz K St Ex Am Bi As BL AL He Co ++ ((o, .inl (cJ, 1, .inr (.inl (lA (va_up F 0 (f_worst (fun q8 => (f_W up dn dv td n K St Ex Am He Ca sh q8)) (f_W up dn dv td n K St Ex Am He Ca sh pr) pr (m : Int) (2 * m + 1))))))) :: EE)) ((wH_es rfl)) dL_worst_7 ?_
  refine jj_goto C0 (tgt := 14) dL_worst_8 (by decide) ?_
  refine jj_iconst C0 dL_worst_14 ?_
  exact jj_iret C0 hr r8_1 (trivial) (rfl) (rfl) (by decide) (by decide) dL_worst_15
set_option maxHeartbeats 4000000 in
set_option maxRecDepth 100000 in
theorem cw_L_close (hl : l.stackTraces = false) {Ov : Nat → Int} (htd1 : td < 200) (hsums : ∀ c, c < n → f_s7 He c 7 = 0) (hsd : 0 ≤ sd ∧ sd ≤ 2147483647) (hCo : ∀ j, 0 ≤ Co j ∧ Co j ≤ 1) (hBL : ∀ j, 0 ≤ BL j ∧ BL j ≤ 100) (hAL : ∀ j, 0 ≤ AL j ∧ AL j ≤ 100) (hpr : 0 ≤ pr ∧ pr ≤ 20000) (hexs : ∀ c, c < n → Ex c ≤ (td : Int) + 10) (hn : n ≤ 12) (htd : td ≤ 200) (hup : 1 ≤ up ∧ up ≤ 10) (hdn : 1 ≤ dn ∧ dn ≤ 10) (hdv : ∀ j, 0 ≤ dv j ∧ dv j ≤ 1000) (hK : ∀ j, 0 ≤ K j ∧ K j ≤ 1) (hSt : ∀ j, 0 ≤ St j ∧ St j ≤ 20000) (hEx : ∀ j, 0 ≤ Ex j ∧ Ex j ≤ 200) (hAm : ∀ j, 0 ≤ Am j ∧ Am j ≤ 1) (hHe : ∀ j, -1000000 ≤ He j ∧ He j ≤ 1000000) (hsh : -100000 ≤ sh ∧ sh ≤ 100000) (hED0 : 0 < n → f_ED cA n ed cO EE) (hrg : iR ((td + 1 : Nat) : Int)) : jj_Mi (EVL es mi sa) (dC, dI) vwCl [(cI, .int), (cJ, .long), (cZ, .boolean), (cO, .object "java/lang/Object")] l yL_close (Cond.codeWith yL_close cL_close 3 (some .int) [(0, 8, 11, 27)] :: lw_U) ({ frames := 7, cells := 0, slots := 0, locals := 166 } : Room) [.ref (ha 0), .ref o] (wH ha cA hA nA ed cI cJ cZ td pr up dn dv rw sd mc n mo sh co Ca Cz K St Ex Am Bi As BL AL He Co ++ ((o, .inl (cJ, 1, .inr (.inl (lA F)))) :: EE)) (S := (Nat → Int)) (fun r8 => 0) (fun r8 => True) (fun r8 => wH ha cA hA nA ed cI cJ cZ (td + 1) pr up dn dv r8 (((f_cl K St Ex Co pr td n ((He, Ca, sd), Ov, BL, AL)).1).2.2) mc n mo sh co (((f_cl K St Ex Co pr td n ((He, Ca, sd), Ov, BL, AL)).1).2.1) (va_up (va_up Cz 4 ((Cz 4) + ((f_W up dn dv td n K St Ex Am ((f_cl K St Ex Co pr td n ((He, Ca, sd), Ov, BL, AL)).1.1) ((f_cl K St Ex Co pr td n ((He, Ca, sd), Ov, BL, AL)).1.2.1) sh pr) - (f_W up dn dv td n K St Ex Am He Ca sh pr)))) 2 (((va_up Cz 4 ((Cz 4) + ((f_W up dn dv td n K St Ex Am ((f_cl K St Ex Co pr td n ((He, Ca, sd), Ov, BL, AL)).1.1) ((f_cl K St Ex Co pr td n ((He, Ca, sd), Ov, BL, AL)).1.2.1) sh pr) - (f_W up dn dv td n K St Ex Am He Ca sh pr)))) 2) + ((f_W up dn dv (td + 1) n K St Ex Am ((f_cl K St Ex Co pr td n ((He, Ca, sd), Ov, BL, AL)).1.1) ((f_cl K St Ex Co pr td n ((He, Ca, sd), Ov, BL, AL)).1.2.1) sh pr) - (f_W up dn dv td n K St Ex Am ((f_cl K St Ex Co pr td n ((He, Ca, sd), Ov, BL, AL)).1.1) ((f_cl K St Ex Co pr td n ((He, Ca, sd), Ov, BL, AL)).1.2.1) sh pr)))) K St Ex Am (f_gone Ex td n Bi) (f_gone Ex td n As) ((f_cl K St Ex Co pr td n ((He, Ca, sd), Ov, BL, AL)).2.2.1) ((f_cl K St Ex Co pr td n ((He, Ca, sd), Ov, BL, AL)).2.2.2) (((f_cl K St Ex Co pr td n ((He, Ca, sd), Ov, BL, AL)).1).1) Co ++ ((o, .inl (cJ, 1, .inr (.inl (lA (va_up F 0 ((td + 1 : Nat) : Int)))))) :: EE)) := by
  refine jj_startW (hh := [(0, 8, 11, 27)]) (cc := cL_close) (nL := 3) (ret := (some .int)) (lv := [(0, .ref (ha 0)), (1, .ref o)]) (fun A => jj_Qi _ _ _ _ _ _ A) (hEVL es mi sa) (by decide) rfl (Nat.le_of_ble_eq_true rfl) rfl ?_
  intro p9 e9 s9 m9 a9 b9 me9 c9 A9 C1 hr hT
  have C0 : jj_C p9 s9 m9 a9 me9 c9 (dC, dI) vwCl A9 3 cL_close "StrikehallLaw" lw_U _ (EVL es mi sa) := jj_toU C1
  have hw := C0.2.2.2.2.1
  have hE := C0.2.2.2.2.2.2.2.1
  have hED : 0 < n → f_ED cA n ed cO ((o, .inl (cJ, 1, .inr (.inl (lA F)))) :: EE) := fun h => f_ED_cons (hED0 h)
  refine jj_aload_n C0 1 rfl dL_close_0 ?_
  refine jj_iconst C0 dL_close_1 ?_
  refine jj_aload_n C0 0 rfl dL_close_2 ?_
  refine jj_callVi C0 (jj_weaki (fun A U H h => h.1.1) (cc_X3_close  (Ov := Ov) (by first | exact htd1 | omega) (by first | exact hsums | omega) (by first | exact hsd | omega) (by first | exact hCo | omega) (by first | exact hBL | omega) (by first | exact hAL | omega) (by first | exact hpr | omega) (by first | exact hexs | omega) (by first | exact hn | omega) (by first | exact htd | omega) (by first | exact hup | omega) (by first | exact hdn | omega) (by first | exact hdv | omega) (by first | exact hK | omega) (by first | exact hSt | omega) (by first | exact hEx | omega) (by first | exact hAm | omega) (by first | exact hHe | omega) (by first | exact hsh | omega) hED)) (cwV 0 hw (lw_gV hU_694 hU_695 hU_696 hU_60 hU_697) rfl rfl rfl (by decide +kernel) ⟨Nat.le_of_ble_eq_true rfl, Nat.le_of_ble_eq_true rfl⟩) (ci := 4) (q0 := 0) rfl (rfl) rfl rfl (Nat.le_of_ble_eq_true rfl) ⟨by decide, by decide⟩ rfl rfl dL_close_3 ?_
  intro r8_1 hu
  show jj_W _ _ _ _ _ _ _ _ _ _ _ _ _ _ _ _ _ 6 _ [.int (iI ((td + 1 : Nat) : Int)), .int (iI 0), .ref o] (wH ha cA hA nA ed cI cJ cZ (td + 1) pr up dn dv r8_1 (((f_cl K St Ex Co pr td n ((He, Ca, sd), Ov, BL, AL)).1).2.2) mc n mo sh co (((f_cl K St Ex Co pr td n ((He, Ca, sd), Ov, BL, AL)).1).2.1) (va_up (va_up Cz 4 ((Cz 4) + ((f_W up dn dv td n K St Ex Am ((f_cl K St Ex Co pr td n ((He, Ca, sd), Ov, BL, AL)).1.1) ((f_cl K St Ex Co pr td n ((He, Ca, sd), Ov, BL, AL)).1.2.1) sh pr) - (f_W up dn dv td n K St Ex Am He Ca sh pr)))) 2 (((va_up Cz 4 ((Cz 4) + ((f_W up dn dv td n K St Ex Am ((f_cl K St Ex Co pr td n ((He, Ca, sd), Ov, BL, AL)).1.1) ((f_cl K St Ex Co pr td n ((He, Ca, sd), Ov, BL, AL)).1.2.1) sh pr) - (f_W up dn dv td n K St Ex Am He Ca sh pr)))) 2) + ((f_W up dn dv (td + 1) n K St Ex Am ((f_cl K St Ex Co pr td n ((He, Ca, sd), Ov, BL, AL)).1.1) ((f_cl K St Ex Co pr td n ((He, Ca, sd), Ov, BL, AL)).1.2.1) sh pr) - (f_W up dn dv td n K St Ex Am ((f_cl K St Ex Co pr td n ((He, Ca, sd), Ov, BL, AL)).1.1) ((f_cl K St Ex Co pr td n ((He, Ca, sd), Ov, BL, AL)).1.2.1) sh pr)))) K St Ex Am (f_gone Ex td n Bi) (f_gone Ex td n As) ((f_cl K St Ex Co pr td n ((He, Ca, sd), Ov, BL, AL)).2.2.1) ((f_cl K St Ex Co pr td n ((He, Ca, sd), Ov, BL, AL)).2.2.2) (((f_cl K St Ex Co pr td n ((He, Ca, sd), Ov, BL, AL)).1).1) Co ++ ((o, .inl (cJ, 1, .inr (.inl (lA F)))) :: EE))
  refine jj_i2l C0 (hrg) dL_close_6 ?_
  refine jj_last C0 (q0 := (8 + (3 * n + 0))) (t0 := 1) (f := F) ((wH_ee rfl)) rfl (k := 0) (by omega) (by omega) (by decide) (ws' := wH ha cA hA nA ed cI cJ cZ (td + 1) pr up dn dv r8_1 (((f_cl K St Ex Co pr td n ((He, Ca, sd), Ov, BL, AL)).1).2.2) mc n mo sh co (((f_cl K St Ex Co pr td n ((He, Ca, sd), Ov, BL, AL)).1).2.1) (va_up (va_up Cz 4 ((Cz 4) + ((f_W up dn dv td n K St Ex Am ((f_cl K St Ex Co pr td n ((He, Ca, sd), Ov, BL, AL)).1.1) ((f_cl K St Ex Co pr td n ((He, Ca, sd), Ov, BL, AL)).1.2.1) sh pr) - (f_W up dn dv td n K St Ex Am He Ca sh pr)))) 2 (((va_up Cz 4 ((Cz 4) + ((f_W up dn dv td n K St Ex Am ((f_cl K St Ex Co pr td n ((He, Ca, sd), Ov, BL, AL)).1.1) ((f_cl K St Ex Co pr td n ((He, Ca, sd), Ov, BL, AL)).1.2.1) sh pr) - (f_W up dn dv td n K St Ex Am He Ca sh pr)))) 2) + ((f_W up dn dv (td + 1) n K St Ex Am ((f_cl K St Ex Co pr td n ((He, Ca, sd), Ov, BL, AL)).1.1) ((f_cl K St Ex Co pr td n ((He, Ca, sd), Ov, BL, AL)).1.2.1) sh pr) - (f_W up dn dv td n K St Ex Am ((f_cl K St Ex Co pr td n ((He, Ca, sd), Ov, BL, AL)).1.1) ((f_cl K St Ex Co pr td n ((He, Ca, sd), Ov, BL, AL)).1.2.1) sh pr)))) K St Ex Am (f_gone Ex td n Bi) (f_gone Ex td n As) ((f_cl K St Ex Co pr td n ((He, Ca, sd), Ov, BL, AL)).2.2.1) ((f_cl K St Ex Co pr td n ((He, Ca, sd), Ov, BL, AL)).2.2.2) (((f_cl K St Ex Co pr td n ((He, Ca, sd), Ov, BL, AL)).1).1) Co ++ ((o, .inl (cJ, 1, .inr (.inl (lA (va_up F 0 ((td + 1 : Nat) : Int)))))) :: EE)) ((wH_es rfl)) dL_close_7 ?_
  refine jj_goto C0 (tgt := 14) dL_close_8 (by decide) ?_
  refine jj_iconst C0 dL_close_14 ?_
  exact jj_iret C0 hr r8_1 (trivial) (rfl) (rfl) (by decide) (by decide) dL_close_15
set_option maxHeartbeats 4000000 in
set_option maxRecDepth 100000 in
theorem cw_L_dividend (hl : l.stackTraces = false) {d : Nat} {y : Int} (hd : td + 1 ≤ d ∧ d ≤ 200) (hy : 0 ≤ y ∧ y ≤ 1000) (hpr : 0 ≤ pr ∧ pr ≤ 20000) (hexs : ∀ c, c < n → Ex c ≤ (td : Int) + 10) (hn : n ≤ 12) (htd : td ≤ 200) (hup : 1 ≤ up ∧ up ≤ 10) (hdn : 1 ≤ dn ∧ dn ≤ 10) (hdv : ∀ j, 0 ≤ dv j ∧ dv j ≤ 1000) (hK : ∀ j, 0 ≤ K j ∧ K j ≤ 1) (hSt : ∀ j, 0 ≤ St j ∧ St j ≤ 20000) (hEx : ∀ j, 0 ≤ Ex j ∧ Ex j ≤ 200) (hAm : ∀ j, 0 ≤ Am j ∧ Am j ≤ 1) (hHe : ∀ j, -1000000 ≤ He j ∧ He j ≤ 1000000) (hsh : -100000 ≤ sh ∧ sh ≤ 100000) (hED0 : 0 < n → f_ED cA n ed cO EE) (hrg : iR (dv d)) : jj_Mi (EVL es mi sa) (dC, dI) vwCl [(cI, .int), (cJ, .long), (cZ, .boolean), (cO, .object "java/lang/Object")] l yL_dividend (Cond.codeWith yL_dividend cL_dividend 5 (some .int) [(0, 10, 13, 13)] :: lw_U) ({ frames := 7, cells := 0, slots := 0, locals := 167 } : Room) [.ref (ha 0), .int (iI (d : Int)), .int (iI y), .ref o] (wH ha cA hA nA ed cI cJ cZ td pr up dn dv rw sd mc n mo sh co Ca Cz K St Ex Am Bi As BL AL He Co ++ ((o, .inl (cJ, 1, .inr (.inl (lA F)))) :: EE)) (S := (Nat → Int)) (fun r8 => 0) (fun r8 => True) (fun r8 => wH ha cA hA nA ed cI cJ cZ td pr up dn (va_up dv d y) r8 sd mc n mo sh co Ca (va_up Cz 5 ((Cz 5) + ((f_W up dn (va_up dv d y) td n K St Ex Am He Ca sh pr) - (f_W up dn dv td n K St Ex Am He Ca sh pr)))) K St Ex Am Bi As BL AL He Co ++ ((o, .inl (cJ, 1, .inr (.inl (lA (va_up F 0 (dv d)))))) :: EE)) := by
  refine jj_startW (hh := [(0, 10, 13, 13)]) (cc := cL_dividend) (nL := 5) (ret := (some .int)) (lv := [(0, .ref (ha 0)), (1, .int (iI (d : Int))), (2, .int (iI y)), (3, .ref o)]) (fun A => jj_Qi _ _ _ _ _ _ A) (hEVL es mi sa) (by decide) rfl (Nat.le_of_ble_eq_true rfl) rfl ?_
  intro p9 e9 s9 m9 a9 b9 me9 c9 A9 C1 hr hT
  have C0 : jj_C p9 s9 m9 a9 me9 c9 (dC, dI) vwCl A9 5 cL_dividend "StrikehallLaw" lw_U _ (EVL es mi sa) := jj_toU C1
  have hw := C0.2.2.2.2.1
  have hE := C0.2.2.2.2.2.2.2.1
  have hED : 0 < n → f_ED cA n ed cO ((o, .inl (cJ, 1, .inr (.inl (lA F)))) :: EE) := fun h => f_ED_cons (hED0 h)
  refine jj_aload_n C0 3 rfl dL_dividend_0 ?_
  refine jj_iconst C0 dL_dividend_1 ?_
  refine jj_aload_n C0 0 rfl dL_dividend_2 ?_
  refine jj_iload_n C0 1 rfl dL_dividend_3 ?_
  refine jj_iload_n C0 2 rfl dL_dividend_4 ?_
  refine jj_callVi C0 (jj_weaki (fun A U H h => h.1.1) (cc_X3_dividend  (d := d) (y := y) (by first | exact hd | omega) (by first | exact hy | omega) (by first | exact hpr | omega) (by first | exact hexs | omega) (by first | exact hn | omega) (by first | exact htd | omega) (by first | exact hup | omega) (by first | exact hdn | omega) (by first | exact hdv | omega) (by first | exact hK | omega) (by first | exact hSt | omega) (by first | exact hEx | omega) (by first | exact hAm | omega) (by first | exact hHe | omega) (by first | exact hsh | omega) hED)) (cwV 2 hw (lw_gV hU_414 hU_415 hU_416 hU_60 hU_417) rfl rfl rfl (by decide +kernel) ⟨Nat.le_of_ble_eq_true rfl, Nat.le_of_ble_eq_true rfl⟩) (ci := 4) (q0 := 0) rfl (rfl) rfl rfl (Nat.le_of_ble_eq_true rfl) ⟨by decide, by decide⟩ rfl rfl dL_dividend_5 ?_
  intro r8_1 hu
  show jj_W _ _ _ _ _ _ _ _ _ _ _ _ _ _ _ _ _ 8 _ [.int (iI (dv d)), .int (iI 0), .ref o] (wH ha cA hA nA ed cI cJ cZ td pr up dn (va_up dv d y) r8_1 sd mc n mo sh co Ca (va_up Cz 5 ((Cz 5) + ((f_W up dn (va_up dv d y) td n K St Ex Am He Ca sh pr) - (f_W up dn dv td n K St Ex Am He Ca sh pr)))) K St Ex Am Bi As BL AL He Co ++ ((o, .inl (cJ, 1, .inr (.inl (lA F)))) :: EE))
  refine jj_i2l C0 (hrg) dL_dividend_8 ?_
  refine jj_last C0 (q0 := (8 + (3 * n + 0))) (t0 := 1) (f := F) ((wH_ee rfl)) rfl (k := 0) (by omega) (by omega) (by decide) (ws' := wH ha cA hA nA ed cI cJ cZ td pr up dn (va_up dv d y) r8_1 sd mc n mo sh co Ca (va_up Cz 5 ((Cz 5) + ((f_W up dn (va_up dv d y) td n K St Ex Am He Ca sh pr) - (f_W up dn dv td n K St Ex Am He Ca sh pr)))) K St Ex Am Bi As BL AL He Co ++ ((o, .inl (cJ, 1, .inr (.inl (lA (va_up F 0 (dv d)))))) :: EE)) ((wH_es rfl)) dL_dividend_9 ?_
  refine jj_goto C0 (tgt := 17) dL_dividend_10 (by decide) ?_
  refine jj_iconst C0 dL_dividend_17 ?_
  exact jj_iret C0 hr r8_1 (trivial) (rfl) (rfl) (by decide) (by decide) dL_dividend_18
set_option maxHeartbeats 4000000 in
set_option maxRecDepth 100000 in
theorem cw_L_limit (hl : l.stackTraces = false) {x : Int} (hx : 0 ≤ x ∧ x ≤ 1000) (hED0 : 0 < n → f_ED cA n ed cO EE) (hrg : iR mo) : jj_Mi (EVL es mi sa) (dC, dI) vwCl [(cI, .int), (cJ, .long), (cZ, .boolean), (cO, .object "java/lang/Object")] l yL_limit (Cond.codeWith yL_limit cL_limit 4 (some .int) [(0, 9, 12, 13)] :: lw_U) ({ frames := 2, cells := 0, slots := 0, locals := 44 } : Room) [.ref (ha 0), .int (iI x), .ref o] (wH ha cA hA nA ed cI cJ cZ td pr up dn dv rw sd mc n mo sh co Ca Cz K St Ex Am Bi As BL AL He Co ++ ((o, .inl (cJ, 1, .inr (.inl (lA F)))) :: EE)) (S := Unit) (fun _ => 0) (fun _ => True) (fun _ => wH ha cA hA nA ed cI cJ cZ td pr up dn dv rw sd mc n x sh co Ca Cz K St Ex Am Bi As BL AL He Co ++ ((o, .inl (cJ, 1, .inr (.inl (lA (va_up F 0 mo))))) :: EE)) := by
  refine jj_startW (hh := [(0, 9, 12, 13)]) (cc := cL_limit) (nL := 4) (ret := (some .int)) (lv := [(0, .ref (ha 0)), (1, .int (iI x)), (2, .ref o)]) (fun A => jj_Qi _ _ _ _ _ _ A) (hEVL es mi sa) (by decide) rfl (Nat.le_of_ble_eq_true rfl) rfl ?_
  intro p9 e9 s9 m9 a9 b9 me9 c9 A9 C1 hr hT
  have C0 : jj_C p9 s9 m9 a9 me9 c9 (dC, dI) vwCl A9 4 cL_limit "StrikehallLaw" lw_U _ (EVL es mi sa) := jj_toU C1
  have hw := C0.2.2.2.2.1
  have hE := C0.2.2.2.2.2.2.2.1
  have hED : 0 < n → f_ED cA n ed cO ((o, .inl (cJ, 1, .inr (.inl (lA F)))) :: EE) := fun h => f_ED_cons (hED0 h)
  refine jj_aload_n C0 2 rfl dL_limit_0 ?_
  refine jj_iconst C0 dL_limit_1 ?_
  refine jj_aload_n C0 0 rfl dL_limit_2 ?_
  refine jj_iload_n C0 1 rfl dL_limit_3 ?_
  refine jj_callVi C0 (jj_weaki (fun A U H h => h.1.1) (cc_X3_limit  (x := x) (by first | exact hx | omega))) (cwV 1 hw (lw_gV hU_583 hU_584 hU_585 hU_60 hU_586) rfl rfl rfl (by decide +kernel) ⟨Nat.le_of_ble_eq_true rfl, Nat.le_of_ble_eq_true rfl⟩) (ci := 4) (q0 := 0) rfl (rfl) rfl rfl (Nat.le_of_ble_eq_true rfl) ⟨by decide, by decide⟩ rfl rfl dL_limit_4 ?_
  intro _ hu
  show jj_W _ _ _ _ _ _ _ _ _ _ _ _ _ _ _ _ _ 7 _ [.int (iI mo), .int (iI 0), .ref o] (wH ha cA hA nA ed cI cJ cZ td pr up dn dv rw sd mc n x sh co Ca Cz K St Ex Am Bi As BL AL He Co ++ ((o, .inl (cJ, 1, .inr (.inl (lA F)))) :: EE))
  refine jj_i2l C0 (hrg) dL_limit_7 ?_
  refine jj_last C0 (q0 := (8 + (3 * n + 0))) (t0 := 1) (f := F) ((wH_ee rfl)) rfl (k := 0) (by omega) (by omega) (by decide) (ws' := wH ha cA hA nA ed cI cJ cZ td pr up dn dv rw sd mc n x sh co Ca Cz K St Ex Am Bi As BL AL He Co ++ ((o, .inl (cJ, 1, .inr (.inl (lA (va_up F 0 mo))))) :: EE)) ((wH_es rfl)) dL_limit_8 ?_
  refine jj_goto C0 (tgt := 15) dL_limit_9 (by decide) ?_
  refine jj_iconst C0 dL_limit_15 ?_
  exact jj_iret C0 hr () (trivial) (rfl) (rfl) (by decide) (by decide) dL_limit_16
set_option maxHeartbeats 4000000 in
set_option maxRecDepth 100000 in
theorem cw_L_order (hl : l.stackTraces = false) {c k : Nat} {x y : Int} (hk : k ≤ 5) (hx : -100 ≤ x ∧ x ≤ 100 ∧ x ≠ 0) (hy : 0 ≤ y ∧ y ≤ 20000) (hov : (td : Int) ≤ Ex c) (hQ0 : (0 < BL c ∨ 0 < AL c) ∨ (Bi c = 0 ∧ As c = 0)) (hcn : c < n) (hHe1 : ∀ j, -999000 ≤ He j ∧ He j ≤ 999000) (hBi : ∀ j, 0 ≤ Bi j ∧ Bi j ≤ 20000) (hAs : ∀ j, 0 ≤ As j ∧ As j ≤ 20000) (hBL : ∀ j, 0 ≤ BL j ∧ BL j ≤ 100) (hAL : ∀ j, 0 ≤ AL j ∧ AL j ≤ 100) (hmo : 0 ≤ mo ∧ mo ≤ 1000) (hpr : 0 ≤ pr ∧ pr ≤ 20000) (hexs : ∀ c, c < n → Ex c ≤ (td : Int) + 10) (hn : n ≤ 12) (htd : td ≤ 200) (hup : 1 ≤ up ∧ up ≤ 10) (hdn : 1 ≤ dn ∧ dn ≤ 10) (hdv : ∀ j, 0 ≤ dv j ∧ dv j ≤ 1000) (hK : ∀ j, 0 ≤ K j ∧ K j ≤ 1) (hSt : ∀ j, 0 ≤ St j ∧ St j ≤ 20000) (hEx : ∀ j, 0 ≤ Ex j ∧ Ex j ≤ 200) (hAm : ∀ j, 0 ≤ Am j ∧ Am j ≤ 1) (hsh : -100000 ≤ sh ∧ sh ≤ 100000) (hED0 : 0 < n → f_ED cA n ed cO EE) (hrg : iR (if 0 < x then (f_oq x y (Bi c) (As c) (BL c) (AL c) (He (7 * c + 6)) mo) else -(f_oq x y (Bi c) (As c) (BL c) (AL c) (He (7 * c + 6)) mo))) : jj_Mi (EVL es mi sa) (dC, dI) vwCl [(cI, .int), (cJ, .long), (cZ, .boolean), (cO, .object "java/lang/Object")] l yL_order (Cond.codeWith yL_order cL_order 7 (some .int) [(0, 14, 17, 33), (0, 14, 21, 13), (0, 14, 25, 27)] :: lw_U) ({ frames := 7, cells := 0, slots := 0, locals := 170 } : Room) [.ref (ha 0), .int (iI (k : Int)), .int (iI (c : Int)), .int (iI x), .int (iI y), .ref o] (wH ha cA hA nA ed cI cJ cZ td pr up dn dv rw sd mc n mo sh co Ca Cz K St Ex Am Bi As BL AL He Co ++ ((o, .inl (cJ, 1, .inr (.inl (lA F)))) :: EE)) (S := (Nat → Int)) (fun r8 => 0) (fun r8 => True) (fun r8 => wH ha cA hA nA ed cI cJ cZ td pr up dn dv r8 sd mc n mo sh co (f_dCa Ca k (if 0 < x then As c else Bi c) (f_oq x y (Bi c) (As c) (BL c) (AL c) (He (7 * c + 6)) mo)) (va_up Cz 0 ((Cz 0) + ((f_W up dn dv td n K St Ex Am (f_dHe He c k (f_oq x y (Bi c) (As c) (BL c) (AL c) (He (7 * c + 6)) mo)) (f_dCa Ca k (if 0 < x then As c else Bi c) (f_oq x y (Bi c) (As c) (BL c) (AL c) (He (7 * c + 6)) mo)) sh pr) - (f_W up dn dv td n K St Ex Am He Ca sh pr)))) K St Ex Am (va_up Bi c (if 0 < (va_up BL c (BL c - (if 0 < x then 0 else -(f_oq x y (Bi c) (As c) (BL c) (AL c) (He (7 * c + 6)) mo)))) c ∨ 0 < (va_up AL c (AL c - (if 0 < x then (f_oq x y (Bi c) (As c) (BL c) (AL c) (He (7 * c + 6)) mo) else 0))) c then Bi c else 0)) (va_up As c (if 0 < (va_up BL c (BL c - (if 0 < x then 0 else -(f_oq x y (Bi c) (As c) (BL c) (AL c) (He (7 * c + 6)) mo)))) c ∨ 0 < (va_up AL c (AL c - (if 0 < x then (f_oq x y (Bi c) (As c) (BL c) (AL c) (He (7 * c + 6)) mo) else 0))) c then As c else 0)) (va_up BL c (BL c - (if 0 < x then 0 else -(f_oq x y (Bi c) (As c) (BL c) (AL c) (He (7 * c + 6)) mo)))) (va_up AL c (AL c - (if 0 < x then (f_oq x y (Bi c) (As c) (BL c) (AL c) (He (7 * c + 6)) mo) else 0))) (f_dHe He c k (f_oq x y (Bi c) (As c) (BL c) (AL c) (He (7 * c + 6)) mo)) Co ++ ((o, .inl (cJ, 1, .inr (.inl (lA (va_up F 0 (if 0 < x then (f_oq x y (Bi c) (As c) (BL c) (AL c) (He (7 * c + 6)) mo) else -(f_oq x y (Bi c) (As c) (BL c) (AL c) (He (7 * c + 6)) mo))))))) :: EE)) := by
  refine jj_startW (hh := [(0, 14, 17, 33), (0, 14, 21, 13), (0, 14, 25, 27)]) (cc := cL_order) (nL := 7) (ret := (some .int)) (lv := [(0, .ref (ha 0)), (1, .int (iI (k : Int))), (2, .int (iI (c : Int))), (3, .int (iI x)), (4, .int (iI y)), (5, .ref o)]) (fun A => jj_Qi _ _ _ _ _ _ A) (hEVL es mi sa) (by decide) rfl (Nat.le_of_ble_eq_true rfl) rfl ?_
  intro p9 e9 s9 m9 a9 b9 me9 c9 A9 C1 hr hT
  have C0 : jj_C p9 s9 m9 a9 me9 c9 (dC, dI) vwCl A9 7 cL_order "StrikehallLaw" lw_U _ (EVL es mi sa) := jj_toU C1
  have hw := C0.2.2.2.2.1
  have hE := C0.2.2.2.2.2.2.2.1
  have hED : 0 < n → f_ED cA n ed cO ((o, .inl (cJ, 1, .inr (.inl (lA F)))) :: EE) := fun h => f_ED_cons (hED0 h)
  refine jj_aload C0 5 rfl dL_order_0 ?_
  refine jj_iconst C0 dL_order_2 ?_
  refine jj_aload_n C0 0 rfl dL_order_3 ?_
  refine jj_iload_n C0 1 rfl dL_order_4 ?_
  refine jj_iload_n C0 2 rfl dL_order_5 ?_
  refine jj_iload_n C0 3 rfl dL_order_6 ?_
  refine jj_iload C0 4 rfl dL_order_7 ?_
  refine jj_callVi C0 (jj_weaki (fun A U H h => h.1.1) (cc_X3_order  (k := k) (c := c) (x := x) (y := y) (by first | exact hk | omega) (by first | exact hx | omega) (by first | exact hy | omega) (by first | exact hov | omega) (by first | exact hQ0 | omega) (by first | exact hcn | omega) (by first | exact hHe1 | omega) (by first | exact hBi | omega) (by first | exact hAs | omega) (by first | exact hBL | omega) (by first | exact hAL | omega) (by first | exact hmo | omega) (by first | exact hpr | omega) (by first | exact hexs | omega) (by first | exact hn | omega) (by first | exact htd | omega) (by first | exact hup | omega) (by first | exact hdn | omega) (by first | exact hdv | omega) (by first | exact hK | omega) (by first | exact hSt | omega) (by first | exact hEx | omega) (by first | exact hAm | omega) (by first | exact hsh | omega) hED)) (cwV 4 hw (lw_gV hU_590 hU_591 hU_592 hU_60 hU_593) rfl rfl rfl (by decide +kernel) ⟨Nat.le_of_ble_eq_true rfl, Nat.le_of_ble_eq_true rfl⟩) (ci := 4) (q0 := 0) rfl (rfl) rfl rfl (Nat.le_of_ble_eq_true rfl) ⟨by decide, by decide⟩ rfl rfl dL_order_9 ?_
  intro r8_1 hu
  show jj_W _ _ _ _ _ _ _ _ _ _ _ _ _ _ _ _ _ 12 _ [.int (iI (if 0 < x then (f_oq x y (Bi c) (As c) (BL c) (AL c) (He (7 * c + 6)) mo) else -(f_oq x y (Bi c) (As c) (BL c) (AL c) (He (7 * c + 6)) mo))), .int (iI 0), .ref o] (wH ha cA hA nA ed cI cJ cZ td pr up dn dv r8_1 sd mc n mo sh co (f_dCa Ca k (if 0 < x then As c else Bi c) (f_oq x y (Bi c) (As c) (BL c) (AL c) (He (7 * c + 6)) mo)) (va_up Cz 0 ((Cz 0) + ((f_W up dn dv td n K St Ex Am (f_dHe He c k (f_oq x y (Bi c) (As c) (BL c) (AL c) (He (7 * c + 6)) mo)) (f_dCa Ca k (if 0 < x then As c else Bi c) (f_oq x y (Bi c) (As c) (BL c) (AL c) (He (7 * c + 6)) mo)) sh pr) - (f_W up dn dv td n K St Ex Am He Ca sh pr)))) K St Ex Am (va_up Bi c (if 0 < (va_up BL c (BL c - (if 0 < x then 0 else -(f_oq x y (Bi c) (As c) (BL c) (AL c) (He (7 * c + 6)) mo)))) c ∨ 0 < (va_up AL c (AL c - (if 0 < x then (f_oq x y (Bi c) (As c) (BL c) (AL c) (He (7 * c + 6)) mo) else 0))) c then Bi c else 0)) (va_up As c (if 0 < (va_up BL c (BL c - (if 0 < x then 0 else -(f_oq x y (Bi c) (As c) (BL c) (AL c) (He (7 * c + 6)) mo)))) c ∨ 0 < (va_up AL c (AL c - (if 0 < x then (f_oq x y (Bi c) (As c) (BL c) (AL c) (He (7 * c + 6)) mo) else 0))) c then As c else 0)) (va_up BL c (BL c - (if 0 < x then 0 else -(f_oq x y (Bi c) (As c) (BL c) (AL c) (He (7 * c + 6)) mo)))) (va_up AL c (AL c - (if 0 < x then (f_oq x y (Bi c) (As c) (BL c) (AL c) (He (7 * c + 6)) mo) else 0))) (f_dHe He c k (f_oq x y (Bi c) (As c) (BL c) (AL c) (He (7 * c + 6)) mo)) Co ++ ((o, .inl (cJ, 1, .inr (.inl (lA F)))) :: EE))
  refine jj_i2l C0 (hrg) dL_order_12 ?_
  refine jj_last C0 (q0 := (8 + (3 * n + 0))) (t0 := 1) (f := F) ((wH_ee rfl)) rfl (k := 0) (by omega) (by omega) (by decide) (ws' := wH ha cA hA nA ed cI cJ cZ td pr up dn dv r8_1 sd mc n mo sh co (f_dCa Ca k (if 0 < x then As c else Bi c) (f_oq x y (Bi c) (As c) (BL c) (AL c) (He (7 * c + 6)) mo)) (va_up Cz 0 ((Cz 0) + ((f_W up dn dv td n K St Ex Am (f_dHe He c k (f_oq x y (Bi c) (As c) (BL c) (AL c) (He (7 * c + 6)) mo)) (f_dCa Ca k (if 0 < x then As c else Bi c) (f_oq x y (Bi c) (As c) (BL c) (AL c) (He (7 * c + 6)) mo)) sh pr) - (f_W up dn dv td n K St Ex Am He Ca sh pr)))) K St Ex Am (va_up Bi c (if 0 < (va_up BL c (BL c - (if 0 < x then 0 else -(f_oq x y (Bi c) (As c) (BL c) (AL c) (He (7 * c + 6)) mo)))) c ∨ 0 < (va_up AL c (AL c - (if 0 < x then (f_oq x y (Bi c) (As c) (BL c) (AL c) (He (7 * c + 6)) mo) else 0))) c then Bi c else 0)) (va_up As c (if 0 < (va_up BL c (BL c - (if 0 < x then 0 else -(f_oq x y (Bi c) (As c) (BL c) (AL c) (He (7 * c + 6)) mo)))) c ∨ 0 < (va_up AL c (AL c - (if 0 < x then (f_oq x y (Bi c) (As c) (BL c) (AL c) (He (7 * c + 6)) mo) else 0))) c then As c else 0)) (va_up BL c (BL c - (if 0 < x then 0 else -(f_oq x y (Bi c) (As c) (BL c) (AL c) (He (7 * c + 6)) mo)))) (va_up AL c (AL c - (if 0 < x then (f_oq x y (Bi c) (As c) (BL c) (AL c) (He (7 * c + 6)) mo) else 0))) (f_dHe He c k (f_oq x y (Bi c) (As c) (BL c) (AL c) (He (7 * c + 6)) mo)) Co ++ ((o, .inl (cJ, 1, .inr (.inl (lA (va_up F 0 (if 0 < x then (f_oq x y (Bi c) (As c) (BL c) (AL c) (He (7 * c + 6)) mo) else -(f_oq x y (Bi c) (As c) (BL c) (AL c) (He (7 * c + 6)) mo))))))) :: EE)) ((wH_es rfl)) dL_order_13 ?_
  refine jj_goto C0 (tgt := 29) dL_order_14 (by decide) ?_
  refine jj_iconst C0 dL_order_29 ?_
  exact jj_iret C0 hr r8_1 (trivial) (rfl) (rfl) (by decide) (by decide) dL_order_30
set_option maxHeartbeats 4000000 in
set_option maxRecDepth 100000 in
theorem cw_L_hedge (hl : l.stackTraces = false) {x y : Int} (hx : -10000 ≤ x ∧ x ≤ 10000) (hy : 0 ≤ y ∧ y ≤ 10000) (hsx : -100000 ≤ sh + x ∧ sh + x ≤ 100000) (hpr : 0 ≤ pr ∧ pr ≤ 20000) (hexs : ∀ c, c < n → Ex c ≤ (td : Int) + 10) (hn : n ≤ 12) (htd : td ≤ 200) (hup : 1 ≤ up ∧ up ≤ 10) (hdn : 1 ≤ dn ∧ dn ≤ 10) (hdv : ∀ j, 0 ≤ dv j ∧ dv j ≤ 1000) (hK : ∀ j, 0 ≤ K j ∧ K j ≤ 1) (hSt : ∀ j, 0 ≤ St j ∧ St j ≤ 20000) (hEx : ∀ j, 0 ≤ Ex j ∧ Ex j ≤ 200) (hAm : ∀ j, 0 ≤ Am j ∧ Am j ≤ 1) (hHe : ∀ j, -1000000 ≤ He j ∧ He j ≤ 1000000) (hsh : -100000 ≤ sh ∧ sh ≤ 100000) (hED0 : 0 < n → f_ED cA n ed cO EE) (hrg : iR (sh + x)) : jj_Mi (EVL es mi sa) (dC, dI) vwCl [(cI, .int), (cJ, .long), (cZ, .boolean), (cO, .object "java/lang/Object")] l yL_hedge (Cond.codeWith yL_hedge cL_hedge 5 (some .int) [(0, 10, 13, 13)] :: lw_U) ({ frames := 7, cells := 0, slots := 0, locals := 166 } : Room) [.ref (ha 0), .int (iI x), .int (iI y), .ref o] (wH ha cA hA nA ed cI cJ cZ td pr up dn dv rw sd mc n mo sh co Ca Cz K St Ex Am Bi As BL AL He Co ++ ((o, .inl (cJ, 1, .inr (.inl (lA F)))) :: EE)) (S := (Nat → Int)) (fun r8 => 0) (fun r8 => True) (fun r8 => wH ha cA hA nA ed cI cJ cZ td pr up dn dv r8 sd mc n mo (sh + x) y (va_up Ca 6 ((Ca 6) - (((1000 * pr) * x) + (y * (if 0 ≤ x then x else -x))))) (va_up Cz 3 ((Cz 3) + ((f_W up dn dv td n K St Ex Am He (va_up Ca 6 ((Ca 6) - (((1000 * pr) * x) + (y * (if 0 ≤ x then x else -x))))) (sh + x) pr) - (f_W up dn dv td n K St Ex Am He Ca sh pr)))) K St Ex Am Bi As BL AL He Co ++ ((o, .inl (cJ, 1, .inr (.inl (lA (va_up F 0 (sh + x)))))) :: EE)) := by
  refine jj_startW (hh := [(0, 10, 13, 13)]) (cc := cL_hedge) (nL := 5) (ret := (some .int)) (lv := [(0, .ref (ha 0)), (1, .int (iI x)), (2, .int (iI y)), (3, .ref o)]) (fun A => jj_Qi _ _ _ _ _ _ A) (hEVL es mi sa) (by decide) rfl (Nat.le_of_ble_eq_true rfl) rfl ?_
  intro p9 e9 s9 m9 a9 b9 me9 c9 A9 C1 hr hT
  have C0 : jj_C p9 s9 m9 a9 me9 c9 (dC, dI) vwCl A9 5 cL_hedge "StrikehallLaw" lw_U _ (EVL es mi sa) := jj_toU C1
  have hw := C0.2.2.2.2.1
  have hE := C0.2.2.2.2.2.2.2.1
  have hED : 0 < n → f_ED cA n ed cO ((o, .inl (cJ, 1, .inr (.inl (lA F)))) :: EE) := fun h => f_ED_cons (hED0 h)
  refine jj_aload_n C0 3 rfl dL_hedge_0 ?_
  refine jj_iconst C0 dL_hedge_1 ?_
  refine jj_aload_n C0 0 rfl dL_hedge_2 ?_
  refine jj_iload_n C0 1 rfl dL_hedge_3 ?_
  refine jj_iload_n C0 2 rfl dL_hedge_4 ?_
  refine jj_callVi C0 (jj_weaki (fun A U H h => h.1.1) (cc_X3_hedge  (x := x) (y := y) (by first | exact hx | omega) (by first | exact hy | omega) (by first | exact hsx | omega) (by first | exact hpr | omega) (by first | exact hexs | omega) (by first | exact hn | omega) (by first | exact htd | omega) (by first | exact hup | omega) (by first | exact hdn | omega) (by first | exact hdv | omega) (by first | exact hK | omega) (by first | exact hSt | omega) (by first | exact hEx | omega) (by first | exact hAm | omega) (by first | exact hHe | omega) (by first | exact hsh | omega) hED)) (cwV 2 hw (lw_gV hU_629 hU_630 hU_631 hU_60 hU_632) rfl rfl rfl (by decide +kernel) ⟨Nat.le_of_ble_eq_true rfl, Nat.le_of_ble_eq_true rfl⟩) (ci := 4) (q0 := 0) rfl (rfl) rfl rfl (Nat.le_of_ble_eq_true rfl) ⟨by decide, by decide⟩ rfl rfl dL_hedge_5 ?_
  intro r8_1 hu
  show jj_W _ _ _ _ _ _ _ _ _ _ _ _ _ _ _ _ _ 8 _ [.int (iI (sh + x)), .int (iI 0), .ref o] (wH ha cA hA nA ed cI cJ cZ td pr up dn dv r8_1 sd mc n mo (sh + x) y (va_up Ca 6 ((Ca 6) - (((1000 * pr) * x) + (y * (if 0 ≤ x then x else -x))))) (va_up Cz 3 ((Cz 3) + ((f_W up dn dv td n K St Ex Am He (va_up Ca 6 ((Ca 6) - (((1000 * pr) * x) + (y * (if 0 ≤ x then x else -x))))) (sh + x) pr) - (f_W up dn dv td n K St Ex Am He Ca sh pr)))) K St Ex Am Bi As BL AL He Co ++ ((o, .inl (cJ, 1, .inr (.inl (lA F)))) :: EE))
  refine jj_i2l C0 (hrg) dL_hedge_8 ?_
  refine jj_last C0 (q0 := (8 + (3 * n + 0))) (t0 := 1) (f := F) ((wH_ee rfl)) rfl (k := 0) (by omega) (by omega) (by decide) (ws' := wH ha cA hA nA ed cI cJ cZ td pr up dn dv r8_1 sd mc n mo (sh + x) y (va_up Ca 6 ((Ca 6) - (((1000 * pr) * x) + (y * (if 0 ≤ x then x else -x))))) (va_up Cz 3 ((Cz 3) + ((f_W up dn dv td n K St Ex Am He (va_up Ca 6 ((Ca 6) - (((1000 * pr) * x) + (y * (if 0 ≤ x then x else -x))))) (sh + x) pr) - (f_W up dn dv td n K St Ex Am He Ca sh pr)))) K St Ex Am Bi As BL AL He Co ++ ((o, .inl (cJ, 1, .inr (.inl (lA (va_up F 0 (sh + x)))))) :: EE)) ((wH_es rfl)) dL_hedge_9 ?_
  refine jj_goto C0 (tgt := 17) dL_hedge_10 (by decide) ?_
  refine jj_iconst C0 dL_hedge_17 ?_
  exact jj_iret C0 hr r8_1 (trivial) (rfl) (rfl) (by decide) (by decide) dL_hedge_18
set_option maxHeartbeats 4000000 in
set_option maxRecDepth 100000 in
theorem cw_L_exercise (hl : l.stackTraces = false) {c k L : Nat} {z : Int} (hzk : (z = -1 ∧ k = 6) ∨ (z = (k : Int) ∧ k ≤ 5)) (hL : 1 ≤ L ∧ L ≤ 1000) (hHL : (L : Int) ≤ He (7 * c + k)) (hov : (td : Int) ≤ Ex c) (ham : Am c ≠ 0 ∨ Ex c = (td : Int)) (hcn : c < n) (hsum : f_s7 He c 7 = 0) (hsd : 0 ≤ sd ∧ sd ≤ 2147483647) (hpr : 0 ≤ pr ∧ pr ≤ 20000) (hexs : ∀ c, c < n → Ex c ≤ (td : Int) + 10) (hn : n ≤ 12) (htd : td ≤ 200) (hup : 1 ≤ up ∧ up ≤ 10) (hdn : 1 ≤ dn ∧ dn ≤ 10) (hdv : ∀ j, 0 ≤ dv j ∧ dv j ≤ 1000) (hK : ∀ j, 0 ≤ K j ∧ K j ≤ 1) (hSt : ∀ j, 0 ≤ St j ∧ St j ≤ 20000) (hEx : ∀ j, 0 ≤ Ex j ∧ Ex j ≤ 200) (hAm : ∀ j, 0 ≤ Am j ∧ Am j ≤ 1) (hHe : ∀ j, -1000000 ≤ He j ∧ He j ≤ 1000000) (hsh : -100000 ≤ sh ∧ sh ≤ 100000) (hED0 : 0 < n → f_ED cA n ed cO EE) (hrg : iR (f_pays (K c) (St c) pr)) : jj_Mi (EVL es mi sa) (dC, dI) vwCl [(cI, .int), (cJ, .long), (cZ, .boolean), (cO, .object "java/lang/Object")] l yL_exercise (Cond.codeWith yL_exercise cL_exercise 6 (some .int) [(0, 12, 15, 33), (0, 12, 19, 13), (0, 12, 23, 27)] :: lw_U) ({ frames := 7, cells := 0, slots := 0, locals := 169 } : Room) [.ref (ha 0), .int (iI z), .int (iI (c : Int)), .int (iI (L : Int)), .ref o] (wH ha cA hA nA ed cI cJ cZ td pr up dn dv rw sd mc n mo sh co Ca Cz K St Ex Am Bi As BL AL He Co ++ ((o, .inl (cJ, 1, .inr (.inl (lA F)))) :: EE)) (S := (Nat → Int)) (fun r8 => 0) (fun r8 => True) (fun r8 => wH ha cA hA nA ed cI cJ cZ td pr up dn dv r8 ((f_xN c k (f_pays (K c) (St c) pr) L (He, Ca, sd)).2.2) mc n mo sh co ((f_xN c k (f_pays (K c) (St c) pr) L (He, Ca, sd)).2.1) (va_up Cz 4 ((Cz 4) + ((f_W up dn dv td n K St Ex Am ((f_xN c k (f_pays (K c) (St c) pr) L (He, Ca, sd)).1) ((f_xN c k (f_pays (K c) (St c) pr) L (He, Ca, sd)).2.1) sh pr) - (f_W up dn dv td n K St Ex Am He Ca sh pr)))) K St Ex Am Bi As BL AL ((f_xN c k (f_pays (K c) (St c) pr) L (He, Ca, sd)).1) Co ++ ((o, .inl (cJ, 1, .inr (.inl (lA (va_up F 0 (f_pays (K c) (St c) pr)))))) :: EE)) := by
  refine jj_startW (hh := [(0, 12, 15, 33), (0, 12, 19, 13), (0, 12, 23, 27)]) (cc := cL_exercise) (nL := 6) (ret := (some .int)) (lv := [(0, .ref (ha 0)), (1, .int (iI z)), (2, .int (iI (c : Int))), (3, .int (iI (L : Int))), (4, .ref o)]) (fun A => jj_Qi _ _ _ _ _ _ A) (hEVL es mi sa) (by decide) rfl (Nat.le_of_ble_eq_true rfl) rfl ?_
  intro p9 e9 s9 m9 a9 b9 me9 c9 A9 C1 hr hT
  have C0 : jj_C p9 s9 m9 a9 me9 c9 (dC, dI) vwCl A9 6 cL_exercise "StrikehallLaw" lw_U _ (EVL es mi sa) := jj_toU C1
  have hw := C0.2.2.2.2.1
  have hE := C0.2.2.2.2.2.2.2.1
  have hED : 0 < n → f_ED cA n ed cO ((o, .inl (cJ, 1, .inr (.inl (lA F)))) :: EE) := fun h => f_ED_cons (hED0 h)
  refine jj_aload C0 4 rfl dL_exercise_0 ?_
  refine jj_iconst C0 dL_exercise_2 ?_
  refine jj_aload_n C0 0 rfl dL_exercise_3 ?_
  refine jj_iload_n C0 1 rfl dL_exercise_4 ?_
  refine jj_iload_n C0 2 rfl dL_exercise_5 ?_
  refine jj_iload_n C0 3 rfl dL_exercise_6 ?_
  refine jj_callVi C0 (jj_weaki (fun A U H h => h.1.1) (cc_X3_exercise  (z := z) (c := c) (L := L) (by first | exact hzk | omega) (by first | exact hL | omega) (by first | exact hHL | omega) (by first | exact hov | omega) (by first | exact ham | omega) (by first | exact hcn | omega) (by first | exact hsum | omega) (by first | exact hsd | omega) (by first | exact hpr | omega) (by first | exact hexs | omega) (by first | exact hn | omega) (by first | exact htd | omega) (by first | exact hup | omega) (by first | exact hdn | omega) (by first | exact hdv | omega) (by first | exact hK | omega) (by first | exact hSt | omega) (by first | exact hEx | omega) (by first | exact hAm | omega) (by first | exact hHe | omega) (by first | exact hsh | omega) hED)) (cwV 3 hw (lw_gV hU_650 hU_651 hU_652 hU_60 hU_653) rfl rfl rfl (by decide +kernel) ⟨Nat.le_of_ble_eq_true rfl, Nat.le_of_ble_eq_true rfl⟩) (ci := 4) (q0 := 0) rfl (rfl) rfl rfl (Nat.le_of_ble_eq_true rfl) ⟨by decide, by decide⟩ rfl rfl dL_exercise_7 ?_
  intro r8_1 hu
  show jj_W _ _ _ _ _ _ _ _ _ _ _ _ _ _ _ _ _ 10 _ [.int (iI (f_pays (K c) (St c) pr)), .int (iI 0), .ref o] (wH ha cA hA nA ed cI cJ cZ td pr up dn dv r8_1 ((f_xN c k (f_pays (K c) (St c) pr) L (He, Ca, sd)).2.2) mc n mo sh co ((f_xN c k (f_pays (K c) (St c) pr) L (He, Ca, sd)).2.1) (va_up Cz 4 ((Cz 4) + ((f_W up dn dv td n K St Ex Am ((f_xN c k (f_pays (K c) (St c) pr) L (He, Ca, sd)).1) ((f_xN c k (f_pays (K c) (St c) pr) L (He, Ca, sd)).2.1) sh pr) - (f_W up dn dv td n K St Ex Am He Ca sh pr)))) K St Ex Am Bi As BL AL ((f_xN c k (f_pays (K c) (St c) pr) L (He, Ca, sd)).1) Co ++ ((o, .inl (cJ, 1, .inr (.inl (lA F)))) :: EE))
  refine jj_i2l C0 (hrg) dL_exercise_10 ?_
  refine jj_last C0 (q0 := (8 + (3 * n + 0))) (t0 := 1) (f := F) ((wH_ee rfl)) rfl (k := 0) (by omega) (by omega) (by decide) (ws' := wH ha cA hA nA ed cI cJ cZ td pr up dn dv r8_1 ((f_xN c k (f_pays (K c) (St c) pr) L (He, Ca, sd)).2.2) mc n mo sh co ((f_xN c k (f_pays (K c) (St c) pr) L (He, Ca, sd)).2.1) (va_up Cz 4 ((Cz 4) + ((f_W up dn dv td n K St Ex Am ((f_xN c k (f_pays (K c) (St c) pr) L (He, Ca, sd)).1) ((f_xN c k (f_pays (K c) (St c) pr) L (He, Ca, sd)).2.1) sh pr) - (f_W up dn dv td n K St Ex Am He Ca sh pr)))) K St Ex Am Bi As BL AL ((f_xN c k (f_pays (K c) (St c) pr) L (He, Ca, sd)).1) Co ++ ((o, .inl (cJ, 1, .inr (.inl (lA (va_up F 0 (f_pays (K c) (St c) pr)))))) :: EE)) ((wH_es rfl)) dL_exercise_11 ?_
  refine jj_goto C0 (tgt := 27) dL_exercise_12 (by decide) ?_
  refine jj_iconst C0 dL_exercise_27 ?_
  exact jj_iret C0 hr r8_1 (trivial) (rfl) (rfl) (by decide) (by decide) dL_exercise_28
set_option maxHeartbeats 4000000 in
set_option maxRecDepth 100000 in
theorem cw_L_mark (hl : l.stackTraces = false) {c : Nat} (hcn : c < n) (hpr : 0 ≤ pr ∧ pr ≤ 20000) (hexs : ∀ c, c < n → Ex c ≤ (td : Int) + 10) (hn : n ≤ 12) (htd : td ≤ 200) (hup : 1 ≤ up ∧ up ≤ 10) (hdn : 1 ≤ dn ∧ dn ≤ 10) (hdv : ∀ j, 0 ≤ dv j ∧ dv j ≤ 1000) (hK : ∀ j, 0 ≤ K j ∧ K j ≤ 1) (hSt : ∀ j, 0 ≤ St j ∧ St j ≤ 20000) (hEx : ∀ j, 0 ≤ Ex j ∧ Ex j ≤ 200) (hAm : ∀ j, 0 ≤ Am j ∧ Am j ≤ 1) (hED0 : 0 < n → f_ED cA n ed cO EE) (hrg : iR (f_mark up dn dv td (K c) (St c) (Ex c) (Am c) pr)) : jj_Mi (EVL es mi sa) (dC, dI) vwCl [(cI, .int), (cJ, .long), (cZ, .boolean), (cO, .object "java/lang/Object")] l yL_mark (Cond.codeWith yL_mark cL_mark 4 (some .int) [(0, 9, 12, 33)] :: lw_U) ({ frames := 5, cells := 0, slots := 0, locals := 117 } : Room) [.ref (ha 0), .int (iI (c : Int)), .ref o] (wH ha cA hA nA ed cI cJ cZ td pr up dn dv rw sd mc n mo sh co Ca Cz K St Ex Am Bi As BL AL He Co ++ ((o, .inl (cJ, 1, .inr (.inl (lA F)))) :: EE)) (S := (Nat → Int)) (fun r8 => 0) (fun r8 => True) (fun r8 => wH ha cA hA nA ed cI cJ cZ td pr up dn dv r8 sd mc n mo sh co Ca Cz K St Ex Am Bi As BL AL He Co ++ ((o, .inl (cJ, 1, .inr (.inl (lA (va_up F 0 (f_mark up dn dv td (K c) (St c) (Ex c) (Am c) pr)))))) :: EE)) := by
  refine jj_startW (hh := [(0, 9, 12, 33)]) (cc := cL_mark) (nL := 4) (ret := (some .int)) (lv := [(0, .ref (ha 0)), (1, .int (iI (c : Int))), (2, .ref o)]) (fun A => jj_Qi _ _ _ _ _ _ A) (hEVL es mi sa) (by decide) rfl (Nat.le_of_ble_eq_true rfl) rfl ?_
  intro p9 e9 s9 m9 a9 b9 me9 c9 A9 C1 hr hT
  have C0 : jj_C p9 s9 m9 a9 me9 c9 (dC, dI) vwCl A9 4 cL_mark "StrikehallLaw" lw_U _ (EVL es mi sa) := jj_toU C1
  have hw := C0.2.2.2.2.1
  have hE := C0.2.2.2.2.2.2.2.1
  have hED : 0 < n → f_ED cA n ed cO ((o, .inl (cJ, 1, .inr (.inl (lA F)))) :: EE) := fun h => f_ED_cons (hED0 h)
  refine jj_aload_n C0 2 rfl dL_mark_0 ?_
  refine jj_iconst C0 dL_mark_1 ?_
  refine jj_aload_n C0 0 rfl dL_mark_2 ?_
  refine jj_iload_n C0 1 rfl dL_mark_3 ?_
  refine jj_callVi C0 (jj_weaki (fun A U H h => h.1.1) (cc_X3_mark  (c := c) (by first | exact hcn | omega) (by first | exact hpr | omega) (by first | exact hexs | omega) (by first | exact hn | omega) (by first | exact htd | omega) (by first | exact hup | omega) (by first | exact hdn | omega) (by first | exact hdv | omega) (by first | exact hK | omega) (by first | exact hSt | omega) (by first | exact hEx | omega) (by first | exact hAm | omega) hED)) (cwV 1 hw (lw_gV hU_726 hU_727 hU_728 hU_60 hU_729) rfl rfl rfl (by decide +kernel) ⟨Nat.le_of_ble_eq_true rfl, Nat.le_of_ble_eq_true rfl⟩) (ci := 4) (q0 := 0) rfl (rfl) rfl rfl (Nat.le_of_ble_eq_true rfl) ⟨by decide, by decide⟩ rfl rfl dL_mark_4 ?_
  intro r8_1 hu
  show jj_W _ _ _ _ _ _ _ _ _ _ _ _ _ _ _ _ _ 7 _ [.int (iI (f_mark up dn dv td (K c) (St c) (Ex c) (Am c) pr)), .int (iI 0), .ref o] (wH ha cA hA nA ed cI cJ cZ td pr up dn dv r8_1 sd mc n mo sh co Ca Cz K St Ex Am Bi As BL AL He Co ++ ((o, .inl (cJ, 1, .inr (.inl (lA F)))) :: EE))
  refine jj_i2l C0 (hrg) dL_mark_7 ?_
  refine jj_last C0 (q0 := (8 + (3 * n + 0))) (t0 := 1) (f := F) ((wH_ee rfl)) rfl (k := 0) (by omega) (by omega) (by decide) (ws' := wH ha cA hA nA ed cI cJ cZ td pr up dn dv r8_1 sd mc n mo sh co Ca Cz K St Ex Am Bi As BL AL He Co ++ ((o, .inl (cJ, 1, .inr (.inl (lA (va_up F 0 (f_mark up dn dv td (K c) (St c) (Ex c) (Am c) pr)))))) :: EE)) ((wH_es rfl)) dL_mark_8 ?_
  refine jj_goto C0 (tgt := 15) dL_mark_9 (by decide) ?_
  refine jj_iconst C0 dL_mark_15 ?_
  exact jj_iret C0 hr r8_1 (trivial) (rfl) (rfl) (by decide) (by decide) dL_mark_16
set_option maxHeartbeats 4000000 in
set_option maxRecDepth 100000 in
theorem cw_L_markByWays (hl : l.stackTraces = false) {c : Nat} (hcn : c < n) (hpr : 0 ≤ pr ∧ pr ≤ 20000) (hexs : ∀ c, c < n → Ex c ≤ (td : Int) + 10) (hn : n ≤ 12) (htd : td ≤ 200) (hup : 1 ≤ up ∧ up ≤ 10) (hdn : 1 ≤ dn ∧ dn ≤ 10) (hdv : ∀ j, 0 ≤ dv j ∧ dv j ≤ 1000) (hK : ∀ j, 0 ≤ K j ∧ K j ≤ 1) (hSt : ∀ j, 0 ≤ St j ∧ St j ≤ 20000) (hEx : ∀ j, 0 ≤ Ex j ∧ Ex j ≤ 200) (hAm : ∀ j, 0 ≤ Am j ∧ Am j ≤ 1) (hED0 : 0 < n → f_ED cA n ed cO EE) (hrg : iR (f_mark up dn dv td (K c) (St c) (Ex c) (Am c) pr)) : jj_Mi (EVL es mi sa) (dC, dI) vwCl [(cI, .int), (cJ, .long), (cZ, .boolean), (cO, .object "java/lang/Object")] l yL_markByWays (Cond.codeWith yL_markByWays cL_markByWays 4 (some .int) [(0, 9, 12, 33)] :: lw_U) ({ frames := 14, cells := 0, slots := 0, locals := 355 } : Room) [.ref (ha 0), .int (iI (c : Int)), .ref o] (wH ha cA hA nA ed cI cJ cZ td pr up dn dv rw sd mc n mo sh co Ca Cz K St Ex Am Bi As BL AL He Co ++ ((o, .inl (cJ, 1, .inr (.inl (lA F)))) :: EE)) (S := Unit) (fun _ => 0) (fun _ => True) (fun _ => wH ha cA hA nA ed cI cJ cZ td pr up dn dv rw sd mc n mo sh co Ca Cz K St Ex Am Bi As BL AL He Co ++ ((o, .inl (cJ, 1, .inr (.inl (lA (va_up F 0 (f_mark up dn dv td (K c) (St c) (Ex c) (Am c) pr)))))) :: EE)) := by
  refine jj_startW (hh := [(0, 9, 12, 33)]) (cc := cL_markByWays) (nL := 4) (ret := (some .int)) (lv := [(0, .ref (ha 0)), (1, .int (iI (c : Int))), (2, .ref o)]) (fun A => jj_Qi _ _ _ _ _ _ A) (hEVL es mi sa) (by decide) rfl (Nat.le_of_ble_eq_true rfl) rfl ?_
  intro p9 e9 s9 m9 a9 b9 me9 c9 A9 C1 hr hT
  have C0 : jj_C p9 s9 m9 a9 me9 c9 (dC, dI) vwCl A9 4 cL_markByWays "StrikehallLaw" lw_U _ (EVL es mi sa) := jj_toU C1
  have hw := C0.2.2.2.2.1
  have hE := C0.2.2.2.2.2.2.2.1
  have hED : 0 < n → f_ED cA n ed cO ((o, .inl (cJ, 1, .inr (.inl (lA F)))) :: EE) := fun h => f_ED_cons (hED0 h)
  refine jj_aload_n C0 2 rfl dL_markByWays_0 ?_
  refine jj_iconst C0 dL_markByWays_1 ?_
  refine jj_aload_n C0 0 rfl dL_markByWays_2 ?_
  refine jj_iload_n C0 1 rfl dL_markByWays_3 ?_
  refine jj_callVi C0 (jj_weaki (fun A U H h => h.1.1) (cc_X3_markByWays  (c := c) (by first | exact hcn | omega) (by first | exact hpr | omega) (by first | exact hexs | omega) (by first | exact hn | omega) (by first | exact htd | omega) (by first | exact hup | omega) (by first | exact hdn | omega) (by first | exact hdv | omega) (by first | exact hK | omega) (by first | exact hSt | omega) (by first | exact hEx | omega) (by first | exact hAm | omega) hED)) (cwV 1 hw (lw_gV hU_733 hU_734 hU_735 hU_60 hU_736) rfl rfl rfl (by decide +kernel) ⟨Nat.le_of_ble_eq_true rfl, Nat.le_of_ble_eq_true rfl⟩) (ci := 4) (q0 := 0) rfl (rfl) rfl rfl (Nat.le_of_ble_eq_true rfl) ⟨by decide, by decide⟩ rfl rfl dL_markByWays_4 ?_
  intro _ hu
  show jj_W _ _ _ _ _ _ _ _ _ _ _ _ _ _ _ _ _ 7 _ [.int (iI (f_mark up dn dv td (K c) (St c) (Ex c) (Am c) pr)), .int (iI 0), .ref o] (wH ha cA hA nA ed cI cJ cZ td pr up dn dv rw sd mc n mo sh co Ca Cz K St Ex Am Bi As BL AL He Co ++ ((o, .inl (cJ, 1, .inr (.inl (lA F)))) :: EE))
  refine jj_i2l C0 (hrg) dL_markByWays_7 ?_
  refine jj_last C0 (q0 := (8 + (3 * n + 0))) (t0 := 1) (f := F) ((wH_ee rfl)) rfl (k := 0) (by omega) (by omega) (by decide) (ws' := wH ha cA hA nA ed cI cJ cZ td pr up dn dv rw sd mc n mo sh co Ca Cz K St Ex Am Bi As BL AL He Co ++ ((o, .inl (cJ, 1, .inr (.inl (lA (va_up F 0 (f_mark up dn dv td (K c) (St c) (Ex c) (Am c) pr)))))) :: EE)) ((wH_es rfl)) dL_markByWays_8 ?_
  refine jj_goto C0 (tgt := 15) dL_markByWays_9 (by decide) ?_
  refine jj_iconst C0 dL_markByWays_15 ?_
  exact jj_iret C0 hr () (trivial) (rfl) (rfl) (by decide) (by decide) dL_markByWays_16
set_option maxHeartbeats 4000000 in
set_option maxRecDepth 100000 in
theorem cw_L_quoted (hl : l.stackTraces = false) {c : Nat} {x : Int} (hx : 0 ≤ x ∧ x ≤ 3) (hcn : c < n) (hn : n ≤ 12) (hED0 : 0 < n → f_ED cA n ed cO EE) (hrg : iR (if x = 0 then Bi c else if x = 1 then As c else if x = 2 then BL c else AL c)) : jj_Mi (EVL es mi sa) (dC, dI) vwCl [(cI, .int), (cJ, .long), (cZ, .boolean), (cO, .object "java/lang/Object")] l yL_quoted (Cond.codeWith yL_quoted cL_quoted 5 (some .int) [(0, 10, 13, 33), (0, 10, 17, 13)] :: lw_U) ({ frames := 5, cells := 0, slots := 0, locals := 108 } : Room) [.ref (ha 0), .int (iI (c : Int)), .int (iI x), .ref o] (wH ha cA hA nA ed cI cJ cZ td pr up dn dv rw sd mc n mo sh co Ca Cz K St Ex Am Bi As BL AL He Co ++ ((o, .inl (cJ, 1, .inr (.inl (lA F)))) :: EE)) (S := Unit) (fun _ => 0) (fun _ => True) (fun _ => wH ha cA hA nA ed cI cJ cZ td pr up dn dv rw sd mc n mo sh co Ca Cz K St Ex Am Bi As BL AL He Co ++ ((o, .inl (cJ, 1, .inr (.inl (lA (va_up F 0 (if x = 0 then Bi c else if x = 1 then As c else if x = 2 then BL c else AL c)))))) :: EE)) := by
  refine jj_startW (hh := [(0, 10, 13, 33), (0, 10, 17, 13)]) (cc := cL_quoted) (nL := 5) (ret := (some .int)) (lv := [(0, .ref (ha 0)), (1, .int (iI (c : Int))), (2, .int (iI x)), (3, .ref o)]) (fun A => jj_Qi _ _ _ _ _ _ A) (hEVL es mi sa) (by decide) rfl (Nat.le_of_ble_eq_true rfl) rfl ?_
  intro p9 e9 s9 m9 a9 b9 me9 c9 A9 C1 hr hT
  have C0 : jj_C p9 s9 m9 a9 me9 c9 (dC, dI) vwCl A9 5 cL_quoted "StrikehallLaw" lw_U _ (EVL es mi sa) := jj_toU C1
  have hw := C0.2.2.2.2.1
  have hE := C0.2.2.2.2.2.2.2.1
  have hED : 0 < n → f_ED cA n ed cO ((o, .inl (cJ, 1, .inr (.inl (lA F)))) :: EE) := fun h => f_ED_cons (hED0 h)
  refine jj_aload_n C0 3 rfl dL_quoted_0 ?_
  refine jj_iconst C0 dL_quoted_1 ?_
  refine jj_aload_n C0 0 rfl dL_quoted_2 ?_
  refine jj_iload_n C0 1 rfl dL_quoted_3 ?_
  refine jj_iload_n C0 2 rfl dL_quoted_4 ?_
  refine jj_callVi C0 (jj_weaki (fun A U H h => h.1.1) (cc_X3_quoted  (c := c) (x := x) (by first | exact hx | omega) (by first | exact hcn | omega) (by first | exact hn | omega) hED)) (cwV 2 hw (lw_gV hU_746 hU_747 hU_748 hU_60 hU_749) rfl rfl rfl (by decide +kernel) ⟨Nat.le_of_ble_eq_true rfl, Nat.le_of_ble_eq_true rfl⟩) (ci := 4) (q0 := 0) rfl (rfl) rfl rfl (Nat.le_of_ble_eq_true rfl) ⟨by decide, by decide⟩ rfl rfl dL_quoted_5 ?_
  intro _ hu
  show jj_W _ _ _ _ _ _ _ _ _ _ _ _ _ _ _ _ _ 8 _ [.int (iI (if x = 0 then Bi c else if x = 1 then As c else if x = 2 then BL c else AL c)), .int (iI 0), .ref o] (wH ha cA hA nA ed cI cJ cZ td pr up dn dv rw sd mc n mo sh co Ca Cz K St Ex Am Bi As BL AL He Co ++ ((o, .inl (cJ, 1, .inr (.inl (lA F)))) :: EE))
  refine jj_i2l C0 (hrg) dL_quoted_8 ?_
  refine jj_last C0 (q0 := (8 + (3 * n + 0))) (t0 := 1) (f := F) ((wH_ee rfl)) rfl (k := 0) (by omega) (by omega) (by decide) (ws' := wH ha cA hA nA ed cI cJ cZ td pr up dn dv rw sd mc n mo sh co Ca Cz K St Ex Am Bi As BL AL He Co ++ ((o, .inl (cJ, 1, .inr (.inl (lA (va_up F 0 (if x = 0 then Bi c else if x = 1 then As c else if x = 2 then BL c else AL c)))))) :: EE)) ((wH_es rfl)) dL_quoted_9 ?_
  refine jj_goto C0 (tgt := 21) dL_quoted_10 (by decide) ?_
  refine jj_iconst C0 dL_quoted_21 ?_
  exact jj_iret C0 hr () (trivial) (rfl) (rfl) (by decide) (by decide) dL_quoted_22
set_option maxHeartbeats 4000000 in
set_option maxRecDepth 100000 in
theorem cw_L_lots (hl : l.stackTraces = false) {c k : Nat} {z : Int} (hzk : (z = -1 ∧ k = 6) ∨ (z = (k : Int) ∧ k ≤ 5)) (hcn : c < n) (hn : n ≤ 12) (hED0 : 0 < n → f_ED cA n ed cO EE) (hrg : iR (He (7 * c + k))) : jj_Mi (EVL es mi sa) (dC, dI) vwCl [(cI, .int), (cJ, .long), (cZ, .boolean), (cO, .object "java/lang/Object")] l yL_lots (Cond.codeWith yL_lots cL_lots 5 (some .int) [(0, 10, 13, 33)] :: lw_U) ({ frames := 5, cells := 0, slots := 0, locals := 108 } : Room) [.ref (ha 0), .int (iI z), .int (iI (c : Int)), .ref o] (wH ha cA hA nA ed cI cJ cZ td pr up dn dv rw sd mc n mo sh co Ca Cz K St Ex Am Bi As BL AL He Co ++ ((o, .inl (cJ, 1, .inr (.inl (lA F)))) :: EE)) (S := Unit) (fun _ => 0) (fun _ => True) (fun _ => wH ha cA hA nA ed cI cJ cZ td pr up dn dv rw sd mc n mo sh co Ca Cz K St Ex Am Bi As BL AL He Co ++ ((o, .inl (cJ, 1, .inr (.inl (lA (va_up F 0 (He (7 * c + k))))))) :: EE)) := by
  refine jj_startW (hh := [(0, 10, 13, 33)]) (cc := cL_lots) (nL := 5) (ret := (some .int)) (lv := [(0, .ref (ha 0)), (1, .int (iI z)), (2, .int (iI (c : Int))), (3, .ref o)]) (fun A => jj_Qi _ _ _ _ _ _ A) (hEVL es mi sa) (by decide) rfl (Nat.le_of_ble_eq_true rfl) rfl ?_
  intro p9 e9 s9 m9 a9 b9 me9 c9 A9 C1 hr hT
  have C0 : jj_C p9 s9 m9 a9 me9 c9 (dC, dI) vwCl A9 5 cL_lots "StrikehallLaw" lw_U _ (EVL es mi sa) := jj_toU C1
  have hw := C0.2.2.2.2.1
  have hE := C0.2.2.2.2.2.2.2.1
  have hED : 0 < n → f_ED cA n ed cO ((o, .inl (cJ, 1, .inr (.inl (lA F)))) :: EE) := fun h => f_ED_cons (hED0 h)
  refine jj_aload_n C0 3 rfl dL_lots_0 ?_
  refine jj_iconst C0 dL_lots_1 ?_
  refine jj_aload_n C0 0 rfl dL_lots_2 ?_
  refine jj_iload_n C0 1 rfl dL_lots_3 ?_
  refine jj_iload_n C0 2 rfl dL_lots_4 ?_
  refine jj_callVi C0 (jj_weaki (fun A U H h => h.1.1) (cc_X3_lots  (z := z) (c := c) (by first | exact hzk | omega) (by first | exact hcn | omega) (by first | exact hn | omega) hED)) (cwV 2 hw (lw_gV hU_754 hU_755 hU_756 hU_60 hU_757) rfl rfl rfl (by decide +kernel) ⟨Nat.le_of_ble_eq_true rfl, Nat.le_of_ble_eq_true rfl⟩) (ci := 4) (q0 := 0) rfl (rfl) rfl rfl (Nat.le_of_ble_eq_true rfl) ⟨by decide, by decide⟩ rfl rfl dL_lots_5 ?_
  intro _ hu
  show jj_W _ _ _ _ _ _ _ _ _ _ _ _ _ _ _ _ _ 8 _ [.int (iI (He (7 * c + k))), .int (iI 0), .ref o] (wH ha cA hA nA ed cI cJ cZ td pr up dn dv rw sd mc n mo sh co Ca Cz K St Ex Am Bi As BL AL He Co ++ ((o, .inl (cJ, 1, .inr (.inl (lA F)))) :: EE))
  refine jj_i2l C0 (hrg) dL_lots_8 ?_
  refine jj_last C0 (q0 := (8 + (3 * n + 0))) (t0 := 1) (f := F) ((wH_ee rfl)) rfl (k := 0) (by omega) (by omega) (by decide) (ws' := wH ha cA hA nA ed cI cJ cZ td pr up dn dv rw sd mc n mo sh co Ca Cz K St Ex Am Bi As BL AL He Co ++ ((o, .inl (cJ, 1, .inr (.inl (lA (va_up F 0 (He (7 * c + k))))))) :: EE)) ((wH_es rfl)) dL_lots_9 ?_
  refine jj_goto C0 (tgt := 17) dL_lots_10 (by decide) ?_
  refine jj_iconst C0 dL_lots_17 ?_
  exact jj_iret C0 hr () (trivial) (rfl) (rfl) (by decide) (by decide) dL_lots_18
set_option maxHeartbeats 4000000 in
set_option maxRecDepth 100000 in
theorem cw_L_quote (hl : l.stackTraces = false) {c : Nat} {x y z : Int} (hx : 0 ≤ x ∧ x ≤ 20000) (hy : 0 ≤ y ∧ y ≤ 20000) (hz : 0 ≤ z ∧ z ≤ 100) (hov : (td : Int) ≤ Ex c) (hcn : c < n) (hn : n ≤ 12) (htd : td ≤ 200) (hK : ∀ j, 0 ≤ K j ∧ K j ≤ 1) (hSt : ∀ j, 0 ≤ St j ∧ St j ≤ 20000) (hEx : ∀ j, 0 ≤ Ex j ∧ Ex j ≤ 200) (hAm : ∀ j, 0 ≤ Am j ∧ Am j ≤ 1) (hBi : ∀ j, 0 ≤ Bi j ∧ Bi j ≤ 20000) (hAs : ∀ j, 0 ≤ As j ∧ As j ≤ 20000) (hBL : ∀ j, 0 ≤ BL j ∧ BL j ≤ 100) (hAL : ∀ j, 0 ≤ AL j ∧ AL j ≤ 100) (hED0 : 0 < n → f_ED cA n ed cO EE) : jj_Mi (EVL es mi sa) (dC, dI) vwCl [(cI, .int), (cJ, .long), (cZ, .boolean), (cO, .object "java/lang/Object")] l yL_quote (Cond.codeWith yL_quote cL_quote 7 (some .int) [(0, 14, 17, 33), (0, 14, 21, 13), (0, 14, 25, 27)] :: lw_U) ({ frames := 7, cells := 0, slots := 0, locals := 154 } : Room) [.ref (ha 0), .int (iI (c : Int)), .int (iI x), .int (iI y), .int (iI z), .ref o] (wH ha cA hA nA ed cI cJ cZ td pr up dn dv rw sd mc n mo sh co Ca Cz K St Ex Am Bi As BL AL He Co ++ ((o, .inl (cJ, 1, .inr (.inl (lA F)))) :: EE)) (S := Int) (fun u => 0) (fun u => (u = 1 ∧ (∃ a, a < n ∧ ((0 < (va_up BL c z) a ∧ 0 < (va_up AL c z) a) ∧ (va_up As c (if 0 < z then y else 0)) a ≤ (va_up Bi c (if 0 < z then x else 0)) a))) ∨ (u = 2 ∧ ¬ (∃ a, a < n ∧ ((0 < (va_up BL c z) a ∧ 0 < (va_up AL c z) a) ∧ (va_up As c (if 0 < z then y else 0)) a ≤ (va_up Bi c (if 0 < z then x else 0)) a)) ∧ (∃ a b, a < n ∧ b < n ∧ (((0 < (va_up BL c z) a ∧ 0 < (va_up AL c z) a) ∧ (0 < (va_up BL c z) b ∧ 0 < (va_up AL c z) b) ∧ St a < St b ∧ K a = K b ∧ Ex a = Ex b ∧ Am a = Am b) ∧ ((K a = 0 ∧ (va_up As c (if 0 < z then y else 0)) a < (va_up Bi c (if 0 < z then x else 0)) b) ∨ (K a ≠ 0 ∧ (va_up As c (if 0 < z then y else 0)) b < (va_up Bi c (if 0 < z then x else 0)) a))))) ∨ (u = 3 ∧ ¬ (∃ a, a < n ∧ ((0 < (va_up BL c z) a ∧ 0 < (va_up AL c z) a) ∧ (va_up As c (if 0 < z then y else 0)) a ≤ (va_up Bi c (if 0 < z then x else 0)) a)) ∧ ¬ (∃ a b, a < n ∧ b < n ∧ (((0 < (va_up BL c z) a ∧ 0 < (va_up AL c z) a) ∧ (0 < (va_up BL c z) b ∧ 0 < (va_up AL c z) b) ∧ St a < St b ∧ K a = K b ∧ Ex a = Ex b ∧ Am a = Am b) ∧ ((K a = 0 ∧ (va_up As c (if 0 < z then y else 0)) a < (va_up Bi c (if 0 < z then x else 0)) b) ∨ (K a ≠ 0 ∧ (va_up As c (if 0 < z then y else 0)) b < (va_up Bi c (if 0 < z then x else 0)) a)))) ∧ (∃ a b, a < n ∧ b < n ∧ ∃ d, d < n ∧ (((0 < (va_up BL c z) a ∧ 0 < (va_up AL c z) a) ∧ (0 < (va_up BL c z) b ∧ 0 < (va_up AL c z) b) ∧ St a < St b ∧ K a = K b ∧ Ex a = Ex b ∧ Am a = Am b) ∧ ((0 < (va_up BL c z) b ∧ 0 < (va_up AL c z) b) ∧ (0 < (va_up BL c z) d ∧ 0 < (va_up AL c z) d) ∧ St b < St d ∧ K b = K d ∧ Ex b = Ex d ∧ Am b = Am d) ∧ St b - St a = St d - St b ∧ (va_up As c (if 0 < z then y else 0)) a + (va_up As c (if 0 < z then y else 0)) d < 2 * (va_up Bi c (if 0 < z then x else 0)) b))) ∨ (u = 4 ∧ ¬ (∃ a, a < n ∧ ((0 < (va_up BL c z) a ∧ 0 < (va_up AL c z) a) ∧ (va_up As c (if 0 < z then y else 0)) a ≤ (va_up Bi c (if 0 < z then x else 0)) a)) ∧ ¬ (∃ a b, a < n ∧ b < n ∧ (((0 < (va_up BL c z) a ∧ 0 < (va_up AL c z) a) ∧ (0 < (va_up BL c z) b ∧ 0 < (va_up AL c z) b) ∧ St a < St b ∧ K a = K b ∧ Ex a = Ex b ∧ Am a = Am b) ∧ ((K a = 0 ∧ (va_up As c (if 0 < z then y else 0)) a < (va_up Bi c (if 0 < z then x else 0)) b) ∨ (K a ≠ 0 ∧ (va_up As c (if 0 < z then y else 0)) b < (va_up Bi c (if 0 < z then x else 0)) a)))) ∧ ¬ (∃ a b, a < n ∧ b < n ∧ ∃ d, d < n ∧ (((0 < (va_up BL c z) a ∧ 0 < (va_up AL c z) a) ∧ (0 < (va_up BL c z) b ∧ 0 < (va_up AL c z) b) ∧ St a < St b ∧ K a = K b ∧ Ex a = Ex b ∧ Am a = Am b) ∧ ((0 < (va_up BL c z) b ∧ 0 < (va_up AL c z) b) ∧ (0 < (va_up BL c z) d ∧ 0 < (va_up AL c z) d) ∧ St b < St d ∧ K b = K d ∧ Ex b = Ex d ∧ Am b = Am d) ∧ St b - St a = St d - St b ∧ (va_up As c (if 0 < z then y else 0)) a + (va_up As c (if 0 < z then y else 0)) d < 2 * (va_up Bi c (if 0 < z then x else 0)) b)) ∧ (∃ a b, a < n ∧ b < n ∧ ((0 < (va_up BL c z) a ∧ 0 < (va_up AL c z) a) ∧ (0 < (va_up BL c z) b ∧ 0 < (va_up AL c z) b) ∧ Ex a < Ex b ∧ Am a ≠ 0 ∧ Am b ≠ 0 ∧ K a = K b ∧ St a = St b ∧ (va_up As c (if 0 < z then y else 0)) b < (va_up Bi c (if 0 < z then x else 0)) a))) ∨ (u = 0 ∧ ¬ (∃ a, a < n ∧ ((0 < (va_up BL c z) a ∧ 0 < (va_up AL c z) a) ∧ (va_up As c (if 0 < z then y else 0)) a ≤ (va_up Bi c (if 0 < z then x else 0)) a)) ∧ ¬ (∃ a b, a < n ∧ b < n ∧ (((0 < (va_up BL c z) a ∧ 0 < (va_up AL c z) a) ∧ (0 < (va_up BL c z) b ∧ 0 < (va_up AL c z) b) ∧ St a < St b ∧ K a = K b ∧ Ex a = Ex b ∧ Am a = Am b) ∧ ((K a = 0 ∧ (va_up As c (if 0 < z then y else 0)) a < (va_up Bi c (if 0 < z then x else 0)) b) ∨ (K a ≠ 0 ∧ (va_up As c (if 0 < z then y else 0)) b < (va_up Bi c (if 0 < z then x else 0)) a)))) ∧ ¬ (∃ a b, a < n ∧ b < n ∧ ∃ d, d < n ∧ (((0 < (va_up BL c z) a ∧ 0 < (va_up AL c z) a) ∧ (0 < (va_up BL c z) b ∧ 0 < (va_up AL c z) b) ∧ St a < St b ∧ K a = K b ∧ Ex a = Ex b ∧ Am a = Am b) ∧ ((0 < (va_up BL c z) b ∧ 0 < (va_up AL c z) b) ∧ (0 < (va_up BL c z) d ∧ 0 < (va_up AL c z) d) ∧ St b < St d ∧ K b = K d ∧ Ex b = Ex d ∧ Am b = Am d) ∧ St b - St a = St d - St b ∧ (va_up As c (if 0 < z then y else 0)) a + (va_up As c (if 0 < z then y else 0)) d < 2 * (va_up Bi c (if 0 < z then x else 0)) b)) ∧ ¬ (∃ a b, a < n ∧ b < n ∧ ((0 < (va_up BL c z) a ∧ 0 < (va_up AL c z) a) ∧ (0 < (va_up BL c z) b ∧ 0 < (va_up AL c z) b) ∧ Ex a < Ex b ∧ Am a ≠ 0 ∧ Am b ≠ 0 ∧ K a = K b ∧ St a = St b ∧ (va_up As c (if 0 < z then y else 0)) b < (va_up Bi c (if 0 < z then x else 0)) a)))) (fun u => wH ha cA hA nA ed cI cJ cZ td pr up dn dv rw sd mc n mo sh co Ca Cz K St Ex Am (va_up Bi c (if 0 < z then x else 0)) (va_up As c (if 0 < z then y else 0)) (va_up BL c z) (va_up AL c z) He Co ++ ((o, .inl (cJ, 1, .inr (.inl (lA (va_up F 0 u))))) :: EE)) := by
  refine jj_startW (hh := [(0, 14, 17, 33), (0, 14, 21, 13), (0, 14, 25, 27)]) (cc := cL_quote) (nL := 7) (ret := (some .int)) (lv := [(0, .ref (ha 0)), (1, .int (iI (c : Int))), (2, .int (iI x)), (3, .int (iI y)), (4, .int (iI z)), (5, .ref o)]) (fun A => jj_Qi _ _ _ _ _ _ A) (hEVL es mi sa) (by decide) rfl (Nat.le_of_ble_eq_true rfl) rfl ?_
  intro p9 e9 s9 m9 a9 b9 me9 c9 A9 C1 hr hT
  have C0 : jj_C p9 s9 m9 a9 me9 c9 (dC, dI) vwCl A9 7 cL_quote "StrikehallLaw" lw_U _ (EVL es mi sa) := jj_toU C1
  have hw := C0.2.2.2.2.1
  have hE := C0.2.2.2.2.2.2.2.1
  have hED : 0 < n → f_ED cA n ed cO ((o, .inl (cJ, 1, .inr (.inl (lA F)))) :: EE) := fun h => f_ED_cons (hED0 h)
  refine jj_aload C0 5 rfl dL_quote_0 ?_
  refine jj_iconst C0 dL_quote_2 ?_
  refine jj_aload_n C0 0 rfl dL_quote_3 ?_
  refine jj_iload_n C0 1 rfl dL_quote_4 ?_
  refine jj_iload_n C0 2 rfl dL_quote_5 ?_
  refine jj_iload_n C0 3 rfl dL_quote_6 ?_
  refine jj_iload C0 4 rfl dL_quote_7 ?_
  refine jj_callVi C0 (jj_weaki (fun A U H h => h.1.1) (cc_X3_quote  (c := c) (x := x) (y := y) (z := z) (by first | exact hx | omega) (by first | exact hy | omega) (by first | exact hz | omega) (by first | exact hov | omega) (by first | exact hcn | omega) (by first | exact hn | omega) hED (by first | exact htd | omega) (by first | exact hK | omega) (by first | exact hSt | omega) (by first | exact hEx | omega) (by first | exact hAm | omega) (by first | exact hBi | omega) (by first | exact hAs | omega) (by first | exact hBL | omega) (by first | exact hAL | omega))) (cwV 4 hw (lw_gV hU_550 hU_551 hU_552 hU_60 hU_553) rfl rfl rfl (by decide +kernel) ⟨Nat.le_of_ble_eq_true rfl, Nat.le_of_ble_eq_true rfl⟩) (ci := 4) (q0 := 0) rfl (rfl) rfl rfl (Nat.le_of_ble_eq_true rfl) ⟨by decide, by decide⟩ rfl rfl dL_quote_9 ?_
  intro u_1 hu
  have hu_9 : (u_1 = 1 ∧ (∃ a, a < n ∧ ((0 < (va_up BL c z) a ∧ 0 < (va_up AL c z) a) ∧ (va_up As c (if 0 < z then y else 0)) a ≤ (va_up Bi c (if 0 < z then x else 0)) a))) ∨ (u_1 = 2 ∧ ¬ (∃ a, a < n ∧ ((0 < (va_up BL c z) a ∧ 0 < (va_up AL c z) a) ∧ (va_up As c (if 0 < z then y else 0)) a ≤ (va_up Bi c (if 0 < z then x else 0)) a)) ∧ (∃ a b, a < n ∧ b < n ∧ (((0 < (va_up BL c z) a ∧ 0 < (va_up AL c z) a) ∧ (0 < (va_up BL c z) b ∧ 0 < (va_up AL c z) b) ∧ St a < St b ∧ K a = K b ∧ Ex a = Ex b ∧ Am a = Am b) ∧ ((K a = 0 ∧ (va_up As c (if 0 < z then y else 0)) a < (va_up Bi c (if 0 < z then x else 0)) b) ∨ (K a ≠ 0 ∧ (va_up As c (if 0 < z then y else 0)) b < (va_up Bi c (if 0 < z then x else 0)) a))))) ∨ (u_1 = 3 ∧ ¬ (∃ a, a < n ∧ ((0 < (va_up BL c z) a ∧ 0 < (va_up AL c z) a) ∧ (va_up As c (if 0 < z then y else 0)) a ≤ (va_up Bi c (if 0 < z then x else 0)) a)) ∧ ¬ (∃ a b, a < n ∧ b < n ∧ (((0 < (va_up BL c z) a ∧ 0 < (va_up AL c z) a) ∧ (0 < (va_up BL c z) b ∧ 0 < (va_up AL c z) b) ∧ St a < St b ∧ K a = K b ∧ Ex a = Ex b ∧ Am a = Am b) ∧ ((K a = 0 ∧ (va_up As c (if 0 < z then y else 0)) a < (va_up Bi c (if 0 < z then x else 0)) b) ∨ (K a ≠ 0 ∧ (va_up As c (if 0 < z then y else 0)) b < (va_up Bi c (if 0 < z then x else 0)) a)))) ∧ (∃ a b, a < n ∧ b < n ∧ ∃ d, d < n ∧ (((0 < (va_up BL c z) a ∧ 0 < (va_up AL c z) a) ∧ (0 < (va_up BL c z) b ∧ 0 < (va_up AL c z) b) ∧ St a < St b ∧ K a = K b ∧ Ex a = Ex b ∧ Am a = Am b) ∧ ((0 < (va_up BL c z) b ∧ 0 < (va_up AL c z) b) ∧ (0 < (va_up BL c z) d ∧ 0 < (va_up AL c z) d) ∧ St b < St d ∧ K b = K d ∧ Ex b = Ex d ∧ Am b = Am d) ∧ St b - St a = St d - St b ∧ (va_up As c (if 0 < z then y else 0)) a + (va_up As c (if 0 < z then y else 0)) d < 2 * (va_up Bi c (if 0 < z then x else 0)) b))) ∨ (u_1 = 4 ∧ ¬ (∃ a, a < n ∧ ((0 < (va_up BL c z) a ∧ 0 < (va_up AL c z) a) ∧ (va_up As c (if 0 < z then y else 0)) a ≤ (va_up Bi c (if 0 < z then x else 0)) a)) ∧ ¬ (∃ a b, a < n ∧ b < n ∧ (((0 < (va_up BL c z) a ∧ 0 < (va_up AL c z) a) ∧ (0 < (va_up BL c z) b ∧ 0 < (va_up AL c z) b) ∧ St a < St b ∧ K a = K b ∧ Ex a = Ex b ∧ Am a = Am b) ∧ ((K a = 0 ∧ (va_up As c (if 0 < z then y else 0)) a < (va_up Bi c (if 0 < z then x else 0)) b) ∨ (K a ≠ 0 ∧ (va_up As c (if 0 < z then y else 0)) b < (va_up Bi c (if 0 < z then x else 0)) a)))) ∧ ¬ (∃ a b, a < n ∧ b < n ∧ ∃ d, d < n ∧ (((0 < (va_up BL c z) a ∧ 0 < (va_up AL c z) a) ∧ (0 < (va_up BL c z) b ∧ 0 < (va_up AL c z) b) ∧ St a < St b ∧ K a = K b ∧ Ex a = Ex b ∧ Am a = Am b) ∧ ((0 < (va_up BL c z) b ∧ 0 < (va_up AL c z) b) ∧ (0 < (va_up BL c z) d ∧ 0 < (va_up AL c z) d) ∧ St b < St d ∧ K b = K d ∧ Ex b = Ex d ∧ Am b = Am d) ∧ St b - St a = St d - St b ∧ (va_up As c (if 0 < z then y else 0)) a + (va_up As c (if 0 < z then y else 0)) d < 2 * (va_up Bi c (if 0 < z then x else 0)) b)) ∧ (∃ a b, a < n ∧ b < n ∧ ((0 < (va_up BL c z) a ∧ 0 < (va_up AL c z) a) ∧ (0 < (va_up BL c z) b ∧ 0 < (va_up AL c z) b) ∧ Ex a < Ex b ∧ Am a ≠ 0 ∧ Am b ≠ 0 ∧ K a = K b ∧ St a = St b ∧ (va_up As c (if 0 < z then y else 0)) b < (va_up Bi c (if 0 < z then x else 0)) a))) ∨ (u_1 = 0 ∧ ¬ (∃ a, a < n ∧ ((0 < (va_up BL c z) a ∧ 0 < (va_up AL c z) a) ∧ (va_up As c (if 0 < z then y else 0)) a ≤ (va_up Bi c (if 0 < z then x else 0)) a)) ∧ ¬ (∃ a b, a < n ∧ b < n ∧ (((0 < (va_up BL c z) a ∧ 0 < (va_up AL c z) a) ∧ (0 < (va_up BL c z) b ∧ 0 < (va_up AL c z) b) ∧ St a < St b ∧ K a = K b ∧ Ex a = Ex b ∧ Am a = Am b) ∧ ((K a = 0 ∧ (va_up As c (if 0 < z then y else 0)) a < (va_up Bi c (if 0 < z then x else 0)) b) ∨ (K a ≠ 0 ∧ (va_up As c (if 0 < z then y else 0)) b < (va_up Bi c (if 0 < z then x else 0)) a)))) ∧ ¬ (∃ a b, a < n ∧ b < n ∧ ∃ d, d < n ∧ (((0 < (va_up BL c z) a ∧ 0 < (va_up AL c z) a) ∧ (0 < (va_up BL c z) b ∧ 0 < (va_up AL c z) b) ∧ St a < St b ∧ K a = K b ∧ Ex a = Ex b ∧ Am a = Am b) ∧ ((0 < (va_up BL c z) b ∧ 0 < (va_up AL c z) b) ∧ (0 < (va_up BL c z) d ∧ 0 < (va_up AL c z) d) ∧ St b < St d ∧ K b = K d ∧ Ex b = Ex d ∧ Am b = Am d) ∧ St b - St a = St d - St b ∧ (va_up As c (if 0 < z then y else 0)) a + (va_up As c (if 0 < z then y else 0)) d < 2 * (va_up Bi c (if 0 < z then x else 0)) b)) ∧ ¬ (∃ a b, a < n ∧ b < n ∧ ((0 < (va_up BL c z) a ∧ 0 < (va_up AL c z) a) ∧ (0 < (va_up BL c z) b ∧ 0 < (va_up AL c z) b) ∧ Ex a < Ex b ∧ Am a ≠ 0 ∧ Am b ≠ 0 ∧ K a = K b ∧ St a = St b ∧ (va_up As c (if 0 < z then y else 0)) b < (va_up Bi c (if 0 < z then x else 0)) a))) := hu
  show jj_W _ _ _ _ _ _ _ _ _ _ _ _ _ _ _ _ _ 12 _ [.int (iI u_1), .int (iI 0), .ref o] (wH ha cA hA nA ed cI cJ cZ td pr up dn dv rw sd mc n mo sh co Ca Cz K St Ex Am (va_up Bi c (if 0 < z then x else 0)) (va_up As c (if 0 < z then y else 0)) (va_up BL c z) (va_up AL c z) He Co ++ ((o, .inl (cJ, 1, .inr (.inl (lA F)))) :: EE))
  have hub : 0 ≤ u_1 ∧ u_1 ≤ 4 := by rcases hu_9 with ⟨h, -⟩ | ⟨h, -⟩ | ⟨h, -⟩ | ⟨h, -⟩ | ⟨h, -⟩ <;> omega
  refine jj_i2l C0 (by omega) dL_quote_12 ?_
  refine jj_last C0 (q0 := (8 + (3 * n + 0))) (t0 := 1) (f := F) ((wH_ee rfl)) rfl (k := 0) (by omega) (by omega) (by decide) (ws' := wH ha cA hA nA ed cI cJ cZ td pr up dn dv rw sd mc n mo sh co Ca Cz K St Ex Am (va_up Bi c (if 0 < z then x else 0)) (va_up As c (if 0 < z then y else 0)) (va_up BL c z) (va_up AL c z) He Co ++ ((o, .inl (cJ, 1, .inr (.inl (lA (va_up F 0 u_1))))) :: EE)) ((wH_es rfl)) dL_quote_13 ?_
  refine jj_goto C0 (tgt := 29) dL_quote_14 (by decide) ?_
  refine jj_iconst C0 dL_quote_29 ?_
  exact jj_iret C0 hr u_1 (by exact hu_9) (rfl) (rfl) (by decide) (by decide) dL_quote_30
set_option maxHeartbeats 4000000 in
set_option maxRecDepth 100000 in
theorem cw_L_contrary (hl : l.stackTraces = false) {c k : Nat} {v : Int} (hk : k ≤ 5) (hv : v = 0 ∨ v = 1) (hov : (td : Int) ≤ Ex c) (hcn : c < n) (hn : n ≤ 12) (hCo : ∀ j, 0 ≤ Co j ∧ Co j ≤ 1) (htd : td ≤ 200) (hEx : ∀ j, 0 ≤ Ex j ∧ Ex j ≤ 200) (hED0 : 0 < n → f_ED cA n ed cO EE) : jj_Mi (EVL es mi sa) (dC, dI) vwCl [(cI, .int), (cJ, .long), (cZ, .boolean), (cO, .object "java/lang/Object")] l yL_contrary (Cond.codeWith yL_contrary cL_contrary 6 (some .int) [(0, 19, 22, 33), (0, 19, 26, 27)] :: lw_U) ({ frames := 5, cells := 0, slots := 0, locals := 109 } : Room) [.ref (ha 0), .int (iI (k : Int)), .int (iI (c : Int)), .int (iI v), .ref o] (wH ha cA hA nA ed cI cJ cZ td pr up dn dv rw sd mc n mo sh co Ca Cz K St Ex Am Bi As BL AL He Co ++ ((o, .inl (cJ, 1, .inr (.inl (lA F)))) :: EE)) (S := Unit) (fun _ => 0) (fun _ => True) (fun _ => wH ha cA hA nA ed cI cJ cZ td pr up dn dv rw sd mc n mo sh co Ca Cz K St Ex Am Bi As BL AL He (va_up Co (7 * c + k) v) ++ ((o, .inl (cJ, 1, .inr (.inl (lA (va_up F 0 (if Co (7 * c + k) = v then 0 else 1)))))) :: EE)) := by
  refine jj_startW (hh := [(0, 19, 22, 33), (0, 19, 26, 27)]) (cc := cL_contrary) (nL := 6) (ret := (some .int)) (lv := [(0, .ref (ha 0)), (1, .int (iI (k : Int))), (2, .int (iI (c : Int))), (3, .int (iI v)), (4, .ref o)]) (fun A => jj_Qi _ _ _ _ _ _ A) (hEVL es mi sa) (by decide) rfl (Nat.le_of_ble_eq_true rfl) rfl ?_
  intro p9 e9 s9 m9 a9 b9 me9 c9 A9 C1 hr hT
  have C0 : jj_C p9 s9 m9 a9 me9 c9 (dC, dI) vwCl A9 6 cL_contrary "StrikehallLaw" lw_U _ (EVL es mi sa) := jj_toU C1
  have hw := C0.2.2.2.2.1
  have hE := C0.2.2.2.2.2.2.2.1
  have hED : 0 < n → f_ED cA n ed cO ((o, .inl (cJ, 1, .inr (.inl (lA F)))) :: EE) := fun h => f_ED_cons (hED0 h)
  refine jj_aload C0 4 rfl dL_contrary_0 ?_
  refine jj_iconst C0 dL_contrary_2 ?_
  refine jj_aload_n C0 0 rfl dL_contrary_3 ?_
  refine jj_iload_n C0 1 rfl dL_contrary_4 ?_
  refine jj_iload_n C0 2 rfl dL_contrary_5 ?_
  refine jj_iload_n C0 3 rfl dL_contrary_6 ?_
  refine jj_callVi C0 (jj_weaki (fun A U H h => h.1.1) (cc_X3_contrary  (k := k) (c := c) (v := v) (by first | exact hk | omega) (by first | exact hv | omega) (by first | exact hov | omega) (by first | exact hcn | omega) (by first | exact hn | omega) hED (by first | exact hCo | omega) (by first | exact htd | omega) (by first | exact hEx | omega))) (cwV 3 hw (lw_gV hU_683 hU_684 hU_685 hU_60 hU_686) rfl rfl rfl (by decide +kernel) ⟨Nat.le_of_ble_eq_true rfl, Nat.le_of_ble_eq_true rfl⟩) (ci := 4) (q0 := 0) rfl (rfl) rfl rfl (Nat.le_of_ble_eq_true rfl) ⟨by decide, by decide⟩ rfl rfl dL_contrary_7 ?_
  intro _ hu
  show jj_W _ _ _ _ _ _ _ _ _ _ _ _ _ _ _ _ _ 10 _ [.int (iI (if Co (7 * c + k) = v then 0 else 1)), .int (iI 0), .ref o] (wH ha cA hA nA ed cI cJ cZ td pr up dn dv rw sd mc n mo sh co Ca Cz K St Ex Am Bi As BL AL He (va_up Co (7 * c + k) v) ++ ((o, .inl (cJ, 1, .inr (.inl (lA F)))) :: EE))
  refine jj_if_eq C0 (by split <;> omega) dL_contrary_10 (tgt := 17) (by decide) (fun c_1 => ?_) (fun c_1 => ?_)
  · have hv9 : ((if Co (7 * c + k) = v then 0 else 1) : Int) = 0 := c_1
    refine jj_lconst C0 (z := 0) (by decide) dL_contrary_17 ?_
    refine jj_topl (b := (if Co (7 * c + k) = v then 0 else 1)) (hv9.symm) ?_
    refine jj_last C0 (q0 := (8 + (3 * n + 0))) (t0 := 1) (f := F) ((wH_ee rfl)) rfl (k := 0) (by omega) (by omega) (by decide) (ws' := wH ha cA hA nA ed cI cJ cZ td pr up dn dv rw sd mc n mo sh co Ca Cz K St Ex Am Bi As BL AL He (va_up Co (7 * c + k) v) ++ ((o, .inl (cJ, 1, .inr (.inl (lA (va_up F 0 (if Co (7 * c + k) = v then 0 else 1)))))) :: EE)) ((wH_es rfl)) dL_contrary_18 ?_
    refine jj_goto C0 (tgt := 30) dL_contrary_19 (by decide) ?_
    refine jj_iconst C0 dL_contrary_30 ?_
    exact jj_iret C0 hr () (trivial) (rfl) (rfl) (by decide) (by decide) dL_contrary_31
  · have hv9 : ((if Co (7 * c + k) = v then 0 else 1) : Int) = 1 := by split at c_1 <;> simp_all
    refine jj_lconst C0 (z := 1) (by decide) dL_contrary_13 ?_
    refine jj_goto C0 (tgt := 18) dL_contrary_14 (by decide) ?_
    refine jj_topl (b := (if Co (7 * c + k) = v then 0 else 1)) (hv9.symm) ?_
    refine jj_last C0 (q0 := (8 + (3 * n + 0))) (t0 := 1) (f := F) ((wH_ee rfl)) rfl (k := 0) (by omega) (by omega) (by decide) (ws' := wH ha cA hA nA ed cI cJ cZ td pr up dn dv rw sd mc n mo sh co Ca Cz K St Ex Am Bi As BL AL He (va_up Co (7 * c + k) v) ++ ((o, .inl (cJ, 1, .inr (.inl (lA (va_up F 0 (if Co (7 * c + k) = v then 0 else 1)))))) :: EE)) ((wH_es rfl)) dL_contrary_18 ?_
    refine jj_goto C0 (tgt := 30) dL_contrary_19 (by decide) ?_
    refine jj_iconst C0 dL_contrary_30 ?_
    exact jj_iret C0 hr () (trivial) (rfl) (rfl) (by decide) (by decide) dL_contrary_31
end CC16
