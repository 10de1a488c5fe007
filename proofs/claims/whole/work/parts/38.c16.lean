section CC16
variable {es mi o cap : Nat} {sa : Nat → Nat} {fe : Nat → Option Nat} {F : Nat → Int} {EF : va_W} {l : Launch} {dC : Nat → ClassId} {dI : Nat → Nat → Nat} {cI cJ cZ cO : ClassId} {EE ws : va_W} {ha cA hA nA : Nat → Nat} {ed : Nat} {td : Nat} {pr up dn : Int} {dv rw : Nat → Int} {sd mc : Int} {n : Nat} {mo sh co : Int} {Ca Cz K St Ex Am Bi As BL AL He Co : Nat → Int}
set_option maxHeartbeats 4000000 in
set_option maxRecDepth 100000 in
theorem cr_L_steps (hl : l.stackTraces = false) {x y : Int} (hbad : ¬ (1 ≤ x ∧ x ≤ 10 ∧ 1 ≤ y ∧ y ≤ 10)) (hrx : iR x) (hry : iR y) (hcap : n ≤ cap ∧ cap ≤ 1000) (hfe : ∀ j, j < n → fe j = some (cA j)) : jj_Mi (EVL es mi sa) (dC, dI) vwCl [(cI, .int), (cJ, .long), (cZ, .boolean), (cO, .object "java/lang/Object")] l yL_steps (Cond.codeWith yL_steps cL_steps 4 (some .int) [(0, 6, 9, 13)] :: lw_U) ({ frames := 8, cells := 1, slots := 6, locals := 146 } : Room) [.ref (ha 0), .int (iI x), .int (iI y)] (wH ha cA hA nA ed cI cJ cZ td pr up dn dv rw sd mc n mo sh co Ca Cz K St Ex Am Bi As BL AL He Co ++ ((ed, .inl (cO, cap, .inr (.inr (.inr (.inr fe))))) :: (o, .inl (cJ, 1, .inr (.inl (lA F)))) :: EF)) (S := Unit) (fun _ => 1) (fun _ => True) (fun _ => wH ha cA hA nA ed cI cJ cZ td pr up dn dv rw sd mc n mo sh co Ca Cz K St Ex Am Bi As BL AL He Co ++ ((ed, .inl (cO, cap, .inr (.inr (.inr (.inr fe))))) :: (o, .inl (cJ, 1, .inr (.inl (lA F)))) :: EF)) := by
  refine jj_startW (hh := [(0, 6, 9, 13)]) (cc := cL_steps) (nL := 4) (ret := (some .int)) (lv := [(0, .ref (ha 0)), (1, .int (iI x)), (2, .int (iI y))]) (fun A => jj_Qi _ _ _ _ _ _ A) (hEVL es mi sa) (by decide) rfl (Nat.le_of_ble_eq_true rfl) rfl ?_
  intro p9 e9 s9 m9 a9 b9 me9 c9 A9 C1 hr hT
  have C0 : jj_C p9 s9 m9 a9 me9 c9 (dC, dI) vwCl A9 4 cL_steps "StrikehallLaw" lw_U _ (EVL es mi sa) := jj_toU C1
  have hw := C0.2.2.2.2.1
  have hE := C0.2.2.2.2.2.2.2.1
  have hED : 0 < n → f_ED cA n ed cO ((ed, .inl (cO, cap, .inr (.inr (.inr (.inr fe))))) :: (o, .inl (cJ, 1, .inr (.inl (lA F)))) :: EF) := fun _ => ⟨0, cap, fe, rfl, hcap.1, hcap.2, hfe⟩
  refine jj_aload_n C0 0 rfl dL_steps_0 ?_
  refine jj_iload_n C0 1 rfl dL_steps_1 ?_
  refine jj_iload_n C0 2 rfl dL_steps_2 ?_
  refine jj_tryV C0 hT (jj_weakX (fun A U H h => h.1) (cx_X3_steps hl (by first | exact hbad | omega) (by first | exact hrx | omega) (by first | exact hry | omega))) (cwV 2 hw (lw_gV hU_331 hU_332 hU_333 hU_61 hU_334) rfl rfl rfl (by decide +kernel) ⟨Nat.le_of_ble_eq_true rfl, Nat.le_of_ble_eq_true rfl⟩) (ci := 4) (q0 := 0) rfl (rfl) rfl rfl (Nat.le_of_ble_eq_true rfl) ⟨by decide, by decide⟩ rfl rfl dL_steps_3 [] ⟨0, 6, 9, 13⟩ [] rfl (fun z hz => absurd hz List.not_mem_nil) (by decide) (by decide) (hw _ hU_330) (va_Nw.use rfl (hE.1.2.2.1 (.castable "java/lang/IllegalArgumentException" "java/lang/IllegalArgumentException") (by decide +kernel))) (hpc := 9) rfl ?_
  intro q9
  refine jj_astore_n C0 (i := 3) rfl (lv' := [(3, .ref q9), (0, .ref (ha 0)), (1, .int (iI x)), (2, .int (iI y))]) (by decide) rfl dL_steps_9 ?_
  refine jj_iconst C0 dL_steps_10 ?_
  exact jj_iret C0 hr () (trivial) (rfl) (rfl) (by decide) (by decide) dL_steps_11
set_option maxHeartbeats 4000000 in
set_option maxRecDepth 100000 in
theorem cr_L_quote_S (hl : l.stackTraces = false) {c : Nat} {x y z : Int} (hbad : Ex c < (td : Int)) (hrq : 0 ≤ x ∧ x ≤ 20000 ∧ 0 ≤ y ∧ y ≤ 20000 ∧ 0 ≤ z ∧ z ≤ 100) (hcn : c < n) (hn : n ≤ 12) (hEx : ∀ j, 0 ≤ Ex j ∧ Ex j ≤ 200) (htd : td ≤ 200) (hcap : n ≤ cap ∧ cap ≤ 1000) (hfe : ∀ j, j < n → fe j = some (cA j)) : jj_Mi (EVL es mi sa) (dC, dI) vwCl [(cI, .int), (cJ, .long), (cZ, .boolean), (cO, .object "java/lang/Object")] l yL_quote (Cond.codeWith yL_quote cL_quote 7 (some .int) [(0, 14, 17, 33), (0, 14, 21, 13), (0, 14, 25, 27)] :: lw_U) ({ frames := 8, cells := 1, slots := 6, locals := 146 } : Room) [.ref (ha 0), .int (iI (c : Int)), .int (iI x), .int (iI y), .int (iI z), .ref o] (wH ha cA hA nA ed cI cJ cZ td pr up dn dv rw sd mc n mo sh co Ca Cz K St Ex Am Bi As BL AL He Co ++ ((ed, .inl (cO, cap, .inr (.inr (.inr (.inr fe))))) :: (o, .inl (cJ, 1, .inr (.inl (lA F)))) :: EF)) (S := Unit) (fun _ => 3) (fun _ => True) (fun _ => wH ha cA hA nA ed cI cJ cZ td pr up dn dv rw sd mc n mo sh co Ca Cz K St Ex Am Bi As BL AL He Co ++ ((ed, .inl (cO, cap, .inr (.inr (.inr (.inr fe))))) :: (o, .inl (cJ, 1, .inr (.inl (lA F)))) :: EF)) := by
  refine jj_startW (hh := [(0, 14, 17, 33), (0, 14, 21, 13), (0, 14, 25, 27)]) (cc := cL_quote) (nL := 7) (ret := (some .int)) (lv := [(0, .ref (ha 0)), (1, .int (iI (c : Int))), (2, .int (iI x)), (3, .int (iI y)), (4, .int (iI z)), (5, .ref o)]) (fun A => jj_Qi _ _ _ _ _ _ A) (hEVL es mi sa) (by decide) rfl (Nat.le_of_ble_eq_true rfl) rfl ?_
  intro p9 e9 s9 m9 a9 b9 me9 c9 A9 C1 hr hT
  have C0 : jj_C p9 s9 m9 a9 me9 c9 (dC, dI) vwCl A9 7 cL_quote "StrikehallLaw" lw_U _ (EVL es mi sa) := jj_toU C1
  have hw := C0.2.2.2.2.1
  have hE := C0.2.2.2.2.2.2.2.1
  have hED : 0 < n → f_ED cA n ed cO ((ed, .inl (cO, cap, .inr (.inr (.inr (.inr fe))))) :: (o, .inl (cJ, 1, .inr (.inl (lA F)))) :: EF) := fun _ => ⟨0, cap, fe, rfl, hcap.1, hcap.2, hfe⟩
  refine jj_aload C0 5 rfl dL_quote_0 ?_
  refine jj_iconst C0 dL_quote_2 ?_
  refine jj_aload_n C0 0 rfl dL_quote_3 ?_
  refine jj_iload_n C0 1 rfl dL_quote_4 ?_
  refine jj_iload_n C0 2 rfl dL_quote_5 ?_
  refine jj_iload_n C0 3 rfl dL_quote_6 ?_
  refine jj_iload C0 4 rfl dL_quote_7 ?_
  refine jj_tryV C0 hT (jj_weakX (fun A U H h => h.1) (cx_X3_quote_S hl (by first | exact hbad | omega) (by first | exact hrq | omega) (by first | exact hcn | omega) (by first | exact hn | omega) (by first | exact hED | omega) (by first | exact hEx | omega) (by first | exact htd | omega))) (cwV 4 hw (lw_gV hU_556 hU_557 hU_558 hU_61 hU_559) rfl rfl rfl (by decide +kernel) ⟨Nat.le_of_ble_eq_true rfl, Nat.le_of_ble_eq_true rfl⟩) (ci := 4) (q0 := 0) rfl (rfl) rfl rfl (Nat.le_of_ble_eq_true rfl) ⟨by decide, by decide⟩ rfl rfl dL_quote_9 [⟨0, 14, 17, 33⟩, ⟨0, 14, 21, 13⟩] ⟨0, 14, 25, 27⟩ [] rfl (List.forall_mem_cons.mpr ⟨Or.inr ⟨by decide, _, hw _ hU_555, hE.2.2.2.1⟩, List.forall_mem_cons.mpr ⟨Or.inr ⟨by decide, _, hw _ hU_330, hE.2.2.2.2⟩, fun z hz => absurd hz List.not_mem_nil⟩⟩) (by decide) (by decide) (hw _ hU_432) (va_Nw.use rfl (hE.1.2.2.1 (.castable "java/lang/IllegalStateException" "java/lang/IllegalStateException") (by decide +kernel))) (hpc := 25) rfl ?_
  intro q9
  refine jj_astore C0 (lv' := [(6, .ref q9), (0, .ref (ha 0)), (1, .int (iI (c : Int))), (2, .int (iI x)), (3, .int (iI y)), (4, .int (iI z)), (5, .ref o)]) (by decide) rfl dL_quote_25 ?_
  refine jj_iconst C0 dL_quote_27 ?_
  exact jj_iret C0 hr () (trivial) (rfl) (rfl) (by decide) (by decide) dL_quote_28
set_option maxHeartbeats 4000000 in
set_option maxRecDepth 100000 in
theorem cw_L_steps (hl : l.stackTraces = false) {x y : Int} (hx : 1 ≤ x ∧ x ≤ 10) (hy : 1 ≤ y ∧ y ≤ 10) (hpr : 0 ≤ pr ∧ pr ≤ 20000) (hexs : ∀ c, c < n → Ex c ≤ (td : Int) + 10) (hn : n ≤ 12) (htd : td ≤ 200) (hup : 1 ≤ up ∧ up ≤ 10) (hdn : 1 ≤ dn ∧ dn ≤ 10) (hdv : ∀ j, 0 ≤ dv j ∧ dv j ≤ 1000) (hK : ∀ j, 0 ≤ K j ∧ K j ≤ 1) (hSt : ∀ j, 0 ≤ St j ∧ St j ≤ 20000) (hEx : ∀ j, 0 ≤ Ex j ∧ Ex j ≤ 200) (hAm : ∀ j, 0 ≤ Am j ∧ Am j ≤ 1) (hHe : ∀ j, -1000000 ≤ He j ∧ He j ≤ 1000000) (hsh : -100000 ≤ sh ∧ sh ≤ 100000) (hcap : n ≤ cap ∧ cap ≤ 1000) (hfe : ∀ j, j < n → fe j = some (cA j)) : jj_Mi (EVL es mi sa) (dC, dI) vwCl [(cI, .int), (cJ, .long), (cZ, .boolean), (cO, .object "java/lang/Object")] l yL_steps (Cond.codeWith yL_steps cL_steps 4 (some .int) [(0, 6, 9, 13)] :: lw_U) ({ frames := 7, cells := 0, slots := 0, locals := 166 } : Room) [.ref (ha 0), .int (iI x), .int (iI y)] (wH ha cA hA nA ed cI cJ cZ td pr up dn dv rw sd mc n mo sh co Ca Cz K St Ex Am Bi As BL AL He Co ++ ((ed, .inl (cO, cap, .inr (.inr (.inr (.inr fe))))) :: (o, .inl (cJ, 1, .inr (.inl (lA F)))) :: EF)) (S := (Nat → Int)) (fun r8 => 0) (fun r8 => True) (fun r8 => wH ha cA hA nA ed cI cJ cZ td pr x y dv r8 sd mc n mo sh co Ca (va_up Cz 5 ((Cz 5) + ((f_W x y dv td n K St Ex Am He Ca sh pr) - (f_W up dn dv td n K St Ex Am He Ca sh pr)))) K St Ex Am Bi As BL AL He Co ++ ((ed, .inl (cO, cap, .inr (.inr (.inr (.inr fe))))) :: (o, .inl (cJ, 1, .inr (.inl (lA F)))) :: EF)) := by
  refine jj_startW (hh := [(0, 6, 9, 13)]) (cc := cL_steps) (nL := 4) (ret := (some .int)) (lv := [(0, .ref (ha 0)), (1, .int (iI x)), (2, .int (iI y))]) (fun A => jj_Qi _ _ _ _ _ _ A) (hEVL es mi sa) (by decide) rfl (Nat.le_of_ble_eq_true rfl) rfl ?_
  intro p9 e9 s9 m9 a9 b9 me9 c9 A9 C1 hr hT
  have C0 : jj_C p9 s9 m9 a9 me9 c9 (dC, dI) vwCl A9 4 cL_steps "StrikehallLaw" lw_U _ (EVL es mi sa) := jj_toU C1
  have hw := C0.2.2.2.2.1
  have hE := C0.2.2.2.2.2.2.2.1
  have hED : 0 < n → f_ED cA n ed cO ((ed, .inl (cO, cap, .inr (.inr (.inr (.inr fe))))) :: (o, .inl (cJ, 1, .inr (.inl (lA F)))) :: EF) := fun _ => ⟨0, cap, fe, rfl, hcap.1, hcap.2, hfe⟩
  refine jj_aload_n C0 0 rfl dL_steps_0 ?_
  refine jj_iload_n C0 1 rfl dL_steps_1 ?_
  refine jj_iload_n C0 2 rfl dL_steps_2 ?_
  refine jj_callVv C0 (jj_weakv (fun A U H h => h.1.1) (cc_X3_steps  (x := x) (y := y) (by first | exact hx | omega) (by first | exact hy | omega) (by first | exact hpr | omega) (by first | exact hexs | omega) (by first | exact hn | omega) (by first | exact htd | omega) (by first | exact hup | omega) (by first | exact hdn | omega) (by first | exact hdv | omega) (by first | exact hK | omega) (by first | exact hSt | omega) (by first | exact hEx | omega) (by first | exact hAm | omega) (by first | exact hHe | omega) (by first | exact hsh | omega) hED)) (cwV 2 hw (lw_gV hU_331 hU_332 hU_333 hU_61 hU_334) rfl rfl rfl (by decide +kernel) ⟨Nat.le_of_ble_eq_true rfl, Nat.le_of_ble_eq_true rfl⟩) (ci := 4) (q0 := 0) rfl (rfl) rfl rfl (Nat.le_of_ble_eq_true rfl) ⟨by decide, by decide⟩ rfl rfl dL_steps_3 ?_
  intro r8_1 hu
  show jj_W _ _ _ _ _ _ _ _ _ _ _ _ _ _ _ _ _ 6 _ [] (wH ha cA hA nA ed cI cJ cZ td pr x y dv r8_1 sd mc n mo sh co Ca (va_up Cz 5 ((Cz 5) + ((f_W x y dv td n K St Ex Am He Ca sh pr) - (f_W up dn dv td n K St Ex Am He Ca sh pr)))) K St Ex Am Bi As BL AL He Co ++ ((ed, .inl (cO, cap, .inr (.inr (.inr (.inr fe))))) :: (o, .inl (cJ, 1, .inr (.inl (lA F)))) :: EF))
  refine jj_goto C0 (tgt := 12) dL_steps_6 (by decide) ?_
  refine jj_iconst C0 dL_steps_12 ?_
  exact jj_iret C0 hr r8_1 (trivial) (rfl) (rfl) (by decide) (by decide) dL_steps_13
set_option maxHeartbeats 4000000 in
set_option maxRecDepth 100000 in
theorem cw_L_move (hl : l.stackTraces = false) {x : Int} (hx : 0 ≤ x ∧ x ≤ 20000) (hpr : 0 ≤ pr ∧ pr ≤ 20000) (hexs : ∀ c, c < n → Ex c ≤ (td : Int) + 10) (hn : n ≤ 12) (htd : td ≤ 200) (hup : 1 ≤ up ∧ up ≤ 10) (hdn : 1 ≤ dn ∧ dn ≤ 10) (hdv : ∀ j, 0 ≤ dv j ∧ dv j ≤ 1000) (hK : ∀ j, 0 ≤ K j ∧ K j ≤ 1) (hSt : ∀ j, 0 ≤ St j ∧ St j ≤ 20000) (hEx : ∀ j, 0 ≤ Ex j ∧ Ex j ≤ 200) (hAm : ∀ j, 0 ≤ Am j ∧ Am j ≤ 1) (hHe : ∀ j, -1000000 ≤ He j ∧ He j ≤ 1000000) (hsh : -100000 ≤ sh ∧ sh ≤ 100000) (hcap : n ≤ cap ∧ cap ≤ 1000) (hfe : ∀ j, j < n → fe j = some (cA j)) : jj_Mi (EVL es mi sa) (dC, dI) vwCl [(cI, .int), (cJ, .long), (cZ, .boolean), (cO, .object "java/lang/Object")] l yL_move (Cond.codeWith yL_move cL_move 4 (some .int) [(0, 8, 11, 13)] :: lw_U) ({ frames := 7, cells := 0, slots := 0, locals := 167 } : Room) [.ref (ha 0), .int (iI x), .ref o] (wH ha cA hA nA ed cI cJ cZ td pr up dn dv rw sd mc n mo sh co Ca Cz K St Ex Am Bi As BL AL He Co ++ ((ed, .inl (cO, cap, .inr (.inr (.inr (.inr fe))))) :: (o, .inl (cJ, 1, .inr (.inl (lA F)))) :: EF)) (S := (Nat → Int)) (fun r8 => 0) (fun r8 => True) (fun r8 => wH ha cA hA nA ed cI cJ cZ td x up dn dv r8 sd mc n mo sh co Ca (va_up Cz 1 ((Cz 1) + ((f_W up dn dv td n K St Ex Am He Ca sh x) - (f_W up dn dv td n K St Ex Am He Ca sh pr)))) K St Ex Am Bi As BL AL He Co ++ ((ed, .inl (cO, cap, .inr (.inr (.inr (.inr fe))))) :: (o, .inl (cJ, 1, .inr (.inl (lA (va_up F 0 ((f_W up dn dv td n K St Ex Am He Ca sh x) - (f_W up dn dv td n K St Ex Am He Ca sh pr))))))) :: EF)) := by
  refine jj_startW (hh := [(0, 8, 11, 13)]) (cc := cL_move) (nL := 4) (ret := (some .int)) (lv := [(0, .ref (ha 0)), (1, .int (iI x)), (2, .ref o)]) (fun A => jj_Qi _ _ _ _ _ _ A) (hEVL es mi sa) (by decide) rfl (Nat.le_of_ble_eq_true rfl) rfl ?_
  intro p9 e9 s9 m9 a9 b9 me9 c9 A9 C1 hr hT
  have C0 : jj_C p9 s9 m9 a9 me9 c9 (dC, dI) vwCl A9 4 cL_move "StrikehallLaw" lw_U _ (EVL es mi sa) := jj_toU C1
  have hw := C0.2.2.2.2.1
  have hE := C0.2.2.2.2.2.2.2.1
  have hED : 0 < n → f_ED cA n ed cO ((ed, .inl (cO, cap, .inr (.inr (.inr (.inr fe))))) :: (o, .inl (cJ, 1, .inr (.inl (lA F)))) :: EF) := fun _ => ⟨0, cap, fe, rfl, hcap.1, hcap.2, hfe⟩
  refine jj_aload_n C0 2 rfl dL_move_0 ?_
  refine jj_iconst C0 dL_move_1 ?_
  refine jj_aload_n C0 0 rfl dL_move_2 ?_
  refine jj_iload_n C0 1 rfl dL_move_3 ?_
  refine jj_callVl C0 (jj_weakl (fun A U H h => h.1.1) (cc_X3_move  (x := x) (by first | exact hx | omega) (by first | exact hpr | omega) (by first | exact hexs | omega) (by first | exact hn | omega) (by first | exact htd | omega) (by first | exact hup | omega) (by first | exact hdn | omega) (by first | exact hdv | omega) (by first | exact hK | omega) (by first | exact hSt | omega) (by first | exact hEx | omega) (by first | exact hAm | omega) (by first | exact hHe | omega) (by first | exact hsh | omega) hED)) (cwV 1 hw (lw_gV hU_413 hU_414 hU_415 hU_61 hU_416) rfl rfl rfl (by decide +kernel) ⟨Nat.le_of_ble_eq_true rfl, Nat.le_of_ble_eq_true rfl⟩) (ci := 4) (q0 := 0) rfl (rfl) rfl rfl (Nat.le_of_ble_eq_true rfl) ⟨by decide, by decide⟩ rfl rfl dL_move_4 ?_
  intro r8_1 hu
  show jj_W _ _ _ _ _ _ _ _ _ _ _ _ _ _ _ _ _ 7 _ [.long (lI ((f_W up dn dv td n K St Ex Am He Ca sh x) - (f_W up dn dv td n K St Ex Am He Ca sh pr))), .int (iI 0), .ref o] (wH ha cA hA nA ed cI cJ cZ td x up dn dv r8_1 sd mc n mo sh co Ca (va_up Cz 1 ((Cz 1) + ((f_W up dn dv td n K St Ex Am He Ca sh x) - (f_W up dn dv td n K St Ex Am He Ca sh pr)))) K St Ex Am Bi As BL AL He Co ++ ((ed, .inl (cO, cap, .inr (.inr (.inr (.inr fe))))) :: (o, .inl (cJ, 1, .inr (.inl (lA F)))) :: EF))
  refine jj_last C0 (q0 := (8 + (3 * n + 1))) (t0 := 1) (f := F) ((wH_ee rfl)) rfl (k := 0) (by omega) (by omega) (by decide) (ws' := wH ha cA hA nA ed cI cJ cZ td x up dn dv r8_1 sd mc n mo sh co Ca (va_up Cz 1 ((Cz 1) + ((f_W up dn dv td n K St Ex Am He Ca sh x) - (f_W up dn dv td n K St Ex Am He Ca sh pr)))) K St Ex Am Bi As BL AL He Co ++ ((ed, .inl (cO, cap, .inr (.inr (.inr (.inr fe))))) :: (o, .inl (cJ, 1, .inr (.inl (lA (va_up F 0 ((f_W up dn dv td n K St Ex Am He Ca sh x) - (f_W up dn dv td n K St Ex Am He Ca sh pr))))))) :: EF)) ((wH_es rfl)) dL_move_7 ?_
  refine jj_goto C0 (tgt := 14) dL_move_8 (by decide) ?_
  refine jj_iconst C0 dL_move_14 ?_
  exact jj_iret C0 hr r8_1 (trivial) (rfl) (rfl) (by decide) (by decide) dL_move_15
set_option maxHeartbeats 4000000 in
set_option maxRecDepth 100000 in
theorem cw_L_limit (hl : l.stackTraces = false) {x : Int} (hx : 0 ≤ x ∧ x ≤ 1000) (hcap : n ≤ cap ∧ cap ≤ 1000) (hfe : ∀ j, j < n → fe j = some (cA j)) : jj_Mi (EVL es mi sa) (dC, dI) vwCl [(cI, .int), (cJ, .long), (cZ, .boolean), (cO, .object "java/lang/Object")] l yL_limit (Cond.codeWith yL_limit cL_limit 4 (some .int) [(0, 9, 12, 13)] :: lw_U) ({ frames := 2, cells := 0, slots := 0, locals := 44 } : Room) [.ref (ha 0), .int (iI x), .ref o] (wH ha cA hA nA ed cI cJ cZ td pr up dn dv rw sd mc n mo sh co Ca Cz K St Ex Am Bi As BL AL He Co ++ ((ed, .inl (cO, cap, .inr (.inr (.inr (.inr fe))))) :: (o, .inl (cJ, 1, .inr (.inl (lA F)))) :: EF)) (S := Unit) (fun _ => 0) (fun _ => True) (fun _ => wH ha cA hA nA ed cI cJ cZ td pr up dn dv rw sd mc n x sh co Ca Cz K St Ex Am Bi As BL AL He Co ++ ((ed, .inl (cO, cap, .inr (.inr (.inr (.inr fe))))) :: (o, .inl (cJ, 1, .inr (.inl (lA (va_up F 0 mo))))) :: EF)) := by
  refine jj_startW (hh := [(0, 9, 12, 13)]) (cc := cL_limit) (nL := 4) (ret := (some .int)) (lv := [(0, .ref (ha 0)), (1, .int (iI x)), (2, .ref o)]) (fun A => jj_Qi _ _ _ _ _ _ A) (hEVL es mi sa) (by decide) rfl (Nat.le_of_ble_eq_true rfl) rfl ?_
  intro p9 e9 s9 m9 a9 b9 me9 c9 A9 C1 hr hT
  have C0 : jj_C p9 s9 m9 a9 me9 c9 (dC, dI) vwCl A9 4 cL_limit "StrikehallLaw" lw_U _ (EVL es mi sa) := jj_toU C1
  have hw := C0.2.2.2.2.1
  have hE := C0.2.2.2.2.2.2.2.1
  have hED : 0 < n → f_ED cA n ed cO ((ed, .inl (cO, cap, .inr (.inr (.inr (.inr fe))))) :: (o, .inl (cJ, 1, .inr (.inl (lA F)))) :: EF) := fun _ => ⟨0, cap, fe, rfl, hcap.1, hcap.2, hfe⟩
  refine jj_aload_n C0 2 rfl dL_limit_0 ?_
  refine jj_iconst C0 dL_limit_1 ?_
  refine jj_aload_n C0 0 rfl dL_limit_2 ?_
  refine jj_iload_n C0 1 rfl dL_limit_3 ?_
  refine jj_callVi C0 (jj_weaki (fun A U H h => h.1.1) (cc_X3_limit  (x := x) (by first | exact hx | omega))) (cwV 1 hw (lw_gV hU_589 hU_590 hU_591 hU_61 hU_592) rfl rfl rfl (by decide +kernel) ⟨Nat.le_of_ble_eq_true rfl, Nat.le_of_ble_eq_true rfl⟩) (ci := 4) (q0 := 0) rfl (rfl) rfl rfl (Nat.le_of_ble_eq_true rfl) ⟨by decide, by decide⟩ rfl rfl dL_limit_4 ?_
  intro _ hu
  show jj_W _ _ _ _ _ _ _ _ _ _ _ _ _ _ _ _ _ 7 _ [.int (iI mo), .int (iI 0), .ref o] (wH ha cA hA nA ed cI cJ cZ td pr up dn dv rw sd mc n x sh co Ca Cz K St Ex Am Bi As BL AL He Co ++ ((ed, .inl (cO, cap, .inr (.inr (.inr (.inr fe))))) :: (o, .inl (cJ, 1, .inr (.inl (lA F)))) :: EF))
  refine jj_i2l C0 (by omega) dL_limit_7 ?_
  refine jj_last C0 (q0 := (8 + (3 * n + 1))) (t0 := 1) (f := F) ((wH_ee rfl)) rfl (k := 0) (by omega) (by omega) (by decide) (ws' := wH ha cA hA nA ed cI cJ cZ td pr up dn dv rw sd mc n x sh co Ca Cz K St Ex Am Bi As BL AL He Co ++ ((ed, .inl (cO, cap, .inr (.inr (.inr (.inr fe))))) :: (o, .inl (cJ, 1, .inr (.inl (lA (va_up F 0 mo))))) :: EF)) ((wH_es rfl)) dL_limit_8 ?_
  refine jj_goto C0 (tgt := 15) dL_limit_9 (by decide) ?_
  refine jj_iconst C0 dL_limit_15 ?_
  exact jj_iret C0 hr () (trivial) (rfl) (rfl) (by decide) (by decide) dL_limit_16
end CC16
