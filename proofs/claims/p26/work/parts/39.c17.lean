section CC17
variable {es mi cap : Nat} {sa : Nat → Nat} {fe : Nat → Option Nat} {EF : va_W} {l : Launch} {dC : Nat → ClassId} {dI : Nat → Nat → Nat} {cI cJ cZ cO : ClassId} {EE ws : va_W} {ha cA hA nA : Nat → Nat} {ed : Nat} {td : Nat} {pr up dn : Int} {dv rw : Nat → Int} {sd mc : Int} {n : Nat} {mo sh co : Int} {Ca Cz K St Ex Am Bi As BL AL He Co : Nat → Int}
set_option maxHeartbeats 4000000 in
set_option maxRecDepth 100000 in
theorem cw_L_contract (hl : l.stackTraces = false) {k y ex am : Int} (hk : k = 0 ∨ k = 1) (hy : 0 ≤ y ∧ y ≤ 20000) (hex : (td : Int) ≤ ex ∧ ex ≤ (td : Int) + 10 ∧ ex ≤ 200) (ham : am = 0 ∨ am = 1) (hn : n < 12) (htd : td ≤ 200) (hcap : n ≤ cap ∧ cap ≤ 1000) (hfe : ∀ j, j < n → fe j = some (cA j)) (hz : Bi n = 0 ∧ As n = 0 ∧ BL n = 0 ∧ AL n = 0 ∧ (∀ j, j < 7 → He (7 * n + j) = 0) ∧ (∀ j, j < 7 → Co (7 * n + j) = 0)) : jj_Mi (EVL es mi sa) (dC, dI) vwCl [(cI, .int), (cJ, .long), (cZ, .boolean), (cO, .object "java/lang/Object")] l yL_contract (Cond.codeWith yL_contract cL_contract 7 (some .int) [(0, 11, 14, 14), (0, 11, 19, 31)] :: lw_U) ({ frames := 8, cells := 7, slots := 78, locals := 256 } : Room) [.ref (ha 0), .int (iI k), .int (iI y), .int (iI ex), .int (iI am)] (wH ha cA hA nA ed cI cJ cZ td pr up dn dv rw sd mc n mo sh co Ca Cz K St Ex Am Bi As BL AL He Co ++ ((ed, .inl (cO, cap, .inr (.inr (.inr (.inr fe))))) :: EF)) (S := Nat × Nat × Nat × Nat × Nat × (Nat → Option Nat) × va_W) (fun ⟨q1, q2, q3, e2, cp, f2, G⟩ => (n : Int)) (fun ⟨q1, q2, q3, e2, cp, f2, G⟩ => n + 1 ≤ cp ∧ cp ≤ 1000 ∧ ∀ j, j < n + 1 → f2 j = some (va_up cA n q1 j)) (fun ⟨q1, q2, q3, e2, cp, f2, G⟩ => wH ha (va_up cA n q1) (va_up hA n q2) (va_up nA n q3) e2 cI cJ cZ td pr up dn dv rw sd (mc + 1) (n + 1) mo sh co Ca Cz (va_up K n k) (va_up St n y) (va_up Ex n ex) (va_up Am n am) Bi As BL AL He Co ++ ((e2, .inl (cO, cp, .inr (.inr (.inr (.inr f2))))) :: (G ++ EF))) := by
  refine jj_startW (hh := [(0, 11, 14, 14), (0, 11, 19, 31)]) (cc := cL_contract) (nL := 7) (ret := (some .int)) (lv := [(0, .ref (ha 0)), (1, .int (iI k)), (2, .int (iI y)), (3, .int (iI ex)), (4, .int (iI am))]) (fun A => jj_Qi _ _ _ _ _ _ A) (hEVL es mi sa) (by decide) rfl (Nat.le_of_ble_eq_true rfl) rfl ?_
  intro p9 e9 s9 m9 a9 b9 me9 c9 A9 C1 hr hT
  have C0 : jj_C p9 s9 m9 a9 me9 c9 (dC, dI) vwCl A9 7 cL_contract "StrikehallLaw" lw_U _ (EVL es mi sa) := jj_toU C1
  have hw := C0.2.2.2.2.1
  have hE := C0.2.2.2.2.2.2.2.1
  refine jj_aload_n C0 0 rfl dL_contract_0 ?_
  refine jj_iload_n C0 1 rfl dL_contract_1 ?_
  refine jj_iload_n C0 2 rfl dL_contract_2 ?_
  refine jj_iload_n C0 3 rfl dL_contract_3 ?_
  refine jj_iload C0 4 rfl dL_contract_4 ?_
  refine jj_callVi C0 (jj_weaki (fun A U H h => h.2.1) (cc_X3_contract (EF := EF) hk hy hex ham hn htd hcap hfe hz)) (cwV 4 hw (lw_gV hU_354 hU_355 hU_356 hU_43 hU_357) rfl rfl rfl (by decide +kernel) ⟨Nat.le_of_ble_eq_true rfl, Nat.le_of_ble_eq_true rfl⟩) (ci := 4) (q0 := 0) rfl (rfl) rfl rfl (Nat.le_of_ble_eq_true rfl) ⟨by decide, by decide⟩ rfl rfl dL_contract_6 ?_
  intro u hu
  obtain ⟨q1, q2, q3, e2, cp, f2, G⟩ := u
  have hu_c : n + 1 ≤ cp ∧ cp ≤ 1000 ∧ ∀ j, j < n + 1 → f2 j = some (va_up cA n q1 j) := hu
  show jj_W _ _ _ _ _ _ _ _ _ _ _ _ _ _ _ _ _ 9 _ [.int (iI (n : Int))] (wH ha (va_up cA n q1) (va_up hA n q2) (va_up nA n q3) e2 cI cJ cZ td pr up dn dv rw sd (mc + 1) (n + 1) mo sh co Ca Cz (va_up K n k) (va_up St n y) (va_up Ex n ex) (va_up Am n am) Bi As BL AL He Co ++ ((e2, .inl (cO, cp, .inr (.inr (.inr (.inr f2))))) :: (G ++ EF)))
  refine jj_istore C0 (lv' := [(5, .int (iI (n : Int))), (0, .ref (ha 0)), (1, .int (iI k)), (2, .int (iI y)), (3, .int (iI ex)), (4, .int (iI am))]) (by decide) rfl dL_contract_9 ?_
  refine jj_goto C0 (tgt := 24) dL_contract_11 (by decide) ?_
  refine jj_iload C0 0 rfl dL_contract_24 ?_
  exact jj_iret C0 hr (q1, q2, q3, e2, cp, f2, G) (by exact hu_c) (rfl) (rfl) (by decide) (by decide) dL_contract_26
end CC17
