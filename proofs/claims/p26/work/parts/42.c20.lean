/-- all that the law asks of the launch -/
def EVW (es mi : Nat) (sa : Nat → Nat) (A : Nat → Prop) (U : State) (H : Heap) : Prop := EVL es mi sa A U H ∧ va_T (.object "java/lang/Object") es 0 (fun _ => .null) A U H
theorem hEVW (es mi : Nat) (sa : Nat → Nat) : jj_EV (EVW es mi sa) := ⟨fun A U H H1 h hq => ⟨(hEVL es mi sa).1 A U H H1 h.1 hq, h.2.kept hq⟩, fun A B U H h hq => ⟨(hEVL es mi sa).2.1 A B U H h.1 hq, h.2.narrow hq⟩, fun A s U H hW h => ⟨(hEVL es mi sa).2.2.1 A s U H hW h.1, h.2.moved hW.alike⟩, fun A u U H hv h => ⟨(hEVL es mi sa).2.2.2 A u U H hv h.1, h.2.moved (by rw [hv]; exact Vm.Alike.refl U.vm)⟩⟩
theorem EVW_Z {es mi : Nat} {sa : Nat → Nat} {A : Nat → Prop} {U : State} {H : Heap} (h : EVW es mi sa A U H) : EVZ es mi A U H := ⟨h.1.2.1, h.2⟩
theorem EVW_h {es mi : Nat} {sa : Nat → Nat} {A : Nat → Prop} {U : State} {H : Heap} (h : EVW es mi sa A U H) : EVh A U H := h.1.1.1
theorem EVW_A {es mi : Nat} {sa : Nat → Nat} {A : Nat → Prop} {U : State} {H : Heap} (h : EVW es mi sa A U H) : EVA es A U H := h.1.2.1.1
section CC20
variable {es mi : Nat} {sa : Nat → Nat} {l : Launch} {dC : Nat → ClassId} {dI : Nat → Nat → Nat} {cI cJ cZ cO : ClassId} {EE ws : va_W} {ha cA hA nA : Nat → Nat} {ed : Nat} {td : Nat} {pr up dn : Int} {dv rw : Nat → Int} {sd mc : Int} {n : Nat} {mo sh co : Int} {Ca Cz K St Ex Am Bi As BL AL He Co : Nat → Int}
set_option maxHeartbeats 4000000 in
set_option maxRecDepth 100000 in
theorem cw_L_contract_0 (hl : l.stackTraces = false) {k y ex am : Int} (hk : k = 0 ∨ k = 1) (hy : 0 ≤ y ∧ y ≤ 20000) (hex : (td : Int) ≤ ex ∧ ex ≤ (td : Int) + 10 ∧ ex ≤ 200) (ham : am = 0 ∨ am = 1) (htd : td ≤ 200) (hz : Bi 0 = 0 ∧ As 0 = 0 ∧ BL 0 = 0 ∧ AL 0 = 0 ∧ (∀ j, j < 7 → He (7 * 0 + j) = 0) ∧ (∀ j, j < 7 → Co (7 * 0 + j) = 0)) : jj_Mi (EVW es mi sa) (dC, dI) vwCl [(cI, .int), (cJ, .long), (cZ, .boolean), (cO, .object "java/lang/Object")] l yL_contract (Cond.codeWith yL_contract cL_contract 7 (some .int) [(0, 11, 14, 14), (0, 11, 19, 31)] :: lw_U) ({ frames := 6, cells := 7, slots := 78, locals := 126 } : Room) [.ref (ha 0), .int (iI k), .int (iI y), .int (iI ex), .int (iI am)] (wH ha cA hA nA es cI cJ cZ td pr up dn dv rw sd mc 0 mo sh co Ca Cz K St Ex Am Bi As BL AL He Co ++ EE) (S := Nat × Nat × Nat × Nat) (fun ⟨q1, q2, q3, q0⟩ => 0) (fun ⟨q1, q2, q3, q0⟩ => True) (fun ⟨q1, q2, q3, q0⟩ => wH ha (va_up cA 0 q1) (va_up hA 0 q2) (va_up nA 0 q3) q0 cI cJ cZ td pr up dn dv rw sd (mc + 1) (0 + 1) mo sh co Ca Cz (va_up K 0 k) (va_up St 0 y) (va_up Ex 0 ex) (va_up Am 0 am) Bi As BL AL He Co ++ ((q0, .inl (cO, 10, .inr (.inr (.inr (.inr (va_up (fun _ => none) 0 (some q1))))))) :: EE)) := by
  refine jj_startW (hh := [(0, 11, 14, 14), (0, 11, 19, 31)]) (cc := cL_contract) (nL := 7) (ret := (some .int)) (lv := [(0, .ref (ha 0)), (1, .int (iI k)), (2, .int (iI y)), (3, .int (iI ex)), (4, .int (iI am))]) (fun A => jj_Qi _ _ _ _ _ _ A) (hEVW es mi sa) (by decide) rfl (Nat.le_of_ble_eq_true rfl) rfl ?_
  intro p9 e9 s9 m9 a9 b9 me9 c9 A9 C1 hr hT
  have C0 : jj_C p9 s9 m9 a9 me9 c9 (dC, dI) vwCl A9 7 cL_contract "StrikehallLaw" lw_U _ (EVW es mi sa) := jj_toU C1
  have hw := C0.2.2.2.2.1
  have hE := C0.2.2.2.2.2.2.2.1
  refine jj_aload_n C0 0 rfl dL_contract_0 ?_
  refine jj_iload_n C0 1 rfl dL_contract_1 ?_
  refine jj_iload_n C0 2 rfl dL_contract_2 ?_
  refine jj_iload_n C0 3 rfl dL_contract_3 ?_
  refine jj_iload C0 4 rfl dL_contract_4 ?_
  refine jj_callVi C0 (jj_weaki (fun A U H h => EVW_Z h) (c0_X3_contract (EE := EE) hk hy hex ham htd hz)) (cwV 4 hw (lw_gV hU_354 hU_355 hU_356 hU_43 hU_357) rfl rfl rfl (by decide +kernel) ⟨Nat.le_of_ble_eq_true rfl, Nat.le_of_ble_eq_true rfl⟩) (ci := 4) (q0 := 0) rfl (rfl) rfl rfl (Nat.le_of_ble_eq_true rfl) ⟨by decide, by decide⟩ rfl rfl dL_contract_6 ?_
  intro u hu
  obtain ⟨q1, q2, q3, q0⟩ := u
  show jj_W _ _ _ _ _ _ _ _ _ _ _ _ _ _ _ _ _ 9 _ [.int (iI 0)] (wH ha (va_up cA 0 q1) (va_up hA 0 q2) (va_up nA 0 q3) q0 cI cJ cZ td pr up dn dv rw sd (mc + 1) (0 + 1) mo sh co Ca Cz (va_up K 0 k) (va_up St 0 y) (va_up Ex 0 ex) (va_up Am 0 am) Bi As BL AL He Co ++ ((q0, .inl (cO, 10, .inr (.inr (.inr (.inr (va_up (fun _ => none) 0 (some q1))))))) :: EE))
  refine jj_istore C0 (lv' := [(5, .int (iI 0)), (0, .ref (ha 0)), (1, .int (iI k)), (2, .int (iI y)), (3, .int (iI ex)), (4, .int (iI am))]) (by decide) rfl dL_contract_9 ?_
  refine jj_goto C0 (tgt := 24) dL_contract_11 (by decide) ?_
  refine jj_iload C0 0 rfl dL_contract_24 ?_
  exact jj_iret C0 hr (q1, q2, q3, q0) (trivial) (rfl) (rfl) (by decide) (by decide) dL_contract_26
end CC20
