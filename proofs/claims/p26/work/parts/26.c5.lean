section CC5
variable {l : Launch} {dC : Nat → ClassId} {dI : Nat → Nat → Nat} {cI cJ cZ cO : ClassId} {EE ws : va_W} {ha cA hA nA : Nat → Nat} {ed : Nat} {td : Nat} {pr up dn : Int} {dv rw : Nat → Int} {sd mc : Int} {n : Nat} {mo sh co : Int} {Ca Cz K St Ex Am Bi As BL AL He Co : Nat → Int}
set_option maxHeartbeats 4000000 in
set_option maxRecDepth 100000 in
theorem cc_X3_fault   (hn : n ≤ 12) (hED : 0 < n → f_ED cA n ed cO EE) (hK : ∀ j, 0 ≤ K j ∧ K j ≤ 1) (hSt : ∀ j, 0 ≤ St j ∧ St j ≤ 20000) (hEx : ∀ j, 0 ≤ Ex j ∧ Ex j ≤ 200) (hAm : ∀ j, 0 ≤ Am j ∧ Am j ≤ 1) (hBi : ∀ j, 0 ≤ Bi j ∧ Bi j ≤ 20000) (hAs : ∀ j, 0 ≤ As j ∧ As j ≤ 20000) (hBL : ∀ j, 0 ≤ BL j ∧ BL j ≤ 100) (hAL : ∀ j, 0 ≤ AL j ∧ AL j ≤ 100) : jj_Mi EVh (dC, dI) vwCl [(cI, .int), (cJ, .long), (cZ, .boolean), (cO, .object "java/lang/Object")] l yX3_fault (Cond.code yX3_fault cX3_fault 1 (some .int) :: lw_U) ({ frames := 6, cells := 0, slots := 0, locals := 129 } : Room) [.ref (ha 0)] (wH ha cA hA nA ed cI cJ cZ td pr up dn dv rw sd mc n mo sh co Ca Cz K St Ex Am Bi As BL AL He Co ++ EE) (S := Int) (fun u => u) (fun u => (u = 1 ∧ (∃ a, a < n ∧ ((0 < BL a ∧ 0 < AL a) ∧ As a ≤ Bi a))) ∨ (u = 2 ∧ ¬ (∃ a, a < n ∧ ((0 < BL a ∧ 0 < AL a) ∧ As a ≤ Bi a)) ∧ (∃ a b, a < n ∧ b < n ∧ (((0 < BL a ∧ 0 < AL a) ∧ (0 < BL b ∧ 0 < AL b) ∧ St a < St b ∧ K a = K b ∧ Ex a = Ex b ∧ Am a = Am b) ∧ ((K a = 0 ∧ As a < Bi b) ∨ (K a ≠ 0 ∧ As b < Bi a))))) ∨ (u = 3 ∧ ¬ (∃ a, a < n ∧ ((0 < BL a ∧ 0 < AL a) ∧ As a ≤ Bi a)) ∧ ¬ (∃ a b, a < n ∧ b < n ∧ (((0 < BL a ∧ 0 < AL a) ∧ (0 < BL b ∧ 0 < AL b) ∧ St a < St b ∧ K a = K b ∧ Ex a = Ex b ∧ Am a = Am b) ∧ ((K a = 0 ∧ As a < Bi b) ∨ (K a ≠ 0 ∧ As b < Bi a)))) ∧ (∃ a b, a < n ∧ b < n ∧ ∃ d, d < n ∧ (((0 < BL a ∧ 0 < AL a) ∧ (0 < BL b ∧ 0 < AL b) ∧ St a < St b ∧ K a = K b ∧ Ex a = Ex b ∧ Am a = Am b) ∧ ((0 < BL b ∧ 0 < AL b) ∧ (0 < BL d ∧ 0 < AL d) ∧ St b < St d ∧ K b = K d ∧ Ex b = Ex d ∧ Am b = Am d) ∧ St b - St a = St d - St b ∧ As a + As d < 2 * Bi b))) ∨ (u = 4 ∧ ¬ (∃ a, a < n ∧ ((0 < BL a ∧ 0 < AL a) ∧ As a ≤ Bi a)) ∧ ¬ (∃ a b, a < n ∧ b < n ∧ (((0 < BL a ∧ 0 < AL a) ∧ (0 < BL b ∧ 0 < AL b) ∧ St a < St b ∧ K a = K b ∧ Ex a = Ex b ∧ Am a = Am b) ∧ ((K a = 0 ∧ As a < Bi b) ∨ (K a ≠ 0 ∧ As b < Bi a)))) ∧ ¬ (∃ a b, a < n ∧ b < n ∧ ∃ d, d < n ∧ (((0 < BL a ∧ 0 < AL a) ∧ (0 < BL b ∧ 0 < AL b) ∧ St a < St b ∧ K a = K b ∧ Ex a = Ex b ∧ Am a = Am b) ∧ ((0 < BL b ∧ 0 < AL b) ∧ (0 < BL d ∧ 0 < AL d) ∧ St b < St d ∧ K b = K d ∧ Ex b = Ex d ∧ Am b = Am d) ∧ St b - St a = St d - St b ∧ As a + As d < 2 * Bi b)) ∧ (∃ a b, a < n ∧ b < n ∧ ((0 < BL a ∧ 0 < AL a) ∧ (0 < BL b ∧ 0 < AL b) ∧ Ex a < Ex b ∧ Am a ≠ 0 ∧ Am b ≠ 0 ∧ K a = K b ∧ St a = St b ∧ As b < Bi a))) ∨ (u = 0 ∧ ¬ (∃ a, a < n ∧ ((0 < BL a ∧ 0 < AL a) ∧ As a ≤ Bi a)) ∧ ¬ (∃ a b, a < n ∧ b < n ∧ (((0 < BL a ∧ 0 < AL a) ∧ (0 < BL b ∧ 0 < AL b) ∧ St a < St b ∧ K a = K b ∧ Ex a = Ex b ∧ Am a = Am b) ∧ ((K a = 0 ∧ As a < Bi b) ∨ (K a ≠ 0 ∧ As b < Bi a)))) ∧ ¬ (∃ a b, a < n ∧ b < n ∧ ∃ d, d < n ∧ (((0 < BL a ∧ 0 < AL a) ∧ (0 < BL b ∧ 0 < AL b) ∧ St a < St b ∧ K a = K b ∧ Ex a = Ex b ∧ Am a = Am b) ∧ ((0 < BL b ∧ 0 < AL b) ∧ (0 < BL d ∧ 0 < AL d) ∧ St b < St d ∧ K b = K d ∧ Ex b = Ex d ∧ Am b = Am d) ∧ St b - St a = St d - St b ∧ As a + As d < 2 * Bi b)) ∧ ¬ (∃ a b, a < n ∧ b < n ∧ ((0 < BL a ∧ 0 < AL a) ∧ (0 < BL b ∧ 0 < AL b) ∧ Ex a < Ex b ∧ Am a ≠ 0 ∧ Am b ≠ 0 ∧ K a = K b ∧ St a = St b ∧ As b < Bi a)))) (fun u => wH ha cA hA nA ed cI cJ cZ td pr up dn dv rw sd mc n mo sh co Ca Cz K St Ex Am Bi As BL AL He Co ++ EE) := by
  refine jj_start (cc := cX3_fault) (nL := 1) (ret := (some .int)) (lv := [(0, .ref (ha 0))]) (fun A => jj_Qi _ _ _ _ _ _ A) hEVh (by decide) rfl (Nat.le_of_ble_eq_true rfl) rfl ?_
  intro p9 e9 s9 m9 a9 b9 me9 c9 A9 C1 hr hin
  have C0 : jj_C p9 s9 m9 a9 me9 c9 (dC, dI) vwCl A9 1 cX3_fault "Strikehall" lw_U _ EVh := jj_toU C1
  have hw := C0.2.2.2.2.1
  have hE := C0.2.2.2.2.2.2.2.1
  refine jj_aload_n C0 0 rfl dX3_fault_0 ?_
  refine jj_callVi C0 (cc_X3_firstFault   (by first | exact hn | omega) (by first | exact hED | omega) (by first | exact hK | omega) (by first | exact hSt | omega) (by first | exact hEx | omega) (by first | exact hAm | omega) (by first | exact hBi | omega) (by first | exact hAs | omega) (by first | exact hBL | omega) (by first | exact hAL | omega)) (cwV 0 hw (lw_gV hU_510 hU_512 hU_19 hU_43 hU_513) rfl rfl rfl (by decide +kernel) ⟨Nat.le_of_ble_eq_true rfl, Nat.le_of_ble_eq_true rfl⟩) (ci := 4) (q0 := 0) rfl (rfl) rfl rfl (Nat.le_of_ble_eq_true rfl) ⟨by decide, by decide⟩ rfl rfl dX3_fault_1 ?_
  intro u_1 hu
  have hu_1 : (u_1 = 1 ∧ (∃ a, a < n ∧ ((0 < BL a ∧ 0 < AL a) ∧ As a ≤ Bi a))) ∨ (u_1 = 2 ∧ ¬ (∃ a, a < n ∧ ((0 < BL a ∧ 0 < AL a) ∧ As a ≤ Bi a)) ∧ (∃ a b, a < n ∧ b < n ∧ (((0 < BL a ∧ 0 < AL a) ∧ (0 < BL b ∧ 0 < AL b) ∧ St a < St b ∧ K a = K b ∧ Ex a = Ex b ∧ Am a = Am b) ∧ ((K a = 0 ∧ As a < Bi b) ∨ (K a ≠ 0 ∧ As b < Bi a))))) ∨ (u_1 = 3 ∧ ¬ (∃ a, a < n ∧ ((0 < BL a ∧ 0 < AL a) ∧ As a ≤ Bi a)) ∧ ¬ (∃ a b, a < n ∧ b < n ∧ (((0 < BL a ∧ 0 < AL a) ∧ (0 < BL b ∧ 0 < AL b) ∧ St a < St b ∧ K a = K b ∧ Ex a = Ex b ∧ Am a = Am b) ∧ ((K a = 0 ∧ As a < Bi b) ∨ (K a ≠ 0 ∧ As b < Bi a)))) ∧ (∃ a b, a < n ∧ b < n ∧ ∃ d, d < n ∧ (((0 < BL a ∧ 0 < AL a) ∧ (0 < BL b ∧ 0 < AL b) ∧ St a < St b ∧ K a = K b ∧ Ex a = Ex b ∧ Am a = Am b) ∧ ((0 < BL b ∧ 0 < AL b) ∧ (0 < BL d ∧ 0 < AL d) ∧ St b < St d ∧ K b = K d ∧ Ex b = Ex d ∧ Am b = Am d) ∧ St b - St a = St d - St b ∧ As a + As d < 2 * Bi b))) ∨ (u_1 = 4 ∧ ¬ (∃ a, a < n ∧ ((0 < BL a ∧ 0 < AL a) ∧ As a ≤ Bi a)) ∧ ¬ (∃ a b, a < n ∧ b < n ∧ (((0 < BL a ∧ 0 < AL a) ∧ (0 < BL b ∧ 0 < AL b) ∧ St a < St b ∧ K a = K b ∧ Ex a = Ex b ∧ Am a = Am b) ∧ ((K a = 0 ∧ As a < Bi b) ∨ (K a ≠ 0 ∧ As b < Bi a)))) ∧ ¬ (∃ a b, a < n ∧ b < n ∧ ∃ d, d < n ∧ (((0 < BL a ∧ 0 < AL a) ∧ (0 < BL b ∧ 0 < AL b) ∧ St a < St b ∧ K a = K b ∧ Ex a = Ex b ∧ Am a = Am b) ∧ ((0 < BL b ∧ 0 < AL b) ∧ (0 < BL d ∧ 0 < AL d) ∧ St b < St d ∧ K b = K d ∧ Ex b = Ex d ∧ Am b = Am d) ∧ St b - St a = St d - St b ∧ As a + As d < 2 * Bi b)) ∧ (∃ a b, a < n ∧ b < n ∧ ((0 < BL a ∧ 0 < AL a) ∧ (0 < BL b ∧ 0 < AL b) ∧ Ex a < Ex b ∧ Am a ≠ 0 ∧ Am b ≠ 0 ∧ K a = K b ∧ St a = St b ∧ As b < Bi a))) ∨ (u_1 = 0 ∧ ¬ (∃ a, a < n ∧ ((0 < BL a ∧ 0 < AL a) ∧ As a ≤ Bi a)) ∧ ¬ (∃ a b, a < n ∧ b < n ∧ (((0 < BL a ∧ 0 < AL a) ∧ (0 < BL b ∧ 0 < AL b) ∧ St a < St b ∧ K a = K b ∧ Ex a = Ex b ∧ Am a = Am b) ∧ ((K a = 0 ∧ As a < Bi b) ∨ (K a ≠ 0 ∧ As b < Bi a)))) ∧ ¬ (∃ a b, a < n ∧ b < n ∧ ∃ d, d < n ∧ (((0 < BL a ∧ 0 < AL a) ∧ (0 < BL b ∧ 0 < AL b) ∧ St a < St b ∧ K a = K b ∧ Ex a = Ex b ∧ Am a = Am b) ∧ ((0 < BL b ∧ 0 < AL b) ∧ (0 < BL d ∧ 0 < AL d) ∧ St b < St d ∧ K b = K d ∧ Ex b = Ex d ∧ Am b = Am d) ∧ St b - St a = St d - St b ∧ As a + As d < 2 * Bi b)) ∧ ¬ (∃ a b, a < n ∧ b < n ∧ ((0 < BL a ∧ 0 < AL a) ∧ (0 < BL b ∧ 0 < AL b) ∧ Ex a < Ex b ∧ Am a ≠ 0 ∧ Am b ≠ 0 ∧ K a = K b ∧ St a = St b ∧ As b < Bi a))) := hu
  show jj_W _ _ _ _ _ _ _ _ _ _ _ _ _ _ _ _ _ 4 _ [.int (iI u_1)] (wH ha cA hA nA ed cI cJ cZ td pr up dn dv rw sd mc n mo sh co Ca Cz K St Ex Am Bi As BL AL He Co ++ EE)
  exact jj_iret C0 hr u_1 (by exact hu_1) (rfl) (rfl) (by decide) (by decide) dX3_fault_4
set_option maxHeartbeats 4000000 in
set_option maxRecDepth 100000 in
theorem cc_X3_quote  {c : Nat} {x y z : Int} (hx : 0 ≤ x ∧ x ≤ 20000) (hy : 0 ≤ y ∧ y ≤ 20000) (hz : 0 ≤ z ∧ z ≤ 100) (hov : (td : Int) ≤ Ex c) (hcn : c < n) (hn : n ≤ 12) (hED : 0 < n → f_ED cA n ed cO EE) (htd : td ≤ 200) (hK : ∀ j, 0 ≤ K j ∧ K j ≤ 1) (hSt : ∀ j, 0 ≤ St j ∧ St j ≤ 20000) (hEx : ∀ j, 0 ≤ Ex j ∧ Ex j ≤ 200) (hAm : ∀ j, 0 ≤ Am j ∧ Am j ≤ 1) (hBi : ∀ j, 0 ≤ Bi j ∧ Bi j ≤ 20000) (hAs : ∀ j, 0 ≤ As j ∧ As j ≤ 20000) (hBL : ∀ j, 0 ≤ BL j ∧ BL j ≤ 100) (hAL : ∀ j, 0 ≤ AL j ∧ AL j ≤ 100) : jj_Mi EVh (dC, dI) vwCl [(cI, .int), (cJ, .long), (cZ, .boolean), (cO, .object "java/lang/Object")] l yX3_quote (Cond.code yX3_quote cX3_quote 6 (some .int) :: lw_U) ({ frames := 6, cells := 0, slots := 0, locals := 129 } : Room) [.ref (ha 0), .int (iI (c : Int)), .int (iI x), .int (iI y), .int (iI z)] (wH ha cA hA nA ed cI cJ cZ td pr up dn dv rw sd mc n mo sh co Ca Cz K St Ex Am Bi As BL AL He Co ++ EE) (S := Int) (fun u => u) (fun u => (u = 1 ∧ (∃ a, a < n ∧ ((0 < (va_up BL c z) a ∧ 0 < (va_up AL c z) a) ∧ (va_up As c (if 0 < z then y else 0)) a ≤ (va_up Bi c (if 0 < z then x else 0)) a))) ∨ (u = 2 ∧ ¬ (∃ a, a < n ∧ ((0 < (va_up BL c z) a ∧ 0 < (va_up AL c z) a) ∧ (va_up As c (if 0 < z then y else 0)) a ≤ (va_up Bi c (if 0 < z then x else 0)) a)) ∧ (∃ a b, a < n ∧ b < n ∧ (((0 < (va_up BL c z) a ∧ 0 < (va_up AL c z) a) ∧ (0 < (va_up BL c z) b ∧ 0 < (va_up AL c z) b) ∧ St a < St b ∧ K a = K b ∧ Ex a = Ex b ∧ Am a = Am b) ∧ ((K a = 0 ∧ (va_up As c (if 0 < z then y else 0)) a < (va_up Bi c (if 0 < z then x else 0)) b) ∨ (K a ≠ 0 ∧ (va_up As c (if 0 < z then y else 0)) b < (va_up Bi c (if 0 < z then x else 0)) a))))) ∨ (u = 3 ∧ ¬ (∃ a, a < n ∧ ((0 < (va_up BL c z) a ∧ 0 < (va_up AL c z) a) ∧ (va_up As c (if 0 < z then y else 0)) a ≤ (va_up Bi c (if 0 < z then x else 0)) a)) ∧ ¬ (∃ a b, a < n ∧ b < n ∧ (((0 < (va_up BL c z) a ∧ 0 < (va_up AL c z) a) ∧ (0 < (va_up BL c z) b ∧ 0 < (va_up AL c z) b) ∧ St a < St b ∧ K a = K b ∧ Ex a = Ex b ∧ Am a = Am b) ∧ ((K a = 0 ∧ (va_up As c (if 0 < z then y else 0)) a < (va_up Bi c (if 0 < z then x else 0)) b) ∨ (K a ≠ 0 ∧ (va_up As c (if 0 < z then y else 0)) b < (va_up Bi c (if 0 < z then x else 0)) a)))) ∧ (∃ a b, a < n ∧ b < n ∧ ∃ d, d < n ∧ (((0 < (va_up BL c z) a ∧ 0 < (va_up AL c z) a) ∧ (0 < (va_up BL c z) b ∧ 0 < (va_up AL c z) b) ∧ St a < St b ∧ K a = K b ∧ Ex a = Ex b ∧ Am a = Am b) ∧ ((0 < (va_up BL c z) b ∧ 0 < (va_up AL c z) b) ∧ (0 < (va_up BL c z) d ∧ 0 < (va_up AL c z) d) ∧ St b < St d ∧ K b = K d ∧ Ex b = Ex d ∧ Am b = Am d) ∧ St b - St a = St d - St b ∧ (va_up As c (if 0 < z then y else 0)) a + (va_up As c (if 0 < z then y else 0)) d < 2 * (va_up Bi c (if 0 < z then x else 0)) b))) ∨ (u = 4 ∧ ¬ (∃ a, a < n ∧ ((0 < (va_up BL c z) a ∧ 0 < (va_up AL c z) a) ∧ (va_up As c (if 0 < z then y else 0)) a ≤ (va_up Bi c (if 0 < z then x else 0)) a)) ∧ ¬ (∃ a b, a < n ∧ b < n ∧ (((0 < (va_up BL c z) a ∧ 0 < (va_up AL c z) a) ∧ (0 < (va_up BL c z) b ∧ 0 < (va_up AL c z) b) ∧ St a < St b ∧ K a = K b ∧ Ex a = Ex b ∧ Am a = Am b) ∧ ((K a = 0 ∧ (va_up As c (if 0 < z then y else 0)) a < (va_up Bi c (if 0 < z then x else 0)) b) ∨ (K a ≠ 0 ∧ (va_up As c (if 0 < z then y else 0)) b < (va_up Bi c (if 0 < z then x else 0)) a)))) ∧ ¬ (∃ a b, a < n ∧ b < n ∧ ∃ d, d < n ∧ (((0 < (va_up BL c z) a ∧ 0 < (va_up AL c z) a) ∧ (0 < (va_up BL c z) b ∧ 0 < (va_up AL c z) b) ∧ St a < St b ∧ K a = K b ∧ Ex a = Ex b ∧ Am a = Am b) ∧ ((0 < (va_up BL c z) b ∧ 0 < (va_up AL c z) b) ∧ (0 < (va_up BL c z) d ∧ 0 < (va_up AL c z) d) ∧ St b < St d ∧ K b = K d ∧ Ex b = Ex d ∧ Am b = Am d) ∧ St b - St a = St d - St b ∧ (va_up As c (if 0 < z then y else 0)) a + (va_up As c (if 0 < z then y else 0)) d < 2 * (va_up Bi c (if 0 < z then x else 0)) b)) ∧ (∃ a b, a < n ∧ b < n ∧ ((0 < (va_up BL c z) a ∧ 0 < (va_up AL c z) a) ∧ (0 < (va_up BL c z) b ∧ 0 < (va_up AL c z) b) ∧ Ex a < Ex b ∧ Am a ≠ 0 ∧ Am b ≠ 0 ∧ K a = K b ∧ St a = St b ∧ (va_up As c (if 0 < z then y else 0)) b < (va_up Bi c (if 0 < z then x else 0)) a))) ∨ (u = 0 ∧ ¬ (∃ a, a < n ∧ ((0 < (va_up BL c z) a ∧ 0 < (va_up AL c z) a) ∧ (va_up As c (if 0 < z then y else 0)) a ≤ (va_up Bi c (if 0 < z then x else 0)) a)) ∧ ¬ (∃ a b, a < n ∧ b < n ∧ (((0 < (va_up BL c z) a ∧ 0 < (va_up AL c z) a) ∧ (0 < (va_up BL c z) b ∧ 0 < (va_up AL c z) b) ∧ St a < St b ∧ K a = K b ∧ Ex a = Ex b ∧ Am a = Am b) ∧ ((K a = 0 ∧ (va_up As c (if 0 < z then y else 0)) a < (va_up Bi c (if 0 < z then x else 0)) b) ∨ (K a ≠ 0 ∧ (va_up As c (if 0 < z then y else 0)) b < (va_up Bi c (if 0 < z then x else 0)) a)))) ∧ ¬ (∃ a b, a < n ∧ b < n ∧ ∃ d, d < n ∧ (((0 < (va_up BL c z) a ∧ 0 < (va_up AL c z) a) ∧ (0 < (va_up BL c z) b ∧ 0 < (va_up AL c z) b) ∧ St a < St b ∧ K a = K b ∧ Ex a = Ex b ∧ Am a = Am b) ∧ ((0 < (va_up BL c z) b ∧ 0 < (va_up AL c z) b) ∧ (0 < (va_up BL c z) d ∧ 0 < (va_up AL c z) d) ∧ St b < St d ∧ K b = K d ∧ Ex b = Ex d ∧ Am b = Am d) ∧ St b - St a = St d - St b ∧ (va_up As c (if 0 < z then y else 0)) a + (va_up As c (if 0 < z then y else 0)) d < 2 * (va_up Bi c (if 0 < z then x else 0)) b)) ∧ ¬ (∃ a b, a < n ∧ b < n ∧ ((0 < (va_up BL c z) a ∧ 0 < (va_up AL c z) a) ∧ (0 < (va_up BL c z) b ∧ 0 < (va_up AL c z) b) ∧ Ex a < Ex b ∧ Am a ≠ 0 ∧ Am b ≠ 0 ∧ K a = K b ∧ St a = St b ∧ (va_up As c (if 0 < z then y else 0)) b < (va_up Bi c (if 0 < z then x else 0)) a)))) (fun u => wH ha cA hA nA ed cI cJ cZ td pr up dn dv rw sd mc n mo sh co Ca Cz K St Ex Am (va_up Bi c (if 0 < z then x else 0)) (va_up As c (if 0 < z then y else 0)) (va_up BL c z) (va_up AL c z) He Co ++ EE) := by
  refine jj_start (cc := cX3_quote) (nL := 6) (ret := (some .int)) (lv := [(0, .ref (ha 0)), (1, .int (iI (c : Int))), (2, .int (iI x)), (3, .int (iI y)), (4, .int (iI z))]) (fun A => jj_Qi _ _ _ _ _ _ A) hEVh (by decide) rfl (Nat.le_of_ble_eq_true rfl) rfl ?_
  intro p9 e9 s9 m9 a9 b9 me9 c9 A9 C1 hr hin
  have C0 : jj_C p9 s9 m9 a9 me9 c9 (dC, dI) vwCl A9 6 cX3_quote "Strikehall" lw_U _ EVh := jj_toU C1
  have hw := C0.2.2.2.2.1
  have hE := C0.2.2.2.2.2.2.2.1
  refine jj_aload_n C0 0 rfl dX3_quote_0 ?_
  refine jj_iload_n C0 1 rfl dX3_quote_1 ?_
  refine jj_callVr C0 (cc_X3_contractOf  (c := c) (by first | exact hcn | omega) (by first | exact hn | omega) (by first | exact hED | omega)) (cwV 1 hw (lw_gV hU_481 hU_483 hU_16 hU_43 hU_484) rfl rfl rfl (by decide +kernel) ⟨Nat.le_of_ble_eq_true rfl, Nat.le_of_ble_eq_true rfl⟩) (ci := 4) (q0 := 0) rfl (rfl) rfl rfl (Nat.le_of_ble_eq_true rfl) ⟨by decide, by decide⟩ rfl rfl dX3_quote_2 ?_
  intro _ hu
  show jj_W _ _ _ _ _ _ _ _ _ _ _ _ _ _ _ _ _ 5 _ [.ref (cA c)] (wH ha cA hA nA ed cI cJ cZ td pr up dn dv rw sd mc n mo sh co Ca Cz K St Ex Am Bi As BL AL He Co ++ EE)
  refine jj_astore C0 (lv' := [(5, .ref (cA c)), (0, .ref (ha 0)), (1, .int (iI (c : Int))), (2, .int (iI x)), (3, .int (iI y)), (4, .int (iI z))]) (by decide) rfl dX3_quote_5 ?_
  refine jj_iload_n C0 3 rfl dX3_quote_7 ?_
  refine jj_iconst C0 dX3_quote_8 ?_
  refine jj_sipush C0 dX3_quote_9 (by decide) ?_
  refine jj_callSv C0 (cc_X3_checkRange  (a := x) (b := 0) (d := 20000) (by omega) (by omega) (by omega) (by omega)) (cwS 3 hw (lw_gS hU_178 hU_179 hU_43 hU_180) rfl rfl rfl (by decide +kernel) ⟨Nat.le_of_ble_eq_true rfl, Nat.le_of_ble_eq_true rfl⟩) rfl rfl (Nat.le_of_ble_eq_true rfl) ⟨by decide, by decide⟩ rfl rfl dX3_quote_12 ?_
  intro _ hu
  show jj_W _ _ _ _ _ _ _ _ _ _ _ _ _ _ _ _ _ 15 _ [] (wH ha cA hA nA ed cI cJ cZ td pr up dn dv rw sd mc n mo sh co Ca Cz K St Ex Am Bi As BL AL He Co ++ EE)
  refine jj_iload_n C0 4 rfl dX3_quote_15 ?_
  refine jj_iconst C0 dX3_quote_16 ?_
  refine jj_sipush C0 dX3_quote_17 (by decide) ?_
  refine jj_callSv C0 (cc_X3_checkRange  (a := y) (b := 0) (d := 20000) (by omega) (by omega) (by omega) (by omega)) (cwS 3 hw (lw_gS hU_178 hU_179 hU_43 hU_180) rfl rfl rfl (by decide +kernel) ⟨Nat.le_of_ble_eq_true rfl, Nat.le_of_ble_eq_true rfl⟩) rfl rfl (Nat.le_of_ble_eq_true rfl) ⟨by decide, by decide⟩ rfl rfl dX3_quote_20 ?_
  intro _ hu
  show jj_W _ _ _ _ _ _ _ _ _ _ _ _ _ _ _ _ _ 23 _ [] (wH ha cA hA nA ed cI cJ cZ td pr up dn dv rw sd mc n mo sh co Ca Cz K St Ex Am Bi As BL AL He Co ++ EE)
  refine jj_iload C0 5 rfl dX3_quote_23 ?_
  refine jj_iconst C0 dX3_quote_25 ?_
  refine jj_bipush C0 dX3_quote_26 (by decide) ?_
  refine jj_callSv C0 (cc_X3_checkRange  (a := z) (b := 0) (d := 100) (by omega) (by omega) (by omega) (by omega)) (cwS 3 hw (lw_gS hU_178 hU_179 hU_43 hU_180) rfl rfl rfl (by decide +kernel) ⟨Nat.le_of_ble_eq_true rfl, Nat.le_of_ble_eq_true rfl⟩) rfl rfl (Nat.le_of_ble_eq_true rfl) ⟨by decide, by decide⟩ rfl rfl dX3_quote_28 ?_
  intro _ hu
  show jj_W _ _ _ _ _ _ _ _ _ _ _ _ _ _ _ _ _ 31 _ [] (wH ha cA hA nA ed cI cJ cZ td pr up dn dv rw sd mc n mo sh co Ca Cz K St Ex Am Bi As BL AL He Co ++ EE)
  refine jj_aload_n C0 1 rfl dX3_quote_31 ?_
  refine jj_aload C0 0 rfl dX3_quote_32 ?_
  refine jj_callVv C0 (cc_X3_checkNotOver  (c := c) (by first | exact hov | omega) (by first | exact hcn | omega) (by first | exact htd | omega) (by first | exact hEx | omega)) (cwV 1 hw (lw_gV hU_501 hU_503 hU_17 hU_43 hU_504) rfl rfl rfl (by decide +kernel) ⟨Nat.le_of_ble_eq_true rfl, Nat.le_of_ble_eq_true rfl⟩) (ci := 4) (q0 := 0) rfl (rfl) rfl rfl (Nat.le_of_ble_eq_true rfl) ⟨by decide, by decide⟩ rfl rfl dX3_quote_34 ?_
  intro _ hu
  show jj_W _ _ _ _ _ _ _ _ _ _ _ _ _ _ _ _ _ 37 _ [] (wH ha cA hA nA ed cI cJ cZ td pr up dn dv rw sd mc n mo sh co Ca Cz K St Ex Am Bi As BL AL He Co ++ EE)
  refine jj_aload C0 0 rfl dX3_quote_37 ?_
  refine jj_iload_n C0 3 rfl dX3_quote_39 ?_
  refine jj_iload_n C0 4 rfl dX3_quote_40 ?_
  refine jj_iload C0 5 rfl dX3_quote_41 ?_
  refine jj_callVNv C0 (cc_X0_tellQuote  (c := c) (x := x) (y := y) (z := z) (by first | exact hz | omega) (by first | exact hcn | omega) (by first | exact hBL | omega) (by first | exact hAL | omega)) ⟨va_cnB 3 hw (lw_gc hU_509 lw_UU) rfl rfl rfl (hE.1 _ hN_506) (hw _ hU_55) (by decide +kernel) ⟨Nat.le_of_ble_eq_true rfl, Nat.le_of_ble_eq_true rfl⟩, hw _ hU_508, hw _ hU_18⟩ (ci := 1) (q0 := (8 + (3 * c + 0))) rfl ((wH_c (c := c) (by omega))) rfl rfl (Nat.le_of_ble_eq_true rfl) ⟨by decide, by decide⟩ rfl rfl dX3_quote_43 ?_
  intro _ hu
  show jj_W _ _ _ _ _ _ _ _ _ _ _ _ _ _ _ _ _ 46 _ [] (wH ha cA hA nA ed cI cJ cZ td pr up dn dv rw sd mc n mo sh co Ca Cz K St Ex Am (va_up Bi c (if 0 < z then x else 0)) (va_up As c (if 0 < z then y else 0)) (va_up BL c z) (va_up AL c z) He Co ++ EE)
  refine jj_aload_n C0 1 rfl dX3_quote_46 ?_
  refine jj_callVi C0 (cc_X3_firstFault   (by first | exact hn | omega) (by first | exact hED | omega) (by first | exact hK | omega) (by first | exact hSt | omega) (by first | exact hEx | omega) (by first | exact hAm | omega) (up_bd hBi (by split <;> omega)) (up_bd hAs (by split <;> omega)) (up_bd hBL hz) (up_bd hAL hz)) (cwV 0 hw (lw_gV hU_510 hU_512 hU_19 hU_43 hU_513) rfl rfl rfl (by decide +kernel) ⟨Nat.le_of_ble_eq_true rfl, Nat.le_of_ble_eq_true rfl⟩) (ci := 4) (q0 := 0) rfl (rfl) rfl rfl (Nat.le_of_ble_eq_true rfl) ⟨by decide, by decide⟩ rfl rfl dX3_quote_47 ?_
  intro u_1 hu
  have hu_47 : (u_1 = 1 ∧ (∃ a, a < n ∧ ((0 < (va_up BL c z) a ∧ 0 < (va_up AL c z) a) ∧ (va_up As c (if 0 < z then y else 0)) a ≤ (va_up Bi c (if 0 < z then x else 0)) a))) ∨ (u_1 = 2 ∧ ¬ (∃ a, a < n ∧ ((0 < (va_up BL c z) a ∧ 0 < (va_up AL c z) a) ∧ (va_up As c (if 0 < z then y else 0)) a ≤ (va_up Bi c (if 0 < z then x else 0)) a)) ∧ (∃ a b, a < n ∧ b < n ∧ (((0 < (va_up BL c z) a ∧ 0 < (va_up AL c z) a) ∧ (0 < (va_up BL c z) b ∧ 0 < (va_up AL c z) b) ∧ St a < St b ∧ K a = K b ∧ Ex a = Ex b ∧ Am a = Am b) ∧ ((K a = 0 ∧ (va_up As c (if 0 < z then y else 0)) a < (va_up Bi c (if 0 < z then x else 0)) b) ∨ (K a ≠ 0 ∧ (va_up As c (if 0 < z then y else 0)) b < (va_up Bi c (if 0 < z then x else 0)) a))))) ∨ (u_1 = 3 ∧ ¬ (∃ a, a < n ∧ ((0 < (va_up BL c z) a ∧ 0 < (va_up AL c z) a) ∧ (va_up As c (if 0 < z then y else 0)) a ≤ (va_up Bi c (if 0 < z then x else 0)) a)) ∧ ¬ (∃ a b, a < n ∧ b < n ∧ (((0 < (va_up BL c z) a ∧ 0 < (va_up AL c z) a) ∧ (0 < (va_up BL c z) b ∧ 0 < (va_up AL c z) b) ∧ St a < St b ∧ K a = K b ∧ Ex a = Ex b ∧ Am a = Am b) ∧ ((K a = 0 ∧ (va_up As c (if 0 < z then y else 0)) a < (va_up Bi c (if 0 < z then x else 0)) b) ∨ (K a ≠ 0 ∧ (va_up As c (if 0 < z then y else 0)) b < (va_up Bi c (if 0 < z then x else 0)) a)))) ∧ (∃ a b, a < n ∧ b < n ∧ ∃ d, d < n ∧ (((0 < (va_up BL c z) a ∧ 0 < (va_up AL c z) a) ∧ (0 < (va_up BL c z) b ∧ 0 < (va_up AL c z) b) ∧ St a < St b ∧ K a = K b ∧ Ex a = Ex b ∧ Am a = Am b) ∧ ((0 < (va_up BL c z) b ∧ 0 < (va_up AL c z) b) ∧ (0 < (va_up BL c z) d ∧ 0 < (va_up AL c z) d) ∧ St b < St d ∧ K b = K d ∧ Ex b = Ex d ∧ Am b = Am d) ∧ St b - St a = St d - St b ∧ (va_up As c (if 0 < z then y else 0)) a + (va_up As c (if 0 < z then y else 0)) d < 2 * (va_up Bi c (if 0 < z then x else 0)) b))) ∨ (u_1 = 4 ∧ ¬ (∃ a, a < n ∧ ((0 < (va_up BL c z) a ∧ 0 < (va_up AL c z) a) ∧ (va_up As c (if 0 < z then y else 0)) a ≤ (va_up Bi c (if 0 < z then x else 0)) a)) ∧ ¬ (∃ a b, a < n ∧ b < n ∧ (((0 < (va_up BL c z) a ∧ 0 < (va_up AL c z) a) ∧ (0 < (va_up BL c z) b ∧ 0 < (va_up AL c z) b) ∧ St a < St b ∧ K a = K b ∧ Ex a = Ex b ∧ Am a = Am b) ∧ ((K a = 0 ∧ (va_up As c (if 0 < z then y else 0)) a < (va_up Bi c (if 0 < z then x else 0)) b) ∨ (K a ≠ 0 ∧ (va_up As c (if 0 < z then y else 0)) b < (va_up Bi c (if 0 < z then x else 0)) a)))) ∧ ¬ (∃ a b, a < n ∧ b < n ∧ ∃ d, d < n ∧ (((0 < (va_up BL c z) a ∧ 0 < (va_up AL c z) a) ∧ (0 < (va_up BL c z) b ∧ 0 < (va_up AL c z) b) ∧ St a < St b ∧ K a = K b ∧ Ex a = Ex b ∧ Am a = Am b) ∧ ((0 < (va_up BL c z) b ∧ 0 < (va_up AL c z) b) ∧ (0 < (va_up BL c z) d ∧ 0 < (va_up AL c z) d) ∧ St b < St d ∧ K b = K d ∧ Ex b = Ex d ∧ Am b = Am d) ∧ St b - St a = St d - St b ∧ (va_up As c (if 0 < z then y else 0)) a + (va_up As c (if 0 < z then y else 0)) d < 2 * (va_up Bi c (if 0 < z then x else 0)) b)) ∧ (∃ a b, a < n ∧ b < n ∧ ((0 < (va_up BL c z) a ∧ 0 < (va_up AL c z) a) ∧ (0 < (va_up BL c z) b ∧ 0 < (va_up AL c z) b) ∧ Ex a < Ex b ∧ Am a ≠ 0 ∧ Am b ≠ 0 ∧ K a = K b ∧ St a = St b ∧ (va_up As c (if 0 < z then y else 0)) b < (va_up Bi c (if 0 < z then x else 0)) a))) ∨ (u_1 = 0 ∧ ¬ (∃ a, a < n ∧ ((0 < (va_up BL c z) a ∧ 0 < (va_up AL c z) a) ∧ (va_up As c (if 0 < z then y else 0)) a ≤ (va_up Bi c (if 0 < z then x else 0)) a)) ∧ ¬ (∃ a b, a < n ∧ b < n ∧ (((0 < (va_up BL c z) a ∧ 0 < (va_up AL c z) a) ∧ (0 < (va_up BL c z) b ∧ 0 < (va_up AL c z) b) ∧ St a < St b ∧ K a = K b ∧ Ex a = Ex b ∧ Am a = Am b) ∧ ((K a = 0 ∧ (va_up As c (if 0 < z then y else 0)) a < (va_up Bi c (if 0 < z then x else 0)) b) ∨ (K a ≠ 0 ∧ (va_up As c (if 0 < z then y else 0)) b < (va_up Bi c (if 0 < z then x else 0)) a)))) ∧ ¬ (∃ a b, a < n ∧ b < n ∧ ∃ d, d < n ∧ (((0 < (va_up BL c z) a ∧ 0 < (va_up AL c z) a) ∧ (0 < (va_up BL c z) b ∧ 0 < (va_up AL c z) b) ∧ St a < St b ∧ K a = K b ∧ Ex a = Ex b ∧ Am a = Am b) ∧ ((0 < (va_up BL c z) b ∧ 0 < (va_up AL c z) b) ∧ (0 < (va_up BL c z) d ∧ 0 < (va_up AL c z) d) ∧ St b < St d ∧ K b = K d ∧ Ex b = Ex d ∧ Am b = Am d) ∧ St b - St a = St d - St b ∧ (va_up As c (if 0 < z then y else 0)) a + (va_up As c (if 0 < z then y else 0)) d < 2 * (va_up Bi c (if 0 < z then x else 0)) b)) ∧ ¬ (∃ a b, a < n ∧ b < n ∧ ((0 < (va_up BL c z) a ∧ 0 < (va_up AL c z) a) ∧ (0 < (va_up BL c z) b ∧ 0 < (va_up AL c z) b) ∧ Ex a < Ex b ∧ Am a ≠ 0 ∧ Am b ≠ 0 ∧ K a = K b ∧ St a = St b ∧ (va_up As c (if 0 < z then y else 0)) b < (va_up Bi c (if 0 < z then x else 0)) a))) := hu
  show jj_W _ _ _ _ _ _ _ _ _ _ _ _ _ _ _ _ _ 50 _ [.int (iI u_1)] (wH ha cA hA nA ed cI cJ cZ td pr up dn dv rw sd mc n mo sh co Ca Cz K St Ex Am (va_up Bi c (if 0 < z then x else 0)) (va_up As c (if 0 < z then y else 0)) (va_up BL c z) (va_up AL c z) He Co ++ EE)
  exact jj_iret C0 hr u_1 (by exact hu_47) (rfl) (rfl) (by decide) (by decide) dX3_quote_50
set_option maxHeartbeats 4000000 in
set_option maxRecDepth 100000 in
theorem cc_X3_deal  {c k : Nat} {q p : Int} (hk : k ≤ 5) (hq : -100 ≤ q ∧ q ≤ 100) (hp : 0 ≤ p ∧ p ≤ 20000) (hcn : c < n) : jj_Mv EVh (dC, dI) vwCl [(cI, .int), (cJ, .long), (cZ, .boolean), (cO, .object "java/lang/Object")] l yX3_deal (Cond.code yX3_deal cX3_deal 7 none :: lw_U) ({ frames := 1, cells := 0, slots := 0, locals := 23 } : Room) [.ref (ha 0), .int (iI (k : Int)), .ref (cA c), .int (iI q), .int (iI p)] (wH ha cA hA nA ed cI cJ cZ td pr up dn dv rw sd mc n mo sh co Ca Cz K St Ex Am Bi As BL AL He Co ++ EE) (S := Unit)  (fun _ => True) (fun _ => wH ha cA hA nA ed cI cJ cZ td pr up dn dv rw sd mc n mo sh co (f_dCa Ca k p q) Cz K St Ex Am Bi As BL AL (f_dHe He c k q) Co ++ EE) := by
  refine jj_start (cc := cX3_deal) (nL := 7) (ret := none) (lv := [(0, .ref (ha 0)), (1, .int (iI (k : Int))), (2, .ref (cA c)), (3, .int (iI q)), (4, .int (iI p))]) (fun A => jj_Qv _ _ _ _ _ A) hEVh (by decide) rfl (Nat.le_of_ble_eq_true rfl) rfl ?_
  intro p9 e9 s9 m9 a9 b9 me9 c9 A9 C1 hr hin
  have C0 : jj_C p9 s9 m9 a9 me9 c9 (dC, dI) vwCl A9 7 cX3_deal "Strikehall" lw_U _ EVh := jj_toU C1
  have hw := C0.2.2.2.2.1
  have hE := C0.2.2.2.2.2.2.2.1
  refine jj_aload_n C0 2 rfl dX3_deal_0 ?_
  refine jj_iload_n C0 1 rfl dX3_deal_1 ?_
  refine jj_iload_n C0 3 rfl dX3_deal_2 ?_
  refine jj_callVNv C0 (cc_X0_addLots  (c := c) (k := k) (q := q) (by omega) (by first | exact hcn | omega)) ⟨va_cnB 2 hw (lw_gc hU_582 lw_UU) rfl rfl rfl (hE.1 _ hN_579) (hw _ hU_55) (by decide +kernel) ⟨Nat.le_of_ble_eq_true rfl, Nat.le_of_ble_eq_true rfl⟩, hw _ hU_581, hw _ hU_28⟩ (ci := 1) (q0 := (8 + (3 * c + 0))) rfl ((wH_c (c := c) (by omega))) rfl rfl (Nat.le_of_ble_eq_true rfl) ⟨by decide, by decide⟩ rfl rfl dX3_deal_3 ?_
  intro _ hu
  show jj_W _ _ _ _ _ _ _ _ _ _ _ _ _ _ _ _ _ 6 _ [] (wH ha cA hA nA ed cI cJ cZ td pr up dn dv rw sd mc n mo sh co Ca Cz K St Ex Am Bi As BL AL (va_up He (7 * c + k) (He (7 * c + k) + q)) Co ++ EE)
  refine jj_aload_n C0 2 rfl dX3_deal_6 ?_
  refine jj_bipush C0 dX3_deal_7 (by decide) ?_
  refine jj_iload_n C0 3 rfl dX3_deal_9 ?_
  refine jj_ineg C0 dX3_deal_10 ?_
  refine jj_callVNv C0 (cc_X0_addLots  (c := c) (k := 6) (q := (-q)) (by omega) (by first | exact hcn | omega)) ⟨va_cnB 2 hw (lw_gc hU_582 lw_UU) rfl rfl rfl (hE.1 _ hN_579) (hw _ hU_55) (by decide +kernel) ⟨Nat.le_of_ble_eq_true rfl, Nat.le_of_ble_eq_true rfl⟩, hw _ hU_581, hw _ hU_28⟩ (ci := 1) (q0 := (8 + (3 * c + 0))) rfl ((wH_c (c := c) (by omega))) rfl rfl (Nat.le_of_ble_eq_true rfl) ⟨by decide, by decide⟩ rfl rfl dX3_deal_11 ?_
  intro _ hu
  show jj_W _ _ _ _ _ _ _ _ _ _ _ _ _ _ _ _ _ 14 _ [] (wH ha cA hA nA ed cI cJ cZ td pr up dn dv rw sd mc n mo sh co Ca Cz K St Ex Am Bi As BL AL (va_up (va_up He (7 * c + k) (He (7 * c + k) + q)) (7 * c + 6) ((va_up He (7 * c + k) (He (7 * c + k) + q)) (7 * c + 6) + (-q))) Co ++ EE)
  refine jj_ldc2 C0 (z := 1000) (by decide) (hw _ hU_261) dX3_deal_14 ?_
  refine jj_iload C0 4 rfl dX3_deal_17 ?_
  refine jj_i2l C0 (by omega) dX3_deal_19 ?_
  refine jj_lmul C0 dX3_deal_20 ?_
  refine jj_iload_n C0 3 rfl dX3_deal_21 ?_
  refine jj_i2l C0 (by omega) dX3_deal_22 ?_
  refine jj_lmul C0 dX3_deal_23 ?_
  refine jj_lstore C0 (lv' := [(5, .long (lI ((1000 * p) * q))), (0, .ref (ha 0)), (1, .int (iI (k : Int))), (2, .ref (cA c)), (3, .int (iI q)), (4, .int (iI p))]) (by decide) rfl dX3_deal_24 ?_
  refine jj_aload_n C0 1 rfl dX3_deal_26 ?_
  refine jj_iload_n C0 2 rfl dX3_deal_27 ?_
  refine jj_lload C0 0 rfl dX3_deal_28 ?_
  refine jj_lneg C0 dX3_deal_30 ?_
  refine jj_callVv C0 (cc_X3_addMoney  (k := k) (x := (-((1000 * p) * q))) (by omega)) (cwV 2 hw (lw_gV hU_583 hU_585 hU_29 hU_43 hU_586) rfl rfl rfl (by decide +kernel) ⟨Nat.le_of_ble_eq_true rfl, Nat.le_of_ble_eq_true rfl⟩) (ci := 4) (q0 := 0) rfl (rfl) rfl rfl (Nat.le_of_ble_eq_true rfl) ⟨by decide, by decide⟩ rfl rfl dX3_deal_31 ?_
  intro _ hu
  show jj_W _ _ _ _ _ _ _ _ _ _ _ _ _ _ _ _ _ 34 _ [] (wH ha cA hA nA ed cI cJ cZ td pr up dn dv rw sd mc n mo sh co (va_up Ca k (Ca k + (-((1000 * p) * q)))) Cz K St Ex Am Bi As BL AL (va_up (va_up He (7 * c + k) (He (7 * c + k) + q)) (7 * c + 6) ((va_up He (7 * c + k) (He (7 * c + k) + q)) (7 * c + 6) + (-q))) Co ++ EE)
  refine jj_aload_n C0 1 rfl dX3_deal_34 ?_
  refine jj_bipush C0 dX3_deal_35 (by decide) ?_
  refine jj_lload C0 0 rfl dX3_deal_37 ?_
  refine jj_callVv C0 (cc_X3_addMoney  (k := 6) (x := ((1000 * p) * q)) (by omega)) (cwV 2 hw (lw_gV hU_583 hU_585 hU_29 hU_43 hU_586) rfl rfl rfl (by decide +kernel) ⟨Nat.le_of_ble_eq_true rfl, Nat.le_of_ble_eq_true rfl⟩) (ci := 4) (q0 := 0) rfl (rfl) rfl rfl (Nat.le_of_ble_eq_true rfl) ⟨by decide, by decide⟩ rfl rfl dX3_deal_39 ?_
  intro _ hu
  show jj_W _ _ _ _ _ _ _ _ _ _ _ _ _ _ _ _ _ 42 _ [] (wH ha cA hA nA ed cI cJ cZ td pr up dn dv rw sd mc n mo sh co (va_up (va_up Ca k (Ca k + (-((1000 * p) * q)))) 6 ((va_up Ca k (Ca k + (-((1000 * p) * q)))) 6 + ((1000 * p) * q))) Cz K St Ex Am Bi As BL AL (va_up (va_up He (7 * c + k) (He (7 * c + k) + q)) (7 * c + 6) ((va_up He (7 * c + k) (He (7 * c + k) + q)) (7 * c + 6) + (-q))) Co ++ EE)
  exact jj_vret C0 hr () (trivial) (by simp only [f_dHe, f_dCa, Int.sub_eq_add_neg]) (by decide) (by decide) dX3_deal_42
set_option maxHeartbeats 4000000 in
set_option maxRecDepth 100000 in
theorem cc_X3_buy  {c k : Nat} {x y : Int} (hk : k ≤ 5) (hx : 1 ≤ x ∧ x ≤ 100) (hy : 0 ≤ y ∧ y ≤ 20000) (hcn : c < n) (hBi : ∀ j, 0 ≤ Bi j ∧ Bi j ≤ 20000) (hAs : ∀ j, 0 ≤ As j ∧ As j ≤ 20000) (hBL : ∀ j, 0 ≤ BL j ∧ BL j ≤ 100) (hAL : ∀ j, 0 ≤ AL j ∧ AL j ≤ 100) (hmo : 0 ≤ mo ∧ mo ≤ 1000) (hHe : ∀ j, -1000000 ≤ He j ∧ He j ≤ 1000000) : jj_Mi EVh (dC, dI) vwCl [(cI, .int), (cJ, .long), (cZ, .boolean), (cO, .object "java/lang/Object")] l yX3_buy (Cond.code yX3_buy cX3_buy 7 (some .int) :: lw_U) ({ frames := 2, cells := 0, slots := 0, locals := 49 } : Room) [.ref (ha 0), .int (iI (k : Int)), .ref (cA c), .int (iI x), .int (iI y)] (wH ha cA hA nA ed cI cJ cZ td pr up dn dv rw sd mc n mo sh co Ca Cz K St Ex Am Bi As BL AL He Co ++ EE) (S := Unit) (fun _ => (f_oq x y (Bi c) (As c) (BL c) (AL c) (He (7 * c + 6)) mo)) (fun _ => True) (fun _ => wH ha cA hA nA ed cI cJ cZ td pr up dn dv rw sd mc n mo sh co (f_dCa Ca k (As c) (f_oq x y (Bi c) (As c) (BL c) (AL c) (He (7 * c + 6)) mo)) Cz K St Ex Am Bi As BL (va_up AL c (AL c - (f_oq x y (Bi c) (As c) (BL c) (AL c) (He (7 * c + 6)) mo))) (f_dHe He c k (f_oq x y (Bi c) (As c) (BL c) (AL c) (He (7 * c + 6)) mo)) Co ++ EE) := by
  refine jj_start (cc := cX3_buy) (nL := 7) (ret := (some .int)) (lv := [(0, .ref (ha 0)), (1, .int (iI (k : Int))), (2, .ref (cA c)), (3, .int (iI x)), (4, .int (iI y))]) (fun A => jj_Qi _ _ _ _ _ _ A) hEVh (by decide) rfl (Nat.le_of_ble_eq_true rfl) rfl ?_
  intro p9 e9 s9 m9 a9 b9 me9 c9 A9 C1 hr hin
  have C0 : jj_C p9 s9 m9 a9 me9 c9 (dC, dI) vwCl A9 7 cX3_buy "Strikehall" lw_U _ EVh := jj_toU C1
  have hw := C0.2.2.2.2.1
  have hE := C0.2.2.2.2.2.2.2.1
  obtain ⟨q, hq⟩ : ∃ q, q = (f_oq x y (Bi c) (As c) (BL c) (AL c) (He (7 * c + 6)) mo) := ⟨_, rfl⟩
  rw [← hq]
  have hm1 := hHe (7 * c + 6)
  have hm4 := hBL c
  have hm5 := hAL c
  have hqb := f_oq_bd (x := x) (y := y) (bi := Bi c) (ak := As c) (bl := BL c) (al := AL c) (he := He (7 * c + 6)) (mo := mo) (by omega) hm4.1 hm5.1
  rw [← hq] at hqb
  refine jj_iload C0 4 rfl dX3_buy_0 ?_
  refine jj_aload_n C0 2 rfl dX3_buy_2 ?_
  refine jj_getN C0 (ci := 1) (v := .int (iI (As c))) hin_X0 ((8 + (3 * c + 0))) ((wH_c (c := c) (by omega))) rfl 7 (by decide) (va_Nw.use rfl (hE.1 _ (hN_394))) (fun _ h9 => h9) rfl dX3_buy_3 ?_
  have hb_As_1634 := hAs c
  refine jj_icmp_ge C0 (by omega) (by omega) dX3_buy_6 (tgt := 11) (by decide) (fun c_1 => ?_) (fun c_1 => ?_)
  · refine jj_iconst C0 dX3_buy_11 ?_
    refine jj_aload_n C0 0 rfl dX3_buy_12 ?_
    refine jj_get C0 (ci := 4) (v := .int (iI mo)) hin_X3 (0) (rfl) rfl 5 (by decide) (hw _ hU_143) (fun _ h9 => h9) rfl dX3_buy_13 ?_
    refine jj_aload_n C0 2 rfl dX3_buy_16 ?_
    refine jj_bipush C0 dX3_buy_17 (by decide) ?_
    refine jj_callVNi C0 (cc_X0_lotsAt  (c := c) (k := 6) (by omega) (by first | exact hcn | omega)) ⟨va_cnB 1 hw (lw_gc hU_285 lw_UU) rfl rfl rfl (hE.1 _ hN_281) (hw _ hU_55) (by decide +kernel) ⟨Nat.le_of_ble_eq_true rfl, Nat.le_of_ble_eq_true rfl⟩, hw _ hU_283, hw _ hU_4⟩ (ci := 1) (q0 := (8 + (3 * c + 0))) rfl ((wH_c (c := c) (by omega))) rfl rfl (Nat.le_of_ble_eq_true rfl) ⟨by decide, by decide⟩ rfl rfl dX3_buy_19 ?_
    intro _ hu
    show jj_W _ _ _ _ _ _ _ _ _ _ _ _ _ _ _ _ _ 22 _ [.int (iI (He (7 * c + 6))), .int (iI mo), .int (iI 0)] (wH ha cA hA nA ed cI cJ cZ td pr up dn dv rw sd mc n mo sh co Ca Cz K St Ex Am Bi As BL AL He Co ++ EE)
    refine jj_iadd C0 dX3_buy_22 ?_
    refine jj_mmax C0 (by omega) (by omega) (hw _ hU_574) (List.forall_mem_cons.mpr ⟨hw _ hU_307, List.forall_mem_cons.mpr ⟨hw _ hU_53, List.forall_mem_cons.mpr ⟨hw _ hU_308, fun _ h => absurd h List.not_mem_nil⟩⟩⟩) (by decide) (Nat.le_of_ble_eq_true rfl) ⟨by decide, by decide⟩ dX3_buy_23 ?_
    refine jj_istore C0 (lv' := [(5, .int (iI (max 0 (mo + (He (7 * c + 6)))))), (0, .ref (ha 0)), (1, .int (iI (k : Int))), (2, .ref (cA c)), (3, .int (iI x)), (4, .int (iI y))]) (by decide) rfl dX3_buy_26 ?_
    refine jj_iload_n C0 4 rfl dX3_buy_28 ?_
    refine jj_aload_n C0 3 rfl dX3_buy_29 ?_
    refine jj_getN C0 (ci := 1) (v := .int (iI (AL c))) hin_X0 ((8 + (3 * c + 0))) ((wH_c (c := c) (by omega))) rfl 9 (by decide) (va_Nw.use rfl (hE.1 _ (hN_398))) (fun _ h9 => h9) rfl dX3_buy_30 ?_
    have hb_AL_87852 := hAL c
    refine jj_mmin C0 (by omega) (by omega) (hw _ hU_358) (List.forall_mem_cons.mpr ⟨hw _ hU_317, List.forall_mem_cons.mpr ⟨hw _ hU_53, List.forall_mem_cons.mpr ⟨hw _ hU_318, fun _ h => absurd h List.not_mem_nil⟩⟩⟩) (by decide) (Nat.le_of_ble_eq_true rfl) ⟨by decide, by decide⟩ dX3_buy_33 ?_
    refine jj_iload C0 0 rfl dX3_buy_36 ?_
    refine jj_mmin C0 (by omega) (by omega) (hw _ hU_358) (List.forall_mem_cons.mpr ⟨hw _ hU_317, List.forall_mem_cons.mpr ⟨hw _ hU_53, List.forall_mem_cons.mpr ⟨hw _ hU_318, fun _ h => absurd h List.not_mem_nil⟩⟩⟩) (by decide) (Nat.le_of_ble_eq_true rfl) ⟨by decide, by decide⟩ dX3_buy_38 ?_
    refine jj_topi (b := q) (by rw [hq]; unfold f_oq; rw [if_pos (by omega), if_pos (by omega)]; omega) ?_
    refine jj_istore C0 (lv' := [(6, .int (iI q)), (5, .int (iI (max 0 (mo + (He (7 * c + 6)))))), (0, .ref (ha 0)), (1, .int (iI (k : Int))), (2, .ref (cA c)), (3, .int (iI x)), (4, .int (iI y))]) (by decide) rfl dX3_buy_41 ?_
    refine jj_aload_n C0 2 rfl dX3_buy_43 ?_
    refine jj_iload_n C0 3 rfl dX3_buy_44 ?_
    refine jj_aload_n C0 4 rfl dX3_buy_45 ?_
    refine jj_iload C0 0 rfl dX3_buy_46 ?_
    refine jj_aload_n C0 4 rfl dX3_buy_48 ?_
    refine jj_getN C0 (ci := 1) (v := .int (iI (As c))) hin_X0 ((8 + (3 * c + 0))) ((wH_c (c := c) (by omega))) rfl 7 (by decide) (va_Nw.use rfl (hE.1 _ (hN_394))) (fun _ h9 => h9) rfl dX3_buy_49 ?_
    have hb_As_1634 := hAs c
    refine jj_callVv C0 (cc_X3_deal  (k := k) (c := c) (q := q) (p := (As c)) (by first | exact hk | omega) (by omega) (by omega) (by first | exact hcn | omega)) (cwV 4 hw (lw_gV hU_575 hU_577 hU_27 hU_43 hU_578) rfl rfl rfl (by decide +kernel) ⟨Nat.le_of_ble_eq_true rfl, Nat.le_of_ble_eq_true rfl⟩) (ci := 4) (q0 := 0) rfl (rfl) rfl rfl (Nat.le_of_ble_eq_true rfl) ⟨by decide, by decide⟩ rfl rfl dX3_buy_52 ?_
    intro _ hu
    show jj_W _ _ _ _ _ _ _ _ _ _ _ _ _ _ _ _ _ 55 _ [] (wH ha cA hA nA ed cI cJ cZ td pr up dn dv rw sd mc n mo sh co (f_dCa Ca k (As c) q) Cz K St Ex Am Bi As BL AL (f_dHe He c k q) Co ++ EE)
    refine jj_aload_n C0 4 rfl dX3_buy_55 ?_
    refine jj_dup C0 dX3_buy_56 rfl ?_
    refine jj_getN C0 (ci := 1) (v := .int (iI (AL c))) hin_X0 ((8 + (3 * c + 0))) ((wH_c (c := c) (by omega))) rfl 9 (by decide) (va_Nw.use rfl (hE.1 _ (hN_398))) (fun _ h9 => h9) rfl dX3_buy_57 ?_
    have hb_AL_87852 := hAL c
    refine jj_iload C0 0 rfl dX3_buy_60 ?_
    refine jj_isub C0 dX3_buy_62 ?_
    refine jj_putN C0 (ci := 1) (v := .int (iI ((AL c) - q))) (ty := .int) hin_X0 tyX0 tyX0_ok nmX0 ((8 + (3 * c + 0))) ((wH_c (c := c) (by omega))) rfl 9 (by decide) (va_Nw.use rfl (hE.1 _ (hN_398))) (fun _ h9 => h9) rfl (by decide +kernel) (rfl) rfl (Nat.le_of_ble_eq_true rfl) (ws' := wH ha cA hA nA ed cI cJ cZ td pr up dn dv rw sd mc n mo sh co (f_dCa Ca k (As c) q) Cz K St Ex Am Bi As BL (va_up AL c ((AL c) - q)) (f_dHe He c k q) Co ++ EE) (wH_AL (by omega)) dX3_buy_63 ?_
    refine jj_iload C0 0 rfl dX3_buy_66 ?_
    exact jj_iret C0 hr () (trivial) (rfl) (rfl) (by decide) (by decide) dX3_buy_68
  · refine jj_iconst C0 dX3_buy_9 ?_
    have hq0 : q = 0 := by rw [hq]; unfold f_oq; rw [if_pos (by omega), if_neg (by omega)]
    exact jj_iret C0 hr () (trivial) (hq0.symm) (by rw [hq0, f_dHe_0, f_dCa_0, Int.sub_zero, up_id]) (by decide) (by decide) dX3_buy_10
set_option maxHeartbeats 4000000 in
set_option maxRecDepth 100000 in
theorem cc_X3_sell  {c k : Nat} {x y m : Int} (hk : k ≤ 5) (hm : m = -x ∧ 1 ≤ m ∧ m ≤ 100) (hy : 0 ≤ y ∧ y ≤ 20000) (hcn : c < n) (hBi : ∀ j, 0 ≤ Bi j ∧ Bi j ≤ 20000) (hAs : ∀ j, 0 ≤ As j ∧ As j ≤ 20000) (hBL : ∀ j, 0 ≤ BL j ∧ BL j ≤ 100) (hAL : ∀ j, 0 ≤ AL j ∧ AL j ≤ 100) (hmo : 0 ≤ mo ∧ mo ≤ 1000) (hHe : ∀ j, -1000000 ≤ He j ∧ He j ≤ 1000000) : jj_Mi EVh (dC, dI) vwCl [(cI, .int), (cJ, .long), (cZ, .boolean), (cO, .object "java/lang/Object")] l yX3_sell (Cond.code yX3_sell cX3_sell 7 (some .int) :: lw_U) ({ frames := 2, cells := 0, slots := 0, locals := 49 } : Room) [.ref (ha 0), .int (iI (k : Int)), .ref (cA c), .int (iI m), .int (iI y)] (wH ha cA hA nA ed cI cJ cZ td pr up dn dv rw sd mc n mo sh co Ca Cz K St Ex Am Bi As BL AL He Co ++ EE) (S := Unit) (fun _ => (-(f_oq x y (Bi c) (As c) (BL c) (AL c) (He (7 * c + 6)) mo))) (fun _ => True) (fun _ => wH ha cA hA nA ed cI cJ cZ td pr up dn dv rw sd mc n mo sh co (f_dCa Ca k (Bi c) (f_oq x y (Bi c) (As c) (BL c) (AL c) (He (7 * c + 6)) mo)) Cz K St Ex Am Bi As (va_up BL c (BL c - (-(f_oq x y (Bi c) (As c) (BL c) (AL c) (He (7 * c + 6)) mo)))) AL (f_dHe He c k (f_oq x y (Bi c) (As c) (BL c) (AL c) (He (7 * c + 6)) mo)) Co ++ EE) := by
  refine jj_start (cc := cX3_sell) (nL := 7) (ret := (some .int)) (lv := [(0, .ref (ha 0)), (1, .int (iI (k : Int))), (2, .ref (cA c)), (3, .int (iI m)), (4, .int (iI y))]) (fun A => jj_Qi _ _ _ _ _ _ A) hEVh (by decide) rfl (Nat.le_of_ble_eq_true rfl) rfl ?_
  intro p9 e9 s9 m9 a9 b9 me9 c9 A9 C1 hr hin
  have C0 : jj_C p9 s9 m9 a9 me9 c9 (dC, dI) vwCl A9 7 cX3_sell "Strikehall" lw_U _ EVh := jj_toU C1
  have hw := C0.2.2.2.2.1
  have hE := C0.2.2.2.2.2.2.2.1
  obtain ⟨q, hq⟩ : ∃ q, q = (f_oq x y (Bi c) (As c) (BL c) (AL c) (He (7 * c + 6)) mo) := ⟨_, rfl⟩
  rw [← hq]
  have hm1 := hHe (7 * c + 6)
  have hm4 := hBL c
  have hm5 := hAL c
  have hqb := f_oq_bd (x := x) (y := y) (bi := Bi c) (ak := As c) (bl := BL c) (al := AL c) (he := He (7 * c + 6)) (mo := mo) (by omega) hm4.1 hm5.1
  rw [← hq] at hqb
  refine jj_iload C0 4 rfl dX3_sell_0 ?_
  refine jj_aload_n C0 2 rfl dX3_sell_2 ?_
  refine jj_getN C0 (ci := 1) (v := .int (iI (Bi c))) hin_X0 ((8 + (3 * c + 0))) ((wH_c (c := c) (by omega))) rfl 6 (by decide) (va_Nw.use rfl (hE.1 _ (hN_392))) (fun _ h9 => h9) rfl dX3_sell_3 ?_
  have hb_Bi_58995 := hBi c
  refine jj_icmp_le C0 (by omega) (by omega) dX3_sell_6 (tgt := 11) (by decide) (fun c_1 => ?_) (fun c_1 => ?_)
  · refine jj_iconst C0 dX3_sell_11 ?_
    refine jj_aload_n C0 0 rfl dX3_sell_12 ?_
    refine jj_get C0 (ci := 4) (v := .int (iI mo)) hin_X3 (0) (rfl) rfl 5 (by decide) (hw _ hU_143) (fun _ h9 => h9) rfl dX3_sell_13 ?_
    refine jj_aload_n C0 2 rfl dX3_sell_16 ?_
    refine jj_bipush C0 dX3_sell_17 (by decide) ?_
    refine jj_callVNi C0 (cc_X0_lotsAt  (c := c) (k := 6) (by omega) (by first | exact hcn | omega)) ⟨va_cnB 1 hw (lw_gc hU_285 lw_UU) rfl rfl rfl (hE.1 _ hN_281) (hw _ hU_55) (by decide +kernel) ⟨Nat.le_of_ble_eq_true rfl, Nat.le_of_ble_eq_true rfl⟩, hw _ hU_283, hw _ hU_4⟩ (ci := 1) (q0 := (8 + (3 * c + 0))) rfl ((wH_c (c := c) (by omega))) rfl rfl (Nat.le_of_ble_eq_true rfl) ⟨by decide, by decide⟩ rfl rfl dX3_sell_19 ?_
    intro _ hu
    show jj_W _ _ _ _ _ _ _ _ _ _ _ _ _ _ _ _ _ 22 _ [.int (iI (He (7 * c + 6))), .int (iI mo), .int (iI 0)] (wH ha cA hA nA ed cI cJ cZ td pr up dn dv rw sd mc n mo sh co Ca Cz K St Ex Am Bi As BL AL He Co ++ EE)
    refine jj_isub C0 dX3_sell_22 ?_
    refine jj_mmax C0 (by omega) (by omega) (hw _ hU_574) (List.forall_mem_cons.mpr ⟨hw _ hU_307, List.forall_mem_cons.mpr ⟨hw _ hU_53, List.forall_mem_cons.mpr ⟨hw _ hU_308, fun _ h => absurd h List.not_mem_nil⟩⟩⟩) (by decide) (Nat.le_of_ble_eq_true rfl) ⟨by decide, by decide⟩ dX3_sell_23 ?_
    refine jj_istore C0 (lv' := [(5, .int (iI (max 0 (mo - (He (7 * c + 6)))))), (0, .ref (ha 0)), (1, .int (iI (k : Int))), (2, .ref (cA c)), (3, .int (iI m)), (4, .int (iI y))]) (by decide) rfl dX3_sell_26 ?_
    refine jj_iload_n C0 4 rfl dX3_sell_28 ?_
    refine jj_aload_n C0 3 rfl dX3_sell_29 ?_
    refine jj_getN C0 (ci := 1) (v := .int (iI (BL c))) hin_X0 ((8 + (3 * c + 0))) ((wH_c (c := c) (by omega))) rfl 8 (by decide) (va_Nw.use rfl (hE.1 _ (hN_396))) (fun _ h9 => h9) rfl dX3_sell_30 ?_
    have hb_BL_58307 := hBL c
    refine jj_mmin C0 (by omega) (by omega) (hw _ hU_358) (List.forall_mem_cons.mpr ⟨hw _ hU_317, List.forall_mem_cons.mpr ⟨hw _ hU_53, List.forall_mem_cons.mpr ⟨hw _ hU_318, fun _ h => absurd h List.not_mem_nil⟩⟩⟩) (by decide) (Nat.le_of_ble_eq_true rfl) ⟨by decide, by decide⟩ dX3_sell_33 ?_
    refine jj_iload C0 0 rfl dX3_sell_36 ?_
    refine jj_mmin C0 (by omega) (by omega) (hw _ hU_358) (List.forall_mem_cons.mpr ⟨hw _ hU_317, List.forall_mem_cons.mpr ⟨hw _ hU_53, List.forall_mem_cons.mpr ⟨hw _ hU_318, fun _ h => absurd h List.not_mem_nil⟩⟩⟩) (by decide) (Nat.le_of_ble_eq_true rfl) ⟨by decide, by decide⟩ dX3_sell_38 ?_
    refine jj_topi (b := (-q)) (by rw [hq]; unfold f_oq; rw [if_neg (by omega), if_pos (by omega)]; omega) ?_
    refine jj_istore C0 (lv' := [(6, .int (iI (-q))), (5, .int (iI (max 0 (mo - (He (7 * c + 6)))))), (0, .ref (ha 0)), (1, .int (iI (k : Int))), (2, .ref (cA c)), (3, .int (iI m)), (4, .int (iI y))]) (by decide) rfl dX3_sell_41 ?_
    refine jj_aload_n C0 2 rfl dX3_sell_43 ?_
    refine jj_iload_n C0 3 rfl dX3_sell_44 ?_
    refine jj_aload_n C0 4 rfl dX3_sell_45 ?_
    refine jj_iload C0 0 rfl dX3_sell_46 ?_
    refine jj_ineg C0 dX3_sell_48 ?_
    refine jj_topi (b := q) (by omega) ?_
    refine jj_aload_n C0 4 rfl dX3_sell_49 ?_
    refine jj_getN C0 (ci := 1) (v := .int (iI (Bi c))) hin_X0 ((8 + (3 * c + 0))) ((wH_c (c := c) (by omega))) rfl 6 (by decide) (va_Nw.use rfl (hE.1 _ (hN_392))) (fun _ h9 => h9) rfl dX3_sell_50 ?_
    have hb_Bi_58995 := hBi c
    refine jj_callVv C0 (cc_X3_deal  (k := k) (c := c) (q := q) (p := (Bi c)) (by first | exact hk | omega) (by omega) (by omega) (by first | exact hcn | omega)) (cwV 4 hw (lw_gV hU_575 hU_577 hU_27 hU_43 hU_578) rfl rfl rfl (by decide +kernel) ⟨Nat.le_of_ble_eq_true rfl, Nat.le_of_ble_eq_true rfl⟩) (ci := 4) (q0 := 0) rfl (rfl) rfl rfl (Nat.le_of_ble_eq_true rfl) ⟨by decide, by decide⟩ rfl rfl dX3_sell_53 ?_
    intro _ hu
    show jj_W _ _ _ _ _ _ _ _ _ _ _ _ _ _ _ _ _ 56 _ [] (wH ha cA hA nA ed cI cJ cZ td pr up dn dv rw sd mc n mo sh co (f_dCa Ca k (Bi c) q) Cz K St Ex Am Bi As BL AL (f_dHe He c k q) Co ++ EE)
    refine jj_aload_n C0 4 rfl dX3_sell_56 ?_
    refine jj_dup C0 dX3_sell_57 rfl ?_
    refine jj_getN C0 (ci := 1) (v := .int (iI (BL c))) hin_X0 ((8 + (3 * c + 0))) ((wH_c (c := c) (by omega))) rfl 8 (by decide) (va_Nw.use rfl (hE.1 _ (hN_396))) (fun _ h9 => h9) rfl dX3_sell_58 ?_
    have hb_BL_58307 := hBL c
    refine jj_iload C0 0 rfl dX3_sell_61 ?_
    refine jj_isub C0 dX3_sell_63 ?_
    refine jj_putN C0 (ci := 1) (v := .int (iI ((BL c) - (-q)))) (ty := .int) hin_X0 tyX0 tyX0_ok nmX0 ((8 + (3 * c + 0))) ((wH_c (c := c) (by omega))) rfl 8 (by decide) (va_Nw.use rfl (hE.1 _ (hN_396))) (fun _ h9 => h9) rfl (by decide +kernel) (rfl) rfl (Nat.le_of_ble_eq_true rfl) (ws' := wH ha cA hA nA ed cI cJ cZ td pr up dn dv rw sd mc n mo sh co (f_dCa Ca k (Bi c) q) Cz K St Ex Am Bi As (va_up BL c ((BL c) - (-q))) AL (f_dHe He c k q) Co ++ EE) (wH_BL (by omega)) dX3_sell_64 ?_
    refine jj_iload C0 0 rfl dX3_sell_67 ?_
    exact jj_iret C0 hr () (trivial) (rfl) (rfl) (by decide) (by decide) dX3_sell_69
  · refine jj_iconst C0 dX3_sell_9 ?_
    have hq0 : q = 0 := by rw [hq]; unfold f_oq; rw [if_neg (by omega), if_neg (by omega)]
    exact jj_iret C0 hr () (trivial) (by rw [hq0]; rfl) (by rw [hq0, f_dHe_0, f_dCa_0, Int.neg_zero, Int.sub_zero, up_id]) (by decide) (by decide) dX3_sell_10
set_option maxHeartbeats 4000000 in
set_option maxRecDepth 100000 in
theorem cc_X3_order  {c k : Nat} {x y : Int} (hk : k ≤ 5) (hx : -100 ≤ x ∧ x ≤ 100 ∧ x ≠ 0) (hy : 0 ≤ y ∧ y ≤ 20000) (hov : (td : Int) ≤ Ex c) (hQ0 : (0 < BL c ∨ 0 < AL c) ∨ (Bi c = 0 ∧ As c = 0)) (hcn : c < n) (hHe1 : ∀ j, -999000 ≤ He j ∧ He j ≤ 999000) (hBi : ∀ j, 0 ≤ Bi j ∧ Bi j ≤ 20000) (hAs : ∀ j, 0 ≤ As j ∧ As j ≤ 20000) (hBL : ∀ j, 0 ≤ BL j ∧ BL j ≤ 100) (hAL : ∀ j, 0 ≤ AL j ∧ AL j ≤ 100) (hmo : 0 ≤ mo ∧ mo ≤ 1000) (hpr : 0 ≤ pr ∧ pr ≤ 20000) (hexs : ∀ c, c < n → Ex c ≤ (td : Int) + 10) (hn : n ≤ 12) (htd : td ≤ 200) (hup : 1 ≤ up ∧ up ≤ 10) (hdn : 1 ≤ dn ∧ dn ≤ 10) (hdv : ∀ j, 0 ≤ dv j ∧ dv j ≤ 1000) (hK : ∀ j, 0 ≤ K j ∧ K j ≤ 1) (hSt : ∀ j, 0 ≤ St j ∧ St j ≤ 20000) (hEx : ∀ j, 0 ≤ Ex j ∧ Ex j ≤ 200) (hAm : ∀ j, 0 ≤ Am j ∧ Am j ≤ 1) (hsh : -100000 ≤ sh ∧ sh ≤ 100000) (hED : 0 < n → f_ED cA n ed cO EE) : jj_Mi EVh (dC, dI) vwCl [(cI, .int), (cJ, .long), (cZ, .boolean), (cO, .object "java/lang/Object")] l yX3_order (Cond.code yX3_order cX3_order 9 (some .int) :: lw_U) ({ frames := 6, cells := 0, slots := 0, locals := 142 } : Room) [.ref (ha 0), .int (iI (k : Int)), .int (iI (c : Int)), .int (iI x), .int (iI y)] (wH ha cA hA nA ed cI cJ cZ td pr up dn dv rw sd mc n mo sh co Ca Cz K St Ex Am Bi As BL AL He Co ++ EE) (S := (Nat → Int)) (fun r8 => (if 0 < x then (f_oq x y (Bi c) (As c) (BL c) (AL c) (He (7 * c + 6)) mo) else -(f_oq x y (Bi c) (As c) (BL c) (AL c) (He (7 * c + 6)) mo))) (fun r8 => True) (fun r8 => wH ha cA hA nA ed cI cJ cZ td pr up dn dv r8 sd mc n mo sh co (f_dCa Ca k (if 0 < x then As c else Bi c) (f_oq x y (Bi c) (As c) (BL c) (AL c) (He (7 * c + 6)) mo)) (va_up Cz 0 ((Cz 0) + ((f_W up dn dv td n K St Ex Am (f_dHe He c k (f_oq x y (Bi c) (As c) (BL c) (AL c) (He (7 * c + 6)) mo)) (f_dCa Ca k (if 0 < x then As c else Bi c) (f_oq x y (Bi c) (As c) (BL c) (AL c) (He (7 * c + 6)) mo)) sh pr) - (f_W up dn dv td n K St Ex Am He Ca sh pr)))) K St Ex Am (va_up Bi c (if 0 < (va_up BL c (BL c - (if 0 < x then 0 else -(f_oq x y (Bi c) (As c) (BL c) (AL c) (He (7 * c + 6)) mo)))) c ∨ 0 < (va_up AL c (AL c - (if 0 < x then (f_oq x y (Bi c) (As c) (BL c) (AL c) (He (7 * c + 6)) mo) else 0))) c then Bi c else 0)) (va_up As c (if 0 < (va_up BL c (BL c - (if 0 < x then 0 else -(f_oq x y (Bi c) (As c) (BL c) (AL c) (He (7 * c + 6)) mo)))) c ∨ 0 < (va_up AL c (AL c - (if 0 < x then (f_oq x y (Bi c) (As c) (BL c) (AL c) (He (7 * c + 6)) mo) else 0))) c then As c else 0)) (va_up BL c (BL c - (if 0 < x then 0 else -(f_oq x y (Bi c) (As c) (BL c) (AL c) (He (7 * c + 6)) mo)))) (va_up AL c (AL c - (if 0 < x then (f_oq x y (Bi c) (As c) (BL c) (AL c) (He (7 * c + 6)) mo) else 0))) (f_dHe He c k (f_oq x y (Bi c) (As c) (BL c) (AL c) (He (7 * c + 6)) mo)) Co ++ EE) := by
  refine jj_start (cc := cX3_order) (nL := 9) (ret := (some .int)) (lv := [(0, .ref (ha 0)), (1, .int (iI (k : Int))), (2, .int (iI (c : Int))), (3, .int (iI x)), (4, .int (iI y))]) (fun A => jj_Qi _ _ _ _ _ _ A) hEVh (by decide) rfl (Nat.le_of_ble_eq_true rfl) rfl ?_
  intro p9 e9 s9 m9 a9 b9 me9 c9 A9 C1 hr hin
  have C0 : jj_C p9 s9 m9 a9 me9 c9 (dC, dI) vwCl A9 9 cX3_order "Strikehall" lw_U _ EVh := jj_toU C1
  have hw := C0.2.2.2.2.1
  have hE := C0.2.2.2.2.2.2.2.1
  have hHe : ∀ j, -1000000 ≤ He j ∧ He j ≤ 1000000 := fun j => by have := hHe1 j; omega
  obtain ⟨q, hq⟩ : ∃ q, q = (f_oq x y (Bi c) (As c) (BL c) (AL c) (He (7 * c + 6)) mo) := ⟨_, rfl⟩
  have hm4 := hBL c
  have hm5 := hAL c
  have hqb := f_oq_bd (x := x) (y := y) (bi := Bi c) (ak := As c) (bl := BL c) (al := AL c) (he := He (7 * c + 6)) (mo := mo) (by omega) hm4.1 hm5.1
  refine jj_iload_n C0 1 rfl dX3_order_0 ?_
  refine jj_callSv C0 (cc_X3_checkCustomer  (z := (k : Int)) (by omega)) (cwS 1 hw (lw_gS hU_565 hU_566 hU_43 hU_567) rfl rfl rfl (by decide +kernel) ⟨Nat.le_of_ble_eq_true rfl, Nat.le_of_ble_eq_true rfl⟩) rfl rfl (Nat.le_of_ble_eq_true rfl) ⟨by decide, by decide⟩ rfl rfl dX3_order_1 ?_
  intro _ hu
  show jj_W _ _ _ _ _ _ _ _ _ _ _ _ _ _ _ _ _ 4 _ [] (wH ha cA hA nA ed cI cJ cZ td pr up dn dv rw sd mc n mo sh co Ca Cz K St Ex Am Bi As BL AL He Co ++ EE)
  refine jj_aload_n C0 0 rfl dX3_order_4 ?_
  refine jj_iload_n C0 2 rfl dX3_order_5 ?_
  refine jj_callVr C0 (cc_X3_contractOf  (c := c) (by first | exact hcn | omega) (by first | exact hn | omega) (by first | exact hED | omega)) (cwV 1 hw (lw_gV hU_481 hU_483 hU_16 hU_43 hU_484) rfl rfl rfl (by decide +kernel) ⟨Nat.le_of_ble_eq_true rfl, Nat.le_of_ble_eq_true rfl⟩) (ci := 4) (q0 := 0) rfl (rfl) rfl rfl (Nat.le_of_ble_eq_true rfl) ⟨by decide, by decide⟩ rfl rfl dX3_order_6 ?_
  intro _ hu
  show jj_W _ _ _ _ _ _ _ _ _ _ _ _ _ _ _ _ _ 9 _ [.ref (cA c)] (wH ha cA hA nA ed cI cJ cZ td pr up dn dv rw sd mc n mo sh co Ca Cz K St Ex Am Bi As BL AL He Co ++ EE)
  refine jj_astore C0 (lv' := [(5, .ref (cA c)), (0, .ref (ha 0)), (1, .int (iI (k : Int))), (2, .int (iI (c : Int))), (3, .int (iI x)), (4, .int (iI y))]) (by decide) rfl dX3_order_9 ?_
  refine jj_iload_n C0 4 rfl dX3_order_11 ?_
  refine jj_bipush C0 dX3_order_12 (by decide) ?_
  refine jj_bipush C0 dX3_order_14 (by decide) ?_
  refine jj_callSv C0 (cc_X3_checkRange  (a := x) (b := (-100)) (d := 100) (by omega) (by omega) (by omega) (by omega)) (cwS 3 hw (lw_gS hU_178 hU_179 hU_43 hU_180) rfl rfl rfl (by decide +kernel) ⟨Nat.le_of_ble_eq_true rfl, Nat.le_of_ble_eq_true rfl⟩) rfl rfl (Nat.le_of_ble_eq_true rfl) ⟨by decide, by decide⟩ rfl rfl dX3_order_16 ?_
  intro _ hu
  show jj_W _ _ _ _ _ _ _ _ _ _ _ _ _ _ _ _ _ 19 _ [] (wH ha cA hA nA ed cI cJ cZ td pr up dn dv rw sd mc n mo sh co Ca Cz K St Ex Am Bi As BL AL He Co ++ EE)
  refine jj_iload_n C0 4 rfl dX3_order_19 ?_
  refine jj_if_ne C0 (by omega) dX3_order_20 (tgt := 33) (by decide) (fun c_1 => ?_) (fun c_1 => absurd c_1 (by omega))
  refine jj_iload C0 5 rfl dX3_order_33 ?_
  refine jj_iconst C0 dX3_order_35 ?_
  refine jj_sipush C0 dX3_order_36 (by decide) ?_
  refine jj_callSv C0 (cc_X3_checkRange  (a := y) (b := 0) (d := 20000) (by omega) (by omega) (by omega) (by omega)) (cwS 3 hw (lw_gS hU_178 hU_179 hU_43 hU_180) rfl rfl rfl (by decide +kernel) ⟨Nat.le_of_ble_eq_true rfl, Nat.le_of_ble_eq_true rfl⟩) rfl rfl (Nat.le_of_ble_eq_true rfl) ⟨by decide, by decide⟩ rfl rfl dX3_order_39 ?_
  intro _ hu
  show jj_W _ _ _ _ _ _ _ _ _ _ _ _ _ _ _ _ _ 42 _ [] (wH ha cA hA nA ed cI cJ cZ td pr up dn dv rw sd mc n mo sh co Ca Cz K St Ex Am Bi As BL AL He Co ++ EE)
  refine jj_aload_n C0 1 rfl dX3_order_42 ?_
  refine jj_aload C0 0 rfl dX3_order_43 ?_
  refine jj_callVv C0 (cc_X3_checkNotOver  (c := c) (by first | exact hov | omega) (by first | exact hcn | omega) (by first | exact htd | omega) (by first | exact hEx | omega)) (cwV 1 hw (lw_gV hU_501 hU_503 hU_17 hU_43 hU_504) rfl rfl rfl (by decide +kernel) ⟨Nat.le_of_ble_eq_true rfl, Nat.le_of_ble_eq_true rfl⟩) (ci := 4) (q0 := 0) rfl (rfl) rfl rfl (Nat.le_of_ble_eq_true rfl) ⟨by decide, by decide⟩ rfl rfl dX3_order_45 ?_
  intro _ hu
  show jj_W _ _ _ _ _ _ _ _ _ _ _ _ _ _ _ _ _ 48 _ [] (wH ha cA hA nA ed cI cJ cZ td pr up dn dv rw sd mc n mo sh co Ca Cz K St Ex Am Bi As BL AL He Co ++ EE)
  refine jj_aload_n C0 1 rfl dX3_order_48 ?_
  refine jj_callVl C0 (cc_X3_worthNow   (by first | exact hpr | omega) (by first | exact hexs | omega) (by first | exact hn | omega) (by first | exact htd | omega) (by first | exact hup | omega) (by first | exact hdn | omega) (by first | exact hdv | omega) (by first | exact hK | omega) (by first | exact hSt | omega) (by first | exact hEx | omega) (by first | exact hAm | omega) (by first | exact hHe | omega) (by first | exact hsh | omega) (by first | exact hED | omega)) (cwV 0 hw (lw_gV hU_249 hU_251 hU_1 hU_43 hU_252) rfl rfl rfl (by decide +kernel) ⟨Nat.le_of_ble_eq_true rfl, Nat.le_of_ble_eq_true rfl⟩) (ci := 4) (q0 := 0) rfl (rfl) rfl rfl (Nat.le_of_ble_eq_true rfl) ⟨by decide, by decide⟩ rfl rfl dX3_order_49 ?_
  intro r8_2 hu
  show jj_W _ _ _ _ _ _ _ _ _ _ _ _ _ _ _ _ _ 52 _ [.long (lI (f_W up dn dv td n K St Ex Am He Ca sh pr))] (wH ha cA hA nA ed cI cJ cZ td pr up dn dv r8_2 sd mc n mo sh co Ca Cz K St Ex Am Bi As BL AL He Co ++ EE)
  refine jj_lstore C0 (lv' := [(6, .long (lI (f_W up dn dv td n K St Ex Am He Ca sh pr))), (5, .ref (cA c)), (0, .ref (ha 0)), (1, .int (iI (k : Int))), (2, .int (iI (c : Int))), (3, .int (iI x)), (4, .int (iI y))]) (by decide) rfl dX3_order_52 ?_
  refine jj_join (X := Unit) (pcj := 82) (fun q9 => match q9 with | () => [(6, .long (lI (f_W up dn dv td n K St Ex Am He Ca sh pr))), (5, .ref (cA c)), (0, .ref (ha 0)), (1, .int (iI (k : Int))), (2, .int (iI (c : Int))), (3, .int (iI x)), (4, .int (iI y))]) (fun q9 => match q9 with | () => [.int (iI (if 0 < x then (f_oq x y (Bi c) (As c) (BL c) (AL c) (He (7 * c + 6)) mo) else -(f_oq x y (Bi c) (As c) (BL c) (AL c) (He (7 * c + 6)) mo)))]) (fun q9 => match q9 with | () => wH ha cA hA nA ed cI cJ cZ td pr up dn dv r8_2 sd mc n mo sh co (f_dCa Ca k (if 0 < x then As c else Bi c) (f_oq x y (Bi c) (As c) (BL c) (AL c) (He (7 * c + 6)) mo)) Cz K St Ex Am Bi As (va_up BL c (BL c - (if 0 < x then 0 else -(f_oq x y (Bi c) (As c) (BL c) (AL c) (He (7 * c + 6)) mo)))) (va_up AL c (AL c - (if 0 < x then (f_oq x y (Bi c) (As c) (BL c) (AL c) (He (7 * c + 6)) mo) else 0))) (f_dHe He c k (f_oq x y (Bi c) (As c) (BL c) (AL c) (He (7 * c + 6)) mo)) Co ++ EE) (fun q9 => match q9 with | () => True) ?_ ?_
  · intro q9 hq9
    obtain ⟨⟩ := q9
    have _ : True := hq9
    refine jj_istore C0 (lv' := [(8, .int (iI (if 0 < x then (f_oq x y (Bi c) (As c) (BL c) (AL c) (He (7 * c + 6)) mo) else -(f_oq x y (Bi c) (As c) (BL c) (AL c) (He (7 * c + 6)) mo)))), (6, .long (lI (f_W up dn dv td n K St Ex Am He Ca sh pr))), (5, .ref (cA c)), (0, .ref (ha 0)), (1, .int (iI (k : Int))), (2, .int (iI (c : Int))), (3, .int (iI x)), (4, .int (iI y))]) (by decide) rfl dX3_order_82 ?_
    refine jj_aload C0 2 rfl dX3_order_84 ?_
    refine jj_callVNv C0 (cc_X0_endQuoteUsedUp  (c := c) (by first | exact hcn | omega) (up_bd hBL (by split <;> omega)) (up_bd hAL (by split <;> omega))) ⟨va_cnB 0 hw (lw_gc hU_594 lw_UU) rfl rfl rfl (hE.1 _ hN_591) (hw _ hU_55) (by decide +kernel) ⟨Nat.le_of_ble_eq_true rfl, Nat.le_of_ble_eq_true rfl⟩, hw _ hU_593, hw _ hU_31⟩ (ci := 1) (q0 := (8 + (3 * c + 0))) rfl ((wH_c (c := c) (by omega))) rfl rfl (Nat.le_of_ble_eq_true rfl) ⟨by decide, by decide⟩ rfl rfl dX3_order_86 ?_
    intro _ hu
    show jj_W _ _ _ _ _ _ _ _ _ _ _ _ _ _ _ _ _ 89 _ [] (wH ha cA hA nA ed cI cJ cZ td pr up dn dv r8_2 sd mc n mo sh co (f_dCa Ca k (if 0 < x then As c else Bi c) (f_oq x y (Bi c) (As c) (BL c) (AL c) (He (7 * c + 6)) mo)) Cz K St Ex Am (va_up Bi c (if 0 < (va_up BL c (BL c - (if 0 < x then 0 else -(f_oq x y (Bi c) (As c) (BL c) (AL c) (He (7 * c + 6)) mo)))) c ∨ 0 < (va_up AL c (AL c - (if 0 < x then (f_oq x y (Bi c) (As c) (BL c) (AL c) (He (7 * c + 6)) mo) else 0))) c then Bi c else 0)) (va_up As c (if 0 < (va_up BL c (BL c - (if 0 < x then 0 else -(f_oq x y (Bi c) (As c) (BL c) (AL c) (He (7 * c + 6)) mo)))) c ∨ 0 < (va_up AL c (AL c - (if 0 < x then (f_oq x y (Bi c) (As c) (BL c) (AL c) (He (7 * c + 6)) mo) else 0))) c then As c else 0)) (va_up BL c (BL c - (if 0 < x then 0 else -(f_oq x y (Bi c) (As c) (BL c) (AL c) (He (7 * c + 6)) mo)))) (va_up AL c (AL c - (if 0 < x then (f_oq x y (Bi c) (As c) (BL c) (AL c) (He (7 * c + 6)) mo) else 0))) (f_dHe He c k (f_oq x y (Bi c) (As c) (BL c) (AL c) (He (7 * c + 6)) mo)) Co ++ EE)
    refine jj_aload_n C0 3 rfl dX3_order_89 ?_
    refine jj_iconst C0 dX3_order_90 ?_
    refine jj_aload_n C0 3 rfl dX3_order_91 ?_
    refine jj_callVl C0 (cc_X3_worthNow   (by first | exact hpr | omega) (by first | exact hexs | omega) (by first | exact hn | omega) (by first | exact htd | omega) (by first | exact hup | omega) (by first | exact hdn | omega) (by first | exact hdv | omega) (by first | exact hK | omega) (by first | exact hSt | omega) (by first | exact hEx | omega) (by first | exact hAm | omega) (f_dHe_bd hHe1 (by omega)) (by first | exact hsh | omega) (by first | exact hED | omega)) (cwV 0 hw (lw_gV hU_249 hU_251 hU_1 hU_43 hU_252) rfl rfl rfl (by decide +kernel) ⟨Nat.le_of_ble_eq_true rfl, Nat.le_of_ble_eq_true rfl⟩) (ci := 4) (q0 := 0) rfl (rfl) rfl rfl (Nat.le_of_ble_eq_true rfl) ⟨by decide, by decide⟩ rfl rfl dX3_order_92 ?_
    intro r8_3 hu
    show jj_W _ _ _ _ _ _ _ _ _ _ _ _ _ _ _ _ _ 95 _ [.long (lI (f_W up dn dv td n K St Ex Am (f_dHe He c k (f_oq x y (Bi c) (As c) (BL c) (AL c) (He (7 * c + 6)) mo)) (f_dCa Ca k (if 0 < x then As c else Bi c) (f_oq x y (Bi c) (As c) (BL c) (AL c) (He (7 * c + 6)) mo)) sh pr)), .int (iI 0), .ref (ha 0)] (wH ha cA hA nA ed cI cJ cZ td pr up dn dv r8_3 sd mc n mo sh co (f_dCa Ca k (if 0 < x then As c else Bi c) (f_oq x y (Bi c) (As c) (BL c) (AL c) (He (7 * c + 6)) mo)) Cz K St Ex Am (va_up Bi c (if 0 < (va_up BL c (BL c - (if 0 < x then 0 else -(f_oq x y (Bi c) (As c) (BL c) (AL c) (He (7 * c + 6)) mo)))) c ∨ 0 < (va_up AL c (AL c - (if 0 < x then (f_oq x y (Bi c) (As c) (BL c) (AL c) (He (7 * c + 6)) mo) else 0))) c then Bi c else 0)) (va_up As c (if 0 < (va_up BL c (BL c - (if 0 < x then 0 else -(f_oq x y (Bi c) (As c) (BL c) (AL c) (He (7 * c + 6)) mo)))) c ∨ 0 < (va_up AL c (AL c - (if 0 < x then (f_oq x y (Bi c) (As c) (BL c) (AL c) (He (7 * c + 6)) mo) else 0))) c then As c else 0)) (va_up BL c (BL c - (if 0 < x then 0 else -(f_oq x y (Bi c) (As c) (BL c) (AL c) (He (7 * c + 6)) mo)))) (va_up AL c (AL c - (if 0 < x then (f_oq x y (Bi c) (As c) (BL c) (AL c) (He (7 * c + 6)) mo) else 0))) (f_dHe He c k (f_oq x y (Bi c) (As c) (BL c) (AL c) (He (7 * c + 6)) mo)) Co ++ EE)
    refine jj_lload C0 1 rfl dX3_order_95 ?_
    refine jj_lsub C0 dX3_order_97 ?_
    refine jj_callVv C0 (cc_X3_addProfit  (k := 0) (x := ((f_W up dn dv td n K St Ex Am (f_dHe He c k (f_oq x y (Bi c) (As c) (BL c) (AL c) (He (7 * c + 6)) mo)) (f_dCa Ca k (if 0 < x then As c else Bi c) (f_oq x y (Bi c) (As c) (BL c) (AL c) (He (7 * c + 6)) mo)) sh pr) - (f_W up dn dv td n K St Ex Am He Ca sh pr))) (by omega)) (cwV 2 hw (lw_gV hU_325 hU_327 hU_11 hU_43 hU_328) rfl rfl rfl (by decide +kernel) ⟨Nat.le_of_ble_eq_true rfl, Nat.le_of_ble_eq_true rfl⟩) (ci := 4) (q0 := 0) rfl (rfl) rfl rfl (Nat.le_of_ble_eq_true rfl) ⟨by decide, by decide⟩ rfl rfl dX3_order_98 ?_
    intro _ hu
    show jj_W _ _ _ _ _ _ _ _ _ _ _ _ _ _ _ _ _ 101 _ [] (wH ha cA hA nA ed cI cJ cZ td pr up dn dv r8_3 sd mc n mo sh co (f_dCa Ca k (if 0 < x then As c else Bi c) (f_oq x y (Bi c) (As c) (BL c) (AL c) (He (7 * c + 6)) mo)) (va_up Cz 0 (Cz 0 + ((f_W up dn dv td n K St Ex Am (f_dHe He c k (f_oq x y (Bi c) (As c) (BL c) (AL c) (He (7 * c + 6)) mo)) (f_dCa Ca k (if 0 < x then As c else Bi c) (f_oq x y (Bi c) (As c) (BL c) (AL c) (He (7 * c + 6)) mo)) sh pr) - (f_W up dn dv td n K St Ex Am He Ca sh pr)))) K St Ex Am (va_up Bi c (if 0 < (va_up BL c (BL c - (if 0 < x then 0 else -(f_oq x y (Bi c) (As c) (BL c) (AL c) (He (7 * c + 6)) mo)))) c ∨ 0 < (va_up AL c (AL c - (if 0 < x then (f_oq x y (Bi c) (As c) (BL c) (AL c) (He (7 * c + 6)) mo) else 0))) c then Bi c else 0)) (va_up As c (if 0 < (va_up BL c (BL c - (if 0 < x then 0 else -(f_oq x y (Bi c) (As c) (BL c) (AL c) (He (7 * c + 6)) mo)))) c ∨ 0 < (va_up AL c (AL c - (if 0 < x then (f_oq x y (Bi c) (As c) (BL c) (AL c) (He (7 * c + 6)) mo) else 0))) c then As c else 0)) (va_up BL c (BL c - (if 0 < x then 0 else -(f_oq x y (Bi c) (As c) (BL c) (AL c) (He (7 * c + 6)) mo)))) (va_up AL c (AL c - (if 0 < x then (f_oq x y (Bi c) (As c) (BL c) (AL c) (He (7 * c + 6)) mo) else 0))) (f_dHe He c k (f_oq x y (Bi c) (As c) (BL c) (AL c) (He (7 * c + 6)) mo)) Co ++ EE)
    refine jj_iload C0 0 rfl dX3_order_101 ?_
    exact jj_iret C0 hr r8_3 (trivial) (rfl) (rfl) (by decide) (by decide) dX3_order_103
  intro j82
  refine jj_iload_n C0 5 rfl dX3_order_54 ?_
  refine jj_if_le C0 (by omega) dX3_order_55 (tgt := 71) (by decide) (fun c_4 => ?_) (fun c_4 => ?_)
  · refine jj_aload_n C0 2 rfl dX3_order_71 ?_
    refine jj_iload_n C0 3 rfl dX3_order_72 ?_
    refine jj_aload C0 1 rfl dX3_order_73 ?_
    refine jj_iload_n C0 5 rfl dX3_order_75 ?_
    refine jj_ineg C0 dX3_order_76 ?_
    refine jj_iload C0 6 rfl dX3_order_77 ?_
    refine jj_callVi C0 (cc_X3_sell  (k := k) (c := c) (m := (-x)) (y := y) (x := x) (by first | exact hk | omega) (by omega) (by first | exact hy | omega) (by first | exact hcn | omega) (by first | exact hBi | omega) (by first | exact hAs | omega) (by first | exact hBL | omega) (by first | exact hAL | omega) (by first | exact hmo | omega) (by first | exact hHe | omega)) (cwV 4 hw (lw_gV hU_587 hU_589 hU_30 hU_43 hU_590) rfl rfl rfl (by decide +kernel) ⟨Nat.le_of_ble_eq_true rfl, Nat.le_of_ble_eq_true rfl⟩) (ci := 4) (q0 := 0) rfl (rfl) rfl rfl (Nat.le_of_ble_eq_true rfl) ⟨by decide, by decide⟩ rfl rfl dX3_order_79 ?_
    intro _ hu
    show jj_W _ _ _ _ _ _ _ _ _ _ _ _ _ _ _ _ _ 82 _ [.int (iI (-(f_oq x y (Bi c) (As c) (BL c) (AL c) (He (7 * c + 6)) mo)))] (wH ha cA hA nA ed cI cJ cZ td pr up dn dv r8_2 sd mc n mo sh co (f_dCa Ca k (Bi c) (f_oq x y (Bi c) (As c) (BL c) (AL c) (He (7 * c + 6)) mo)) Cz K St Ex Am Bi As (va_up BL c (BL c - (-(f_oq x y (Bi c) (As c) (BL c) (AL c) (He (7 * c + 6)) mo)))) AL (f_dHe He c k (f_oq x y (Bi c) (As c) (BL c) (AL c) (He (7 * c + 6)) mo)) Co ++ EE)
    refine jj_topi (b := (if 0 < x then (f_oq x y (Bi c) (As c) (BL c) (AL c) (He (7 * c + 6)) mo) else -(f_oq x y (Bi c) (As c) (BL c) (AL c) (He (7 * c + 6)) mo))) (by first | rw [if_pos (by omega)] | rw [if_neg (by omega)]) ?_
    refine jj_ws (ws' := wH ha cA hA nA ed cI cJ cZ td pr up dn dv r8_2 sd mc n mo sh co (f_dCa Ca k (if 0 < x then As c else Bi c) (f_oq x y (Bi c) (As c) (BL c) (AL c) (He (7 * c + 6)) mo)) Cz K St Ex Am Bi As (va_up BL c (BL c - (if 0 < x then 0 else -(f_oq x y (Bi c) (As c) (BL c) (AL c) (He (7 * c + 6)) mo)))) (va_up AL c (AL c - (if 0 < x then (f_oq x y (Bi c) (As c) (BL c) (AL c) (He (7 * c + 6)) mo) else 0))) (f_dHe He c k (f_oq x y (Bi c) (As c) (BL c) (AL c) (He (7 * c + 6)) mo)) Co ++ EE) (by first | simp only [if_pos (show 0 < x by omega), Int.sub_zero, up_id, va_up_self] | simp only [if_neg (show ¬ 0 < x by omega), Int.sub_zero, up_id, va_up_self]) ?_
    exact j82 () trivial
  · refine jj_aload_n C0 2 rfl dX3_order_58 ?_
    refine jj_iload_n C0 3 rfl dX3_order_59 ?_
    refine jj_aload C0 1 rfl dX3_order_60 ?_
    refine jj_iload_n C0 5 rfl dX3_order_62 ?_
    refine jj_iload C0 6 rfl dX3_order_63 ?_
    refine jj_callVi C0 (cc_X3_buy  (k := k) (c := c) (x := x) (y := y) (by first | exact hk | omega) (by first | exact hx | omega) (by first | exact hy | omega) (by first | exact hcn | omega) (by first | exact hBi | omega) (by first | exact hAs | omega) (by first | exact hBL | omega) (by first | exact hAL | omega) (by first | exact hmo | omega) (by first | exact hHe | omega)) (cwV 4 hw (lw_gV hU_570 hU_572 hU_26 hU_43 hU_573) rfl rfl rfl (by decide +kernel) ⟨Nat.le_of_ble_eq_true rfl, Nat.le_of_ble_eq_true rfl⟩) (ci := 4) (q0 := 0) rfl (rfl) rfl rfl (Nat.le_of_ble_eq_true rfl) ⟨by decide, by decide⟩ rfl rfl dX3_order_65 ?_
    intro _ hu
    show jj_W _ _ _ _ _ _ _ _ _ _ _ _ _ _ _ _ _ 68 _ [.int (iI (f_oq x y (Bi c) (As c) (BL c) (AL c) (He (7 * c + 6)) mo))] (wH ha cA hA nA ed cI cJ cZ td pr up dn dv r8_2 sd mc n mo sh co (f_dCa Ca k (As c) (f_oq x y (Bi c) (As c) (BL c) (AL c) (He (7 * c + 6)) mo)) Cz K St Ex Am Bi As BL (va_up AL c (AL c - (f_oq x y (Bi c) (As c) (BL c) (AL c) (He (7 * c + 6)) mo))) (f_dHe He c k (f_oq x y (Bi c) (As c) (BL c) (AL c) (He (7 * c + 6)) mo)) Co ++ EE)
    refine jj_goto C0 (tgt := 82) dX3_order_68 (by decide) ?_
    refine jj_topi (b := (if 0 < x then (f_oq x y (Bi c) (As c) (BL c) (AL c) (He (7 * c + 6)) mo) else -(f_oq x y (Bi c) (As c) (BL c) (AL c) (He (7 * c + 6)) mo))) (by first | rw [if_pos (by omega)] | rw [if_neg (by omega)]) ?_
    refine jj_ws (ws' := wH ha cA hA nA ed cI cJ cZ td pr up dn dv r8_2 sd mc n mo sh co (f_dCa Ca k (if 0 < x then As c else Bi c) (f_oq x y (Bi c) (As c) (BL c) (AL c) (He (7 * c + 6)) mo)) Cz K St Ex Am Bi As (va_up BL c (BL c - (if 0 < x then 0 else -(f_oq x y (Bi c) (As c) (BL c) (AL c) (He (7 * c + 6)) mo)))) (va_up AL c (AL c - (if 0 < x then (f_oq x y (Bi c) (As c) (BL c) (AL c) (He (7 * c + 6)) mo) else 0))) (f_dHe He c k (f_oq x y (Bi c) (As c) (BL c) (AL c) (He (7 * c + 6)) mo)) Co ++ EE) (by first | simp only [if_pos (show 0 < x by omega), Int.sub_zero, up_id, va_up_self] | simp only [if_neg (show ¬ 0 < x by omega), Int.sub_zero, up_id, va_up_self]) ?_
    exact j82 () trivial
end CC5
