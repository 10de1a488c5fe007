section MM5
variable {EV : (Nat → Prop) → State → Heap → Prop} {l : Launch} {dC : Nat → ClassId} {dI : Nat → Nat → Nat} {cI cJ cZ cO : ClassId} {E : va_W} {ad : Nat → Nat} {ws : va_W} {th : Int} {td : Nat} {pr up dn : Int} {dv : Nat → Int} {n : Nat} {K St Ex Am Ov Bi As BL AL He Co Ca : Nat → Int} {mo sh co sd : Int} {Cz Ab : Nat → Int} {be : Int}
set_option maxHeartbeats 4000000 in
set_option maxRecDepth 100000 in
theorem cc_X4_fault (hEV : jj_EV EV)  (hn : n ≤ 12) (hK : ∀ j, 0 ≤ K j ∧ K j ≤ 1) (hSt : ∀ j, 0 ≤ St j ∧ St j ≤ 20000) (hEx : ∀ j, 0 ≤ Ex j ∧ Ex j ≤ 200) (hAm : ∀ j, 0 ≤ Am j ∧ Am j ≤ 1) (hOv : ∀ j, 0 ≤ Ov j ∧ Ov j ≤ 1) (hBi : ∀ j, 0 ≤ Bi j ∧ Bi j ≤ 20000) (hAs : ∀ j, 0 ≤ As j ∧ As j ≤ 20000) (hBL : ∀ j, 0 ≤ BL j ∧ BL j ≤ 100) (hAL : ∀ j, 0 ≤ AL j ∧ AL j ≤ 100) : jj_Mi EV (dC, dI) vwCl [(cI, .int), (cJ, .long), (cZ, .boolean), (cO, .object "java/lang/Object")] l yX4_fault (Cond.code yX4_fault cX4_fault 1 (some .int) :: lw_U) ({ frames := 3, cells := 0, slots := 0, locals := 73 } : Room) [.ref (ad 0)] (wM ad cI cJ cZ th td pr up dn dv n K St Ex Am Ov Bi As BL AL He Co Ca mo sh co sd Cz Ab be ++ E) (S := Int) (fun u => u) (fun u => f_isF (f_F n K St Ex Am Ov Bi As BL AL) n u) (fun u => wM ad cI cJ cZ 0 td pr up dn dv n K St Ex Am Ov Bi As BL AL He Co Ca mo sh co sd Cz Ab be ++ E) := by
  refine jj_start (cc := cX4_fault) (nL := 1) (ret := (some .int)) (lv := [(0, .ref (ad 0))]) (fun A => jj_Qi _ _ _ _ _ _ A) hEV (by decide) rfl (Nat.le_of_ble_eq_true rfl) rfl ?_
  intro p9 e9 s9 m9 a9 b9 me9 c9 A9 C1 hr hin
  have C0 : jj_C p9 s9 m9 a9 me9 c9 (dC, dI) vwCl A9 1 cX4_fault "StrikehallModel" lw_U _ EV := jj_toU C1
  have hw := C0.2.2.2.2.1
  refine jj_aload_n C0 0 rfl dX4_fault_0 ?_
  refine jj_iconst C0 dX4_fault_1 ?_
  refine jj_put C0 (ci := 5) (v := .int (iI 0)) (ty := .int) hin_X4 tyX4 tyX4_ok nmX4 (0) (rfl) rfl 0 (by decide) (hw _ hU_786) (fun _ h9 => h9) rfl (by decide +kernel) (rfl) rfl (Nat.le_of_ble_eq_true rfl) (ws' := wM ad cI cJ cZ 0 td pr up dn dv n K St Ex Am Ov Bi As BL AL He Co Ca mo sh co sd Cz Ab be ++ E) (rfl) dX4_fault_2 ?_
  refine jj_aload_n C0 0 rfl dX4_fault_5 ?_
  refine jj_callVi C0 (cc_X4_firstFault hEV  (by first | exact hn | omega) (by first | exact hK | omega) (by first | exact hSt | omega) (by first | exact hEx | omega) (by first | exact hAm | omega) (by first | exact hOv | omega) (by first | exact hBi | omega) (by first | exact hAs | omega) (by first | exact hBL | omega) (by first | exact hAL | omega)) (cwV 0 hw (lw_gV hU_924 hU_926 hU_48 hU_66 hU_927) rfl rfl rfl (by decide +kernel) ⟨Nat.le_of_ble_eq_true rfl, Nat.le_of_ble_eq_true rfl⟩) (ci := 5) (q0 := 0) rfl (rfl) rfl rfl (Nat.le_of_ble_eq_true rfl) ⟨by decide, by decide⟩ rfl rfl dX4_fault_6 ?_
  intro u_1 hu
  have hu_6 : f_isF (f_F n K St Ex Am Ov Bi As BL AL) n u_1 := hu
  show jj_W _ _ _ _ _ _ _ _ _ _ _ _ _ _ _ _ _ 9 _ [.int (iI u_1)] (wM ad cI cJ cZ 0 td pr up dn dv n K St Ex Am Ov Bi As BL AL He Co Ca mo sh co sd Cz Ab be ++ E)
  exact jj_iret C0 hr u_1 (by exact hu_6) (rfl) (rfl) (by decide) (by decide) dX4_fault_9
set_option maxHeartbeats 4000000 in
set_option maxRecDepth 100000 in
theorem cc_X4_quote (hEV : jj_EV EV) {c : Nat} {x y z : Int} (hx : 0 ≤ x ∧ x ≤ 20000) (hy : 0 ≤ y ∧ y ≤ 20000) (hz : 0 ≤ z ∧ z ≤ 100) (hov : Ov c = 0) (hcn : c < n) (hn : n ≤ 12) (hK : ∀ j, 0 ≤ K j ∧ K j ≤ 1) (hSt : ∀ j, 0 ≤ St j ∧ St j ≤ 20000) (hEx : ∀ j, 0 ≤ Ex j ∧ Ex j ≤ 200) (hAm : ∀ j, 0 ≤ Am j ∧ Am j ≤ 1) (hOv : ∀ j, 0 ≤ Ov j ∧ Ov j ≤ 1) (hBi : ∀ j, 0 ≤ Bi j ∧ Bi j ≤ 20000) (hAs : ∀ j, 0 ≤ As j ∧ As j ≤ 20000) (hBL : ∀ j, 0 ≤ BL j ∧ BL j ≤ 100) (hAL : ∀ j, 0 ≤ AL j ∧ AL j ≤ 100) : jj_Mi EV (dC, dI) vwCl [(cI, .int), (cJ, .long), (cZ, .boolean), (cO, .object "java/lang/Object")] l yX4_quote (Cond.code yX4_quote cX4_quote 6 (some .int) :: lw_U) ({ frames := 3, cells := 0, slots := 0, locals := 73 } : Room) [.ref (ad 0), .int (iI (c : Int)), .int (iI x), .int (iI y), .int (iI z)] (wM ad cI cJ cZ th td pr up dn dv n K St Ex Am Ov Bi As BL AL He Co Ca mo sh co sd Cz Ab be ++ E) (S := Int) (fun u => u) (fun u => f_isF (f_F n K St Ex Am Ov (va_up Bi c x) (va_up As c y) (va_up BL c z) (va_up AL c z)) n u) (fun u => wM ad cI cJ cZ 0 td pr up dn dv n K St Ex Am Ov (va_up Bi c x) (va_up As c y) (va_up BL c z) (va_up AL c z) He Co Ca mo sh co sd Cz Ab be ++ E) := by
  refine jj_start (cc := cX4_quote) (nL := 6) (ret := (some .int)) (lv := [(0, .ref (ad 0)), (1, .int (iI (c : Int))), (2, .int (iI x)), (3, .int (iI y)), (4, .int (iI z))]) (fun A => jj_Qi _ _ _ _ _ _ A) hEV (by decide) rfl (Nat.le_of_ble_eq_true rfl) rfl ?_
  intro p9 e9 s9 m9 a9 b9 me9 c9 A9 C1 hr hin
  have C0 : jj_C p9 s9 m9 a9 me9 c9 (dC, dI) vwCl A9 6 cX4_quote "StrikehallModel" lw_U _ EV := jj_toU C1
  have hw := C0.2.2.2.2.1
  refine jj_iload_n C0 2 rfl dX4_quote_0 ?_
  refine jj_i2l C0 (by omega) dX4_quote_1 ?_
  refine jj_lconst C0 (z := 0) (by decide) dX4_quote_2 ?_
  refine jj_ldc2 C0 (z := 20000) (by decide) (hw _ hU_905) dX4_quote_3 ?_
  refine jj_callSi C0 (cc_X4_in1 hEV (v := x) (lo := 0) (hi := 20000) (by omega) (by omega) (by omega) (by omega)) (cwS 3 hw (lw_gS hU_874 hU_875 hU_66 hU_876) rfl rfl rfl (by decide +kernel) ⟨Nat.le_of_ble_eq_true rfl, Nat.le_of_ble_eq_true rfl⟩) rfl rfl (Nat.le_of_ble_eq_true rfl) ⟨by decide, by decide⟩ rfl rfl dX4_quote_6 ?_
  intro _ hu
  show jj_W _ _ _ _ _ _ _ _ _ _ _ _ _ _ _ _ _ 9 _ [.int (iI 1)] (wM ad cI cJ cZ th td pr up dn dv n K St Ex Am Ov Bi As BL AL He Co Ca mo sh co sd Cz Ab be ++ E)
  refine jj_if_eq C0 (by omega) dX4_quote_9 (tgt := 41) (by decide) (fun c_1 => absurd c_1 (by omega)) (fun c_1 => ?_)
  refine jj_iload_n C0 3 rfl dX4_quote_12 ?_
  refine jj_i2l C0 (by omega) dX4_quote_13 ?_
  refine jj_lconst C0 (z := 0) (by decide) dX4_quote_14 ?_
  refine jj_ldc2 C0 (z := 20000) (by decide) (hw _ hU_905) dX4_quote_15 ?_
  refine jj_callSi C0 (cc_X4_in1 hEV (v := y) (lo := 0) (hi := 20000) (by omega) (by omega) (by omega) (by omega)) (cwS 3 hw (lw_gS hU_874 hU_875 hU_66 hU_876) rfl rfl rfl (by decide +kernel) ⟨Nat.le_of_ble_eq_true rfl, Nat.le_of_ble_eq_true rfl⟩) rfl rfl (Nat.le_of_ble_eq_true rfl) ⟨by decide, by decide⟩ rfl rfl dX4_quote_18 ?_
  intro _ hu
  show jj_W _ _ _ _ _ _ _ _ _ _ _ _ _ _ _ _ _ 21 _ [.int (iI 1)] (wM ad cI cJ cZ th td pr up dn dv n K St Ex Am Ov Bi As BL AL He Co Ca mo sh co sd Cz Ab be ++ E)
  refine jj_if_eq C0 (by omega) dX4_quote_21 (tgt := 41) (by decide) (fun c_2 => absurd c_2 (by omega)) (fun c_2 => ?_)
  refine jj_iload C0 4 rfl dX4_quote_24 ?_
  refine jj_i2l C0 (by omega) dX4_quote_26 ?_
  refine jj_lconst C0 (z := 0) (by decide) dX4_quote_27 ?_
  refine jj_ldc2 C0 (z := 100) (by decide) (hw _ hU_919) dX4_quote_28 ?_
  refine jj_callSi C0 (cc_X4_in1 hEV (v := z) (lo := 0) (hi := 100) (by omega) (by omega) (by omega) (by omega)) (cwS 3 hw (lw_gS hU_874 hU_875 hU_66 hU_876) rfl rfl rfl (by decide +kernel) ⟨Nat.le_of_ble_eq_true rfl, Nat.le_of_ble_eq_true rfl⟩) rfl rfl (Nat.le_of_ble_eq_true rfl) ⟨by decide, by decide⟩ rfl rfl dX4_quote_31 ?_
  intro _ hu
  show jj_W _ _ _ _ _ _ _ _ _ _ _ _ _ _ _ _ _ 34 _ [.int (iI 1)] (wM ad cI cJ cZ th td pr up dn dv n K St Ex Am Ov Bi As BL AL He Co Ca mo sh co sd Cz Ab be ++ E)
  refine jj_if_eq C0 (by omega) dX4_quote_34 (tgt := 41) (by decide) (fun c_3 => absurd c_3 (by omega)) (fun c_3 => ?_)
  refine jj_iconst C0 dX4_quote_37 ?_
  refine jj_goto C0 (tgt := 42) dX4_quote_38 (by decide) ?_
  refine jj_istore C0 (lv' := [(5, .int (iI 1)), (0, .ref (ad 0)), (1, .int (iI (c : Int))), (2, .int (iI x)), (3, .int (iI y)), (4, .int (iI z))]) (by decide) rfl dX4_quote_42 ?_
  refine jj_aload_n C0 1 rfl dX4_quote_44 ?_
  refine jj_aload_n C0 1 rfl dX4_quote_45 ?_
  refine jj_iload_n C0 2 rfl dX4_quote_46 ?_
  refine jj_callVi C0 (cc_X4_isContract1 hEV (c := c) (by first | exact hcn | omega) (by first | exact hn | omega)) (cwV 1 hw (lw_gV hU_920 hU_922 hU_47 hU_66 hU_923) rfl rfl rfl (by decide +kernel) ⟨Nat.le_of_ble_eq_true rfl, Nat.le_of_ble_eq_true rfl⟩) (ci := 5) (q0 := 0) rfl (rfl) rfl rfl (Nat.le_of_ble_eq_true rfl) ⟨by decide, by decide⟩ rfl rfl dX4_quote_47 ?_
  intro _ hu
  show jj_W _ _ _ _ _ _ _ _ _ _ _ _ _ _ _ _ _ 50 _ [.int (iI 1), .ref (ad 0)] (wM ad cI cJ cZ th td pr up dn dv n K St Ex Am Ov Bi As BL AL He Co Ca mo sh co sd Cz Ab be ++ E)
  refine jj_if_ne C0 (by omega) dX4_quote_50 (tgt := 57) (by decide) (fun c_4 => ?_) (fun c_4 => absurd c_4 (by omega))
  refine jj_iload C0 0 rfl dX4_quote_57 ?_
  refine jj_if_ne C0 (by omega) dX4_quote_59 (tgt := 66) (by decide) (fun c_5 => ?_) (fun c_5 => absurd c_5 (by omega))
  refine jj_aload_n C0 1 rfl dX4_quote_66 ?_
  refine jj_get C0 (ci := 5) (v := .ref (ad 6)) hin_X4 (0) (rfl) rfl 11 (by decide) (hw _ hU_797) (fun _ h9 => h9) rfl dX4_quote_67 ?_
  refine jj_iload_n C0 2 rfl dX4_quote_70 ?_
  refine jj_zald C0 (q0 := 6) (t0 := 2) (f := Ov) (rfl) rfl (k := c) (by omega) (by omega) (by decide) dX4_quote_71 ?_
  have hb_Ov_39972 := hOv c
  refine jj_if_eq C0 (by omega) dX4_quote_72 (tgt := 79) (by decide) (fun c_6 => ?_) (fun c_6 => absurd c_6 (by omega))
  refine jj_iconst C0 dX4_quote_79 ?_
  refine jj_put C0 (ci := 5) (v := .int (iI 0)) (ty := .int) hin_X4 tyX4 tyX4_ok nmX4 (0) (rfl) rfl 0 (by decide) (hw _ hU_786) (fun _ h9 => h9) rfl (by decide +kernel) (rfl) rfl (Nat.le_of_ble_eq_true rfl) (ws' := wM ad cI cJ cZ 0 td pr up dn dv n K St Ex Am Ov Bi As BL AL He Co Ca mo sh co sd Cz Ab be ++ E) (rfl) dX4_quote_80 ?_
  refine jj_aload_n C0 1 rfl dX4_quote_83 ?_
  refine jj_get C0 (ci := 5) (v := .int (iI 0)) hin_X4 (0) (rfl) rfl 0 (by decide) (hw _ hU_786) (fun _ h9 => h9) rfl dX4_quote_84 ?_
  refine jj_if_le C0 (by omega) dX4_quote_87 (tgt := 92) (by decide) (fun c_7 => ?_) (fun c_7 => absurd c_7 (by omega))
  refine jj_aload_n C0 1 rfl dX4_quote_92 ?_
  refine jj_get C0 (ci := 5) (v := .ref (ad 7)) hin_X4 (0) (rfl) rfl 12 (by decide) (hw _ hU_798) (fun _ h9 => h9) rfl dX4_quote_93 ?_
  refine jj_iload_n C0 2 rfl dX4_quote_96 ?_
  refine jj_iload_n C0 3 rfl dX4_quote_97 ?_
  refine jj_iast C0 (q0 := 7) (t0 := 0) (f := Bi) (rfl) rfl (k := c) (by omega) (by omega) (by decide) (ws' := wM ad cI cJ cZ 0 td pr up dn dv n K St Ex Am Ov (va_up Bi c x) As BL AL He Co Ca mo sh co sd Cz Ab be ++ E) (rfl) dX4_quote_98 ?_
  refine jj_aload_n C0 1 rfl dX4_quote_99 ?_
  refine jj_get C0 (ci := 5) (v := .ref (ad 8)) hin_X4 (0) (rfl) rfl 13 (by decide) (hw _ hU_799) (fun _ h9 => h9) rfl dX4_quote_100 ?_
  refine jj_iload_n C0 2 rfl dX4_quote_103 ?_
  refine jj_iload_n C0 4 rfl dX4_quote_104 ?_
  refine jj_iast C0 (q0 := 8) (t0 := 0) (f := As) (rfl) rfl (k := c) (by omega) (by omega) (by decide) (ws' := wM ad cI cJ cZ 0 td pr up dn dv n K St Ex Am Ov (va_up Bi c x) (va_up As c y) BL AL He Co Ca mo sh co sd Cz Ab be ++ E) (rfl) dX4_quote_105 ?_
  refine jj_aload_n C0 1 rfl dX4_quote_106 ?_
  refine jj_get C0 (ci := 5) (v := .ref (ad 9)) hin_X4 (0) (rfl) rfl 14 (by decide) (hw _ hU_800) (fun _ h9 => h9) rfl dX4_quote_107 ?_
  refine jj_iload_n C0 2 rfl dX4_quote_110 ?_
  refine jj_iload C0 5 rfl dX4_quote_111 ?_
  refine jj_iast C0 (q0 := 9) (t0 := 0) (f := BL) (rfl) rfl (k := c) (by omega) (by omega) (by decide) (ws' := wM ad cI cJ cZ 0 td pr up dn dv n K St Ex Am Ov (va_up Bi c x) (va_up As c y) (va_up BL c z) AL He Co Ca mo sh co sd Cz Ab be ++ E) (rfl) dX4_quote_113 ?_
  refine jj_aload_n C0 1 rfl dX4_quote_114 ?_
  refine jj_get C0 (ci := 5) (v := .ref (ad 10)) hin_X4 (0) (rfl) rfl 15 (by decide) (hw _ hU_801) (fun _ h9 => h9) rfl dX4_quote_115 ?_
  refine jj_iload_n C0 2 rfl dX4_quote_118 ?_
  refine jj_iload C0 5 rfl dX4_quote_119 ?_
  refine jj_iast C0 (q0 := 10) (t0 := 0) (f := AL) (rfl) rfl (k := c) (by omega) (by omega) (by decide) (ws' := wM ad cI cJ cZ 0 td pr up dn dv n K St Ex Am Ov (va_up Bi c x) (va_up As c y) (va_up BL c z) (va_up AL c z) He Co Ca mo sh co sd Cz Ab be ++ E) (rfl) dX4_quote_121 ?_
  refine jj_aload_n C0 1 rfl dX4_quote_122 ?_
  refine jj_callVi C0 (cc_X4_firstFault hEV  (by first | exact hn | omega) (by first | exact hK | omega) (by first | exact hSt | omega) (by first | exact hEx | omega) (by first | exact hAm | omega) (by first | exact hOv | omega) (up_bd hBi hx) (up_bd hAs hy) (up_bd hBL hz) (up_bd hAL hz)) (cwV 0 hw (lw_gV hU_924 hU_926 hU_48 hU_66 hU_927) rfl rfl rfl (by decide +kernel) ⟨Nat.le_of_ble_eq_true rfl, Nat.le_of_ble_eq_true rfl⟩) (ci := 5) (q0 := 0) rfl (rfl) rfl rfl (Nat.le_of_ble_eq_true rfl) ⟨by decide, by decide⟩ rfl rfl dX4_quote_123 ?_
  intro u_8 hu
  have hu_123 : f_isF (f_F n K St Ex Am Ov (va_up Bi c x) (va_up As c y) (va_up BL c z) (va_up AL c z)) n u_8 := hu
  show jj_W _ _ _ _ _ _ _ _ _ _ _ _ _ _ _ _ _ 126 _ [.int (iI u_8)] (wM ad cI cJ cZ 0 td pr up dn dv n K St Ex Am Ov (va_up Bi c x) (va_up As c y) (va_up BL c z) (va_up AL c z) He Co Ca mo sh co sd Cz Ab be ++ E)
  exact jj_iret C0 hr u_8 (by exact hu_123) (rfl) (rfl) (by decide) (by decide) dX4_quote_126
set_option maxHeartbeats 4000000 in
set_option maxRecDepth 100000 in
theorem cb_X4_quote (hEV : jj_EV EV) {x y z w : Int} {kk : Int} (hx : iR x) (hy : iR y) (hz : iR z) (hw1 : iR w) (hn : n ≤ 12) (hOv : ∀ j, 0 ≤ Ov j ∧ Ov j ≤ 1) (hbad : (¬ (0 ≤ w ∧ w < (n : Int)) ∧ kk = 1) ∨ ((0 ≤ w ∧ w < (n : Int)) ∧ ¬ (0 ≤ x ∧ x ≤ 20000 ∧ 0 ≤ y ∧ y ≤ 20000 ∧ 0 ≤ z ∧ z ≤ 100) ∧ kk = 2) ∨ ((0 ≤ w ∧ w < (n : Int)) ∧ (0 ≤ x ∧ x ≤ 20000 ∧ 0 ≤ y ∧ y ≤ 20000 ∧ 0 ≤ z ∧ z ≤ 100) ∧ Ov w.toNat ≠ 0 ∧ kk = 3)) : jj_Mi EV (dC, dI) vwCl [(cI, .int), (cJ, .long), (cZ, .boolean), (cO, .object "java/lang/Object")] l yX4_quote (Cond.code yX4_quote cX4_quote 6 (some .int) :: lw_U) ({ frames := 2, cells := 0, slots := 0, locals := 46 } : Room) [.ref (ad 0), .int (iI w), .int (iI x), .int (iI y), .int (iI z)] (wM ad cI cJ cZ th td pr up dn dv n K St Ex Am Ov Bi As BL AL He Co Ca mo sh co sd Cz Ab be ++ E) (S := Int) (fun u => u) (fun u => True) (fun u => wM ad cI cJ cZ kk td pr up dn dv n K St Ex Am Ov Bi As BL AL He Co Ca mo sh co sd Cz Ab be ++ E) := by
  refine jj_start (cc := cX4_quote) (nL := 6) (ret := (some .int)) (lv := [(0, .ref (ad 0)), (1, .int (iI w)), (2, .int (iI x)), (3, .int (iI y)), (4, .int (iI z))]) (fun A => jj_Qi _ _ _ _ _ _ A) hEV (by decide) rfl (Nat.le_of_ble_eq_true rfl) rfl ?_
  intro p9 e9 s9 m9 a9 b9 me9 c9 A9 C1 hr hin
  have C0 : jj_C p9 s9 m9 a9 me9 c9 (dC, dI) vwCl A9 6 cX4_quote "StrikehallModel" lw_U _ EV := jj_toU C1
  have hw := C0.2.2.2.2.1
  refine jj_iload_n C0 2 rfl dX4_quote_0 ?_
  refine jj_i2l C0 (by omega) dX4_quote_1 ?_
  refine jj_lconst C0 (z := 0) (by decide) dX4_quote_2 ?_
  refine jj_ldc2 C0 (z := 20000) (by decide) (hw _ hU_905) dX4_quote_3 ?_
  refine jj_callSi C0 (cc_X4_in hEV (v := x) (lo := 0) (hi := 20000) (by omega) (by omega) (by omega)) (cwS 3 hw (lw_gS hU_874 hU_875 hU_66 hU_876) rfl rfl rfl (by decide +kernel) ⟨Nat.le_of_ble_eq_true rfl, Nat.le_of_ble_eq_true rfl⟩) rfl rfl (Nat.le_of_ble_eq_true rfl) ⟨by decide, by decide⟩ rfl rfl dX4_quote_6 ?_
  intro u_1 hu
  have hu_6 : (u_1 = 1 ∧ 0 ≤ x ∧ x ≤ 20000) ∨ (u_1 = 0 ∧ (x < 0 ∨ 20000 < x)) := hu
  show jj_W _ _ _ _ _ _ _ _ _ _ _ _ _ _ _ _ _ 9 _ [.int (iI u_1)] (wM ad cI cJ cZ th td pr up dn dv n K St Ex Am Ov Bi As BL AL He Co Ca mo sh co sd Cz Ab be ++ E)
  refine jj_if_eq C0 (by omega) dX4_quote_9 (tgt := 41) (by decide) (fun c_2 => ?_) (fun c_2 => ?_)
  · refine jj_iconst C0 dX4_quote_41 ?_
    refine jj_istore C0 (lv' := [(5, .int (iI 0)), (0, .ref (ad 0)), (1, .int (iI w)), (2, .int (iI x)), (3, .int (iI y)), (4, .int (iI z))]) (by decide) rfl dX4_quote_42 ?_
    refine jj_aload_n C0 1 rfl dX4_quote_44 ?_
    refine jj_aload_n C0 1 rfl dX4_quote_45 ?_
    refine jj_iload_n C0 2 rfl dX4_quote_46 ?_
    refine jj_callVi C0 (cc_X4_isContract hEV (z := w) (by first | exact hz | omega) (by first | exact hn | omega)) (cwV 1 hw (lw_gV hU_920 hU_922 hU_47 hU_66 hU_923) rfl rfl rfl (by decide +kernel) ⟨Nat.le_of_ble_eq_true rfl, Nat.le_of_ble_eq_true rfl⟩) (ci := 5) (q0 := 0) rfl (rfl) rfl rfl (Nat.le_of_ble_eq_true rfl) ⟨by decide, by decide⟩ rfl rfl dX4_quote_47 ?_
    intro u_3 hu
    have hu_47 : (u_3 = 1 ∧ 0 ≤ w ∧ w ≤ (n : Int) - 1) ∨ (u_3 = 0 ∧ (w < 0 ∨ (n : Int) - 1 < w)) := hu
    show jj_W _ _ _ _ _ _ _ _ _ _ _ _ _ _ _ _ _ 50 _ [.int (iI u_3), .ref (ad 0)] (wM ad cI cJ cZ th td pr up dn dv n K St Ex Am Ov Bi As BL AL He Co Ca mo sh co sd Cz Ab be ++ E)
    refine jj_if_ne C0 (by omega) dX4_quote_50 (tgt := 57) (by decide) (fun c_4 => ?_) (fun c_4 => ?_)
    · refine jj_iload C0 0 rfl dX4_quote_57 ?_
      refine jj_if_ne C0 (by omega) dX4_quote_59 (tgt := 66) (by decide) (fun c_5 => absurd c_5 (by omega)) (fun c_5 => ?_)
      refine jj_iconst C0 dX4_quote_62 ?_
      refine jj_goto C0 (tgt := 80) dX4_quote_63 (by decide) ?_
      refine jj_put C0 (ci := 5) (v := .int (iI 2)) (ty := .int) hin_X4 tyX4 tyX4_ok nmX4 (0) (rfl) rfl 0 (by decide) (hw _ hU_786) (fun _ h9 => h9) rfl (by decide +kernel) (rfl) rfl (Nat.le_of_ble_eq_true rfl) (ws' := wM ad cI cJ cZ 2 td pr up dn dv n K St Ex Am Ov Bi As BL AL He Co Ca mo sh co sd Cz Ab be ++ E) (rfl) dX4_quote_80 ?_
      refine jj_aload_n C0 1 rfl dX4_quote_83 ?_
      refine jj_get C0 (ci := 5) (v := .int (iI 2)) hin_X4 (0) (rfl) rfl 0 (by decide) (hw _ hU_786) (fun _ h9 => h9) rfl dX4_quote_84 ?_
      refine jj_if_le C0 (by omega) dX4_quote_87 (tgt := 92) (by decide) (fun c_6 => absurd c_6 (by omega)) (fun c_6 => ?_)
      refine jj_iconst C0 dX4_quote_90 ?_
      obtain rfl : kk = 2 := by omega
      exact jj_iret C0 hr 0 (trivial) (rfl) (rfl) (by decide) (by decide) dX4_quote_91
    · refine jj_iconst C0 dX4_quote_53 ?_
      refine jj_goto C0 (tgt := 80) dX4_quote_54 (by decide) ?_
      refine jj_put C0 (ci := 5) (v := .int (iI 1)) (ty := .int) hin_X4 tyX4 tyX4_ok nmX4 (0) (rfl) rfl 0 (by decide) (hw _ hU_786) (fun _ h9 => h9) rfl (by decide +kernel) (rfl) rfl (Nat.le_of_ble_eq_true rfl) (ws' := wM ad cI cJ cZ 1 td pr up dn dv n K St Ex Am Ov Bi As BL AL He Co Ca mo sh co sd Cz Ab be ++ E) (rfl) dX4_quote_80 ?_
      refine jj_aload_n C0 1 rfl dX4_quote_83 ?_
      refine jj_get C0 (ci := 5) (v := .int (iI 1)) hin_X4 (0) (rfl) rfl 0 (by decide) (hw _ hU_786) (fun _ h9 => h9) rfl dX4_quote_84 ?_
      refine jj_if_le C0 (by omega) dX4_quote_87 (tgt := 92) (by decide) (fun c_7 => absurd c_7 (by omega)) (fun c_7 => ?_)
      refine jj_iconst C0 dX4_quote_90 ?_
      obtain rfl : kk = 1 := by omega
      exact jj_iret C0 hr 0 (trivial) (rfl) (rfl) (by decide) (by decide) dX4_quote_91
  · refine jj_iload_n C0 3 rfl dX4_quote_12 ?_
    refine jj_i2l C0 (by omega) dX4_quote_13 ?_
    refine jj_lconst C0 (z := 0) (by decide) dX4_quote_14 ?_
    refine jj_ldc2 C0 (z := 20000) (by decide) (hw _ hU_905) dX4_quote_15 ?_
    refine jj_callSi C0 (cc_X4_in hEV (v := y) (lo := 0) (hi := 20000) (by omega) (by omega) (by omega)) (cwS 3 hw (lw_gS hU_874 hU_875 hU_66 hU_876) rfl rfl rfl (by decide +kernel) ⟨Nat.le_of_ble_eq_true rfl, Nat.le_of_ble_eq_true rfl⟩) rfl rfl (Nat.le_of_ble_eq_true rfl) ⟨by decide, by decide⟩ rfl rfl dX4_quote_18 ?_
    intro u_8 hu
    have hu_18 : (u_8 = 1 ∧ 0 ≤ y ∧ y ≤ 20000) ∨ (u_8 = 0 ∧ (y < 0 ∨ 20000 < y)) := hu
    show jj_W _ _ _ _ _ _ _ _ _ _ _ _ _ _ _ _ _ 21 _ [.int (iI u_8)] (wM ad cI cJ cZ th td pr up dn dv n K St Ex Am Ov Bi As BL AL He Co Ca mo sh co sd Cz Ab be ++ E)
    refine jj_if_eq C0 (by omega) dX4_quote_21 (tgt := 41) (by decide) (fun c_9 => ?_) (fun c_9 => ?_)
    · refine jj_iconst C0 dX4_quote_41 ?_
      refine jj_istore C0 (lv' := [(5, .int (iI 0)), (0, .ref (ad 0)), (1, .int (iI w)), (2, .int (iI x)), (3, .int (iI y)), (4, .int (iI z))]) (by decide) rfl dX4_quote_42 ?_
      refine jj_aload_n C0 1 rfl dX4_quote_44 ?_
      refine jj_aload_n C0 1 rfl dX4_quote_45 ?_
      refine jj_iload_n C0 2 rfl dX4_quote_46 ?_
      refine jj_callVi C0 (cc_X4_isContract hEV (z := w) (by first | exact hz | omega) (by first | exact hn | omega)) (cwV 1 hw (lw_gV hU_920 hU_922 hU_47 hU_66 hU_923) rfl rfl rfl (by decide +kernel) ⟨Nat.le_of_ble_eq_true rfl, Nat.le_of_ble_eq_true rfl⟩) (ci := 5) (q0 := 0) rfl (rfl) rfl rfl (Nat.le_of_ble_eq_true rfl) ⟨by decide, by decide⟩ rfl rfl dX4_quote_47 ?_
      intro u_10 hu
      have hu_47 : (u_10 = 1 ∧ 0 ≤ w ∧ w ≤ (n : Int) - 1) ∨ (u_10 = 0 ∧ (w < 0 ∨ (n : Int) - 1 < w)) := hu
      show jj_W _ _ _ _ _ _ _ _ _ _ _ _ _ _ _ _ _ 50 _ [.int (iI u_10), .ref (ad 0)] (wM ad cI cJ cZ th td pr up dn dv n K St Ex Am Ov Bi As BL AL He Co Ca mo sh co sd Cz Ab be ++ E)
      refine jj_if_ne C0 (by omega) dX4_quote_50 (tgt := 57) (by decide) (fun c_11 => ?_) (fun c_11 => ?_)
      · refine jj_iload C0 0 rfl dX4_quote_57 ?_
        refine jj_if_ne C0 (by omega) dX4_quote_59 (tgt := 66) (by decide) (fun c_12 => absurd c_12 (by omega)) (fun c_12 => ?_)
        refine jj_iconst C0 dX4_quote_62 ?_
        refine jj_goto C0 (tgt := 80) dX4_quote_63 (by decide) ?_
        refine jj_put C0 (ci := 5) (v := .int (iI 2)) (ty := .int) hin_X4 tyX4 tyX4_ok nmX4 (0) (rfl) rfl 0 (by decide) (hw _ hU_786) (fun _ h9 => h9) rfl (by decide +kernel) (rfl) rfl (Nat.le_of_ble_eq_true rfl) (ws' := wM ad cI cJ cZ 2 td pr up dn dv n K St Ex Am Ov Bi As BL AL He Co Ca mo sh co sd Cz Ab be ++ E) (rfl) dX4_quote_80 ?_
        refine jj_aload_n C0 1 rfl dX4_quote_83 ?_
        refine jj_get C0 (ci := 5) (v := .int (iI 2)) hin_X4 (0) (rfl) rfl 0 (by decide) (hw _ hU_786) (fun _ h9 => h9) rfl dX4_quote_84 ?_
        refine jj_if_le C0 (by omega) dX4_quote_87 (tgt := 92) (by decide) (fun c_13 => absurd c_13 (by omega)) (fun c_13 => ?_)
        refine jj_iconst C0 dX4_quote_90 ?_
        obtain rfl : kk = 2 := by omega
        exact jj_iret C0 hr 0 (trivial) (rfl) (rfl) (by decide) (by decide) dX4_quote_91
      · refine jj_iconst C0 dX4_quote_53 ?_
        refine jj_goto C0 (tgt := 80) dX4_quote_54 (by decide) ?_
        refine jj_put C0 (ci := 5) (v := .int (iI 1)) (ty := .int) hin_X4 tyX4 tyX4_ok nmX4 (0) (rfl) rfl 0 (by decide) (hw _ hU_786) (fun _ h9 => h9) rfl (by decide +kernel) (rfl) rfl (Nat.le_of_ble_eq_true rfl) (ws' := wM ad cI cJ cZ 1 td pr up dn dv n K St Ex Am Ov Bi As BL AL He Co Ca mo sh co sd Cz Ab be ++ E) (rfl) dX4_quote_80 ?_
        refine jj_aload_n C0 1 rfl dX4_quote_83 ?_
        refine jj_get C0 (ci := 5) (v := .int (iI 1)) hin_X4 (0) (rfl) rfl 0 (by decide) (hw _ hU_786) (fun _ h9 => h9) rfl dX4_quote_84 ?_
        refine jj_if_le C0 (by omega) dX4_quote_87 (tgt := 92) (by decide) (fun c_14 => absurd c_14 (by omega)) (fun c_14 => ?_)
        refine jj_iconst C0 dX4_quote_90 ?_
        obtain rfl : kk = 1 := by omega
        exact jj_iret C0 hr 0 (trivial) (rfl) (rfl) (by decide) (by decide) dX4_quote_91
    · refine jj_iload C0 4 rfl dX4_quote_24 ?_
      refine jj_i2l C0 (by omega) dX4_quote_26 ?_
      refine jj_lconst C0 (z := 0) (by decide) dX4_quote_27 ?_
      refine jj_ldc2 C0 (z := 100) (by decide) (hw _ hU_919) dX4_quote_28 ?_
      refine jj_callSi C0 (cc_X4_in hEV (v := z) (lo := 0) (hi := 100) (by omega) (by omega) (by omega)) (cwS 3 hw (lw_gS hU_874 hU_875 hU_66 hU_876) rfl rfl rfl (by decide +kernel) ⟨Nat.le_of_ble_eq_true rfl, Nat.le_of_ble_eq_true rfl⟩) rfl rfl (Nat.le_of_ble_eq_true rfl) ⟨by decide, by decide⟩ rfl rfl dX4_quote_31 ?_
      intro u_15 hu
      have hu_31 : (u_15 = 1 ∧ 0 ≤ z ∧ z ≤ 100) ∨ (u_15 = 0 ∧ (z < 0 ∨ 100 < z)) := hu
      show jj_W _ _ _ _ _ _ _ _ _ _ _ _ _ _ _ _ _ 34 _ [.int (iI u_15)] (wM ad cI cJ cZ th td pr up dn dv n K St Ex Am Ov Bi As BL AL He Co Ca mo sh co sd Cz Ab be ++ E)
      refine jj_if_eq C0 (by omega) dX4_quote_34 (tgt := 41) (by decide) (fun c_16 => ?_) (fun c_16 => ?_)
      · refine jj_iconst C0 dX4_quote_41 ?_
        refine jj_istore C0 (lv' := [(5, .int (iI 0)), (0, .ref (ad 0)), (1, .int (iI w)), (2, .int (iI x)), (3, .int (iI y)), (4, .int (iI z))]) (by decide) rfl dX4_quote_42 ?_
        refine jj_aload_n C0 1 rfl dX4_quote_44 ?_
        refine jj_aload_n C0 1 rfl dX4_quote_45 ?_
        refine jj_iload_n C0 2 rfl dX4_quote_46 ?_
        refine jj_callVi C0 (cc_X4_isContract hEV (z := w) (by first | exact hz | omega) (by first | exact hn | omega)) (cwV 1 hw (lw_gV hU_920 hU_922 hU_47 hU_66 hU_923) rfl rfl rfl (by decide +kernel) ⟨Nat.le_of_ble_eq_true rfl, Nat.le_of_ble_eq_true rfl⟩) (ci := 5) (q0 := 0) rfl (rfl) rfl rfl (Nat.le_of_ble_eq_true rfl) ⟨by decide, by decide⟩ rfl rfl dX4_quote_47 ?_
        intro u_17 hu
        have hu_47 : (u_17 = 1 ∧ 0 ≤ w ∧ w ≤ (n : Int) - 1) ∨ (u_17 = 0 ∧ (w < 0 ∨ (n : Int) - 1 < w)) := hu
        show jj_W _ _ _ _ _ _ _ _ _ _ _ _ _ _ _ _ _ 50 _ [.int (iI u_17), .ref (ad 0)] (wM ad cI cJ cZ th td pr up dn dv n K St Ex Am Ov Bi As BL AL He Co Ca mo sh co sd Cz Ab be ++ E)
        refine jj_if_ne C0 (by omega) dX4_quote_50 (tgt := 57) (by decide) (fun c_18 => ?_) (fun c_18 => ?_)
        · refine jj_iload C0 0 rfl dX4_quote_57 ?_
          refine jj_if_ne C0 (by omega) dX4_quote_59 (tgt := 66) (by decide) (fun c_19 => absurd c_19 (by omega)) (fun c_19 => ?_)
          refine jj_iconst C0 dX4_quote_62 ?_
          refine jj_goto C0 (tgt := 80) dX4_quote_63 (by decide) ?_
          refine jj_put C0 (ci := 5) (v := .int (iI 2)) (ty := .int) hin_X4 tyX4 tyX4_ok nmX4 (0) (rfl) rfl 0 (by decide) (hw _ hU_786) (fun _ h9 => h9) rfl (by decide +kernel) (rfl) rfl (Nat.le_of_ble_eq_true rfl) (ws' := wM ad cI cJ cZ 2 td pr up dn dv n K St Ex Am Ov Bi As BL AL He Co Ca mo sh co sd Cz Ab be ++ E) (rfl) dX4_quote_80 ?_
          refine jj_aload_n C0 1 rfl dX4_quote_83 ?_
          refine jj_get C0 (ci := 5) (v := .int (iI 2)) hin_X4 (0) (rfl) rfl 0 (by decide) (hw _ hU_786) (fun _ h9 => h9) rfl dX4_quote_84 ?_
          refine jj_if_le C0 (by omega) dX4_quote_87 (tgt := 92) (by decide) (fun c_20 => absurd c_20 (by omega)) (fun c_20 => ?_)
          refine jj_iconst C0 dX4_quote_90 ?_
          obtain rfl : kk = 2 := by omega
          exact jj_iret C0 hr 0 (trivial) (rfl) (rfl) (by decide) (by decide) dX4_quote_91
        · refine jj_iconst C0 dX4_quote_53 ?_
          refine jj_goto C0 (tgt := 80) dX4_quote_54 (by decide) ?_
          refine jj_put C0 (ci := 5) (v := .int (iI 1)) (ty := .int) hin_X4 tyX4 tyX4_ok nmX4 (0) (rfl) rfl 0 (by decide) (hw _ hU_786) (fun _ h9 => h9) rfl (by decide +kernel) (rfl) rfl (Nat.le_of_ble_eq_true rfl) (ws' := wM ad cI cJ cZ 1 td pr up dn dv n K St Ex Am Ov Bi As BL AL He Co Ca mo sh co sd Cz Ab be ++ E) (rfl) dX4_quote_80 ?_
          refine jj_aload_n C0 1 rfl dX4_quote_83 ?_
          refine jj_get C0 (ci := 5) (v := .int (iI 1)) hin_X4 (0) (rfl) rfl 0 (by decide) (hw _ hU_786) (fun _ h9 => h9) rfl dX4_quote_84 ?_
          refine jj_if_le C0 (by omega) dX4_quote_87 (tgt := 92) (by decide) (fun c_21 => absurd c_21 (by omega)) (fun c_21 => ?_)
          refine jj_iconst C0 dX4_quote_90 ?_
          obtain rfl : kk = 1 := by omega
          exact jj_iret C0 hr 0 (trivial) (rfl) (rfl) (by decide) (by decide) dX4_quote_91
      · refine jj_iconst C0 dX4_quote_37 ?_
        refine jj_goto C0 (tgt := 42) dX4_quote_38 (by decide) ?_
        refine jj_istore C0 (lv' := [(5, .int (iI 1)), (0, .ref (ad 0)), (1, .int (iI w)), (2, .int (iI x)), (3, .int (iI y)), (4, .int (iI z))]) (by decide) rfl dX4_quote_42 ?_
        refine jj_aload_n C0 1 rfl dX4_quote_44 ?_
        refine jj_aload_n C0 1 rfl dX4_quote_45 ?_
        refine jj_iload_n C0 2 rfl dX4_quote_46 ?_
        refine jj_callVi C0 (cc_X4_isContract hEV (z := w) (by first | exact hz | omega) (by first | exact hn | omega)) (cwV 1 hw (lw_gV hU_920 hU_922 hU_47 hU_66 hU_923) rfl rfl rfl (by decide +kernel) ⟨Nat.le_of_ble_eq_true rfl, Nat.le_of_ble_eq_true rfl⟩) (ci := 5) (q0 := 0) rfl (rfl) rfl rfl (Nat.le_of_ble_eq_true rfl) ⟨by decide, by decide⟩ rfl rfl dX4_quote_47 ?_
        intro u_22 hu
        have hu_47 : (u_22 = 1 ∧ 0 ≤ w ∧ w ≤ (n : Int) - 1) ∨ (u_22 = 0 ∧ (w < 0 ∨ (n : Int) - 1 < w)) := hu
        show jj_W _ _ _ _ _ _ _ _ _ _ _ _ _ _ _ _ _ 50 _ [.int (iI u_22), .ref (ad 0)] (wM ad cI cJ cZ th td pr up dn dv n K St Ex Am Ov Bi As BL AL He Co Ca mo sh co sd Cz Ab be ++ E)
        refine jj_if_ne C0 (by omega) dX4_quote_50 (tgt := 57) (by decide) (fun c_23 => ?_) (fun c_23 => ?_)
        · refine jj_iload C0 0 rfl dX4_quote_57 ?_
          refine jj_if_ne C0 (by omega) dX4_quote_59 (tgt := 66) (by decide) (fun c_24 => ?_) (fun c_24 => absurd c_24 (by omega))
          refine jj_aload_n C0 1 rfl dX4_quote_66 ?_
          refine jj_get C0 (ci := 5) (v := .ref (ad 6)) hin_X4 (0) (rfl) rfl 11 (by decide) (hw _ hU_797) (fun _ h9 => h9) rfl dX4_quote_67 ?_
          refine jj_iload_n C0 2 rfl dX4_quote_70 ?_
          refine jj_zald C0 (q0 := 6) (t0 := 2) (f := Ov) (rfl) rfl (k := w.toNat) (by omega) (by omega) (by decide) dX4_quote_71 ?_
          have hb_Ov_94163 := hOv w.toNat
          refine jj_if_eq C0 (by omega) dX4_quote_72 (tgt := 79) (by decide) (fun c_25 => ?_) (fun c_25 => ?_)
          · refine jj_iconst C0 dX4_quote_79 ?_
            refine jj_put C0 (ci := 5) (v := .int (iI 0)) (ty := .int) hin_X4 tyX4 tyX4_ok nmX4 (0) (rfl) rfl 0 (by decide) (hw _ hU_786) (fun _ h9 => h9) rfl (by decide +kernel) (rfl) rfl (Nat.le_of_ble_eq_true rfl) (ws' := wM ad cI cJ cZ 0 td pr up dn dv n K St Ex Am Ov Bi As BL AL He Co Ca mo sh co sd Cz Ab be ++ E) (rfl) dX4_quote_80 ?_
            refine jj_aload_n C0 1 rfl dX4_quote_83 ?_
            refine jj_get C0 (ci := 5) (v := .int (iI 0)) hin_X4 (0) (rfl) rfl 0 (by decide) (hw _ hU_786) (fun _ h9 => h9) rfl dX4_quote_84 ?_
            refine jj_if_le C0 (by omega) dX4_quote_87 (tgt := 92) (by decide) (fun c_26 => ?_) (fun c_26 => absurd c_26 (by omega))
            exfalso
            omega
          · refine jj_iconst C0 dX4_quote_75 ?_
            refine jj_goto C0 (tgt := 80) dX4_quote_76 (by decide) ?_
            refine jj_put C0 (ci := 5) (v := .int (iI 3)) (ty := .int) hin_X4 tyX4 tyX4_ok nmX4 (0) (rfl) rfl 0 (by decide) (hw _ hU_786) (fun _ h9 => h9) rfl (by decide +kernel) (rfl) rfl (Nat.le_of_ble_eq_true rfl) (ws' := wM ad cI cJ cZ 3 td pr up dn dv n K St Ex Am Ov Bi As BL AL He Co Ca mo sh co sd Cz Ab be ++ E) (rfl) dX4_quote_80 ?_
            refine jj_aload_n C0 1 rfl dX4_quote_83 ?_
            refine jj_get C0 (ci := 5) (v := .int (iI 3)) hin_X4 (0) (rfl) rfl 0 (by decide) (hw _ hU_786) (fun _ h9 => h9) rfl dX4_quote_84 ?_
            refine jj_if_le C0 (by omega) dX4_quote_87 (tgt := 92) (by decide) (fun c_27 => absurd c_27 (by omega)) (fun c_27 => ?_)
            refine jj_iconst C0 dX4_quote_90 ?_
            obtain rfl : kk = 3 := by omega
            exact jj_iret C0 hr 0 (trivial) (rfl) (rfl) (by decide) (by decide) dX4_quote_91
        · refine jj_iconst C0 dX4_quote_53 ?_
          refine jj_goto C0 (tgt := 80) dX4_quote_54 (by decide) ?_
          refine jj_put C0 (ci := 5) (v := .int (iI 1)) (ty := .int) hin_X4 tyX4 tyX4_ok nmX4 (0) (rfl) rfl 0 (by decide) (hw _ hU_786) (fun _ h9 => h9) rfl (by decide +kernel) (rfl) rfl (Nat.le_of_ble_eq_true rfl) (ws' := wM ad cI cJ cZ 1 td pr up dn dv n K St Ex Am Ov Bi As BL AL He Co Ca mo sh co sd Cz Ab be ++ E) (rfl) dX4_quote_80 ?_
          refine jj_aload_n C0 1 rfl dX4_quote_83 ?_
          refine jj_get C0 (ci := 5) (v := .int (iI 1)) hin_X4 (0) (rfl) rfl 0 (by decide) (hw _ hU_786) (fun _ h9 => h9) rfl dX4_quote_84 ?_
          refine jj_if_le C0 (by omega) dX4_quote_87 (tgt := 92) (by decide) (fun c_28 => absurd c_28 (by omega)) (fun c_28 => ?_)
          refine jj_iconst C0 dX4_quote_90 ?_
          obtain rfl : kk = 1 := by omega
          exact jj_iret C0 hr 0 (trivial) (rfl) (rfl) (by decide) (by decide) dX4_quote_91
set_option maxHeartbeats 4000000 in
set_option maxRecDepth 100000 in
theorem cc_X4_least (hEV : jj_EV EV) {a b : Int} (ha : iR a) (hb : iR b) : jj_Mi EV (dC, dI) vwCl [(cI, .int), (cJ, .long), (cZ, .boolean), (cO, .object "java/lang/Object")] l yX4_least (Cond.code yX4_least cX4_least 2 (some .int) :: lw_U) ({ frames := 0, cells := 0, slots := 0, locals := 0 } : Room) [.int (iI a), .int (iI b)] (ws) (S := Unit) (fun _ => (min a b)) (fun _ => True) (fun _ => ws) := by
  refine jj_start (cc := cX4_least) (nL := 2) (ret := (some .int)) (lv := [(0, .int (iI a)), (1, .int (iI b))]) (fun A => jj_Qi _ _ _ _ _ _ A) hEV (by decide) rfl (Nat.le_of_ble_eq_true rfl) rfl ?_
  intro p9 e9 s9 m9 a9 b9 me9 c9 A9 C1 hr hin
  have C0 : jj_C p9 s9 m9 a9 me9 c9 (dC, dI) vwCl A9 2 cX4_least "StrikehallModel" lw_U _ EV := jj_toU C1
  have hw := C0.2.2.2.2.1
  refine jj_iload_n C0 0 rfl dX4_least_0 ?_
  refine jj_iload_n C0 1 rfl dX4_least_1 ?_
  refine jj_icmp_ge C0 (by omega) (by omega) dX4_least_2 (tgt := 9) (by decide) (fun c_1 => ?_) (fun c_1 => ?_)
  · refine jj_iload_n C0 1 rfl dX4_least_9 ?_
    exact jj_iret C0 hr () (trivial) (by omega) (rfl) (by decide) (by decide) dX4_least_10
  · refine jj_iload_n C0 0 rfl dX4_least_5 ?_
    refine jj_goto C0 (tgt := 10) dX4_least_6 (by decide) ?_
    exact jj_iret C0 hr () (trivial) (by omega) (rfl) (by decide) (by decide) dX4_least_10
set_option maxHeartbeats 4000000 in
set_option maxRecDepth 100000 in
theorem cc_X4_deals (hEV : jj_EV EV) {c k : Nat} {q p : Int} (hk : k ≤ 5) (hc : c < 12) (hq : -100 ≤ q ∧ q ≤ 100) (hp : 0 ≤ p ∧ p ≤ 20000) : jj_Mv EV (dC, dI) vwCl [(cI, .int), (cJ, .long), (cZ, .boolean), (cO, .object "java/lang/Object")] l yX4_deals (Cond.code yX4_deals cX4_deals 5 none :: lw_U) ({ frames := 1, cells := 0, slots := 0, locals := 21 } : Room) [.ref (ad 0), .int (iI (k : Int)), .int (iI (c : Int)), .int (iI q), .int (iI p)] (wM ad cI cJ cZ th td pr up dn dv n K St Ex Am Ov Bi As BL AL He Co Ca mo sh co sd Cz Ab be ++ E) (S := Unit)  (fun _ => True) (fun _ => wM ad cI cJ cZ th td pr up dn dv n K St Ex Am Ov Bi As BL AL (f_dHe He c k q) Co (f_dCa Ca k p q) mo sh co sd Cz Ab be ++ E) := by
  refine jj_start (cc := cX4_deals) (nL := 5) (ret := none) (lv := [(0, .ref (ad 0)), (1, .int (iI (k : Int))), (2, .int (iI (c : Int))), (3, .int (iI q)), (4, .int (iI p))]) (fun A => jj_Qv _ _ _ _ _ A) hEV (by decide) rfl (Nat.le_of_ble_eq_true rfl) rfl ?_
  intro p9 e9 s9 m9 a9 b9 me9 c9 A9 C1 hr hin
  have C0 : jj_C p9 s9 m9 a9 me9 c9 (dC, dI) vwCl A9 5 cX4_deals "StrikehallModel" lw_U _ EV := jj_toU C1
  have hw := C0.2.2.2.2.1
  refine jj_aload_n C0 0 rfl dX4_deals_0 ?_
  refine jj_get C0 (ci := 5) (v := .ref (ad 11)) hin_X4 (0) (rfl) rfl 16 (by decide) (hw _ hU_802) (fun _ h9 => h9) rfl dX4_deals_1 ?_
  refine jj_iload_n C0 1 rfl dX4_deals_4 ?_
  refine jj_iload_n C0 2 rfl dX4_deals_5 ?_
  refine jj_callSi C0 (cc_X4_at hEV (k := k) (c := c) (by first | exact hk | omega) (by first | exact hc | omega)) (cwS 2 hw (lw_gS hU_882 hU_883 hU_66 hU_884) rfl rfl rfl (by decide +kernel) ⟨Nat.le_of_ble_eq_true rfl, Nat.le_of_ble_eq_true rfl⟩) rfl rfl (Nat.le_of_ble_eq_true rfl) ⟨by decide, by decide⟩ rfl rfl dX4_deals_6 ?_
  intro _ hu
  show jj_W _ _ _ _ _ _ _ _ _ _ _ _ _ _ _ _ _ 9 _ [.int (iI ((7 * c + k : Nat) : Int)), .ref (ad 11)] (wM ad cI cJ cZ th td pr up dn dv n K St Ex Am Ov Bi As BL AL He Co Ca mo sh co sd Cz Ab be ++ E)
  refine jj_dup2_11 C0 dX4_deals_9 rfl rfl ?_
  refine jj_iald C0 (q0 := 11) (t0 := 0) (f := He) (rfl) rfl (k := (7 * c + k)) (by omega) (by omega) (by decide) dX4_deals_10 ?_
  refine jj_iload_n C0 3 rfl dX4_deals_11 ?_
  refine jj_iadd C0 dX4_deals_12 ?_
  refine jj_iast C0 (q0 := 11) (t0 := 0) (f := He) (rfl) rfl (k := (7 * c + k)) (by omega) (by omega) (by decide) (ws' := wM ad cI cJ cZ th td pr up dn dv n K St Ex Am Ov Bi As BL AL (va_up He (7 * c + k) ((He (7 * c + k)) + q)) Co Ca mo sh co sd Cz Ab be ++ E) (rfl) dX4_deals_13 ?_
  refine jj_aload_n C0 0 rfl dX4_deals_14 ?_
  refine jj_get C0 (ci := 5) (v := .ref (ad 11)) hin_X4 (0) (rfl) rfl 16 (by decide) (hw _ hU_802) (fun _ h9 => h9) rfl dX4_deals_15 ?_
  refine jj_iconst C0 dX4_deals_18 ?_
  refine jj_iload_n C0 2 rfl dX4_deals_19 ?_
  refine jj_callSi C0 (cc_X4_atH hEV (c := c) (by first | exact hc | omega)) (cwS 2 hw (lw_gS hU_882 hU_883 hU_66 hU_884) rfl rfl rfl (by decide +kernel) ⟨Nat.le_of_ble_eq_true rfl, Nat.le_of_ble_eq_true rfl⟩) rfl rfl (Nat.le_of_ble_eq_true rfl) ⟨by decide, by decide⟩ rfl rfl dX4_deals_20 ?_
  intro _ hu
  show jj_W _ _ _ _ _ _ _ _ _ _ _ _ _ _ _ _ _ 23 _ [.int (iI ((7 * c + 6 : Nat) : Int)), .ref (ad 11)] (wM ad cI cJ cZ th td pr up dn dv n K St Ex Am Ov Bi As BL AL (va_up He (7 * c + k) ((He (7 * c + k)) + q)) Co Ca mo sh co sd Cz Ab be ++ E)
  refine jj_dup2_11 C0 dX4_deals_23 rfl rfl ?_
  refine jj_iald C0 (q0 := 11) (t0 := 0) (f := va_up He (7 * c + k) ((He (7 * c + k)) + q)) (rfl) rfl (k := (7 * c + 6)) (by omega) (by omega) (by decide) dX4_deals_24 ?_
  refine jj_iload_n C0 3 rfl dX4_deals_25 ?_
  refine jj_isub C0 dX4_deals_26 ?_
  refine jj_iast C0 (q0 := 11) (t0 := 0) (f := va_up He (7 * c + k) ((He (7 * c + k)) + q)) (rfl) rfl (k := (7 * c + 6)) (by omega) (by omega) (by decide) (ws' := wM ad cI cJ cZ th td pr up dn dv n K St Ex Am Ov Bi As BL AL (va_up (va_up He (7 * c + k) ((He (7 * c + k)) + q)) (7 * c + 6) ((va_up He (7 * c + k) ((He (7 * c + k)) + q) (7 * c + 6)) - q)) Co Ca mo sh co sd Cz Ab be ++ E) (rfl) dX4_deals_27 ?_
  refine jj_aload_n C0 0 rfl dX4_deals_28 ?_
  refine jj_get C0 (ci := 5) (v := .ref (ad 13)) hin_X4 (0) (rfl) rfl 18 (by decide) (hw _ hU_804) (fun _ h9 => h9) rfl dX4_deals_29 ?_
  refine jj_iload_n C0 1 rfl dX4_deals_32 ?_
  refine jj_dup2_11 C0 dX4_deals_33 rfl rfl ?_
  refine jj_lald C0 (q0 := 13) (t0 := 1) (f := Ca) (rfl) rfl (k := k) (by omega) (by omega) (by decide) dX4_deals_34 ?_
  refine jj_ldc2 C0 (z := 1000) (by decide) (hw _ hU_881) dX4_deals_35 ?_
  refine jj_iload C0 4 rfl dX4_deals_38 ?_
  refine jj_i2l C0 (by omega) dX4_deals_40 ?_
  refine jj_lmul C0 dX4_deals_41 ?_
  refine jj_iload_n C0 3 rfl dX4_deals_42 ?_
  refine jj_i2l C0 (by omega) dX4_deals_43 ?_
  refine jj_lmul C0 dX4_deals_44 ?_
  refine jj_lsub C0 dX4_deals_45 ?_
  refine jj_last C0 (q0 := 13) (t0 := 1) (f := Ca) (rfl) rfl (k := k) (by omega) (by omega) (by decide) (ws' := wM ad cI cJ cZ th td pr up dn dv n K St Ex Am Ov Bi As BL AL (va_up (va_up He (7 * c + k) ((He (7 * c + k)) + q)) (7 * c + 6) ((va_up He (7 * c + k) ((He (7 * c + k)) + q) (7 * c + 6)) - q)) Co (va_up Ca k ((Ca k) - ((1000 * p) * q))) mo sh co sd Cz Ab be ++ E) (rfl) dX4_deals_46 ?_
  refine jj_aload_n C0 0 rfl dX4_deals_47 ?_
  refine jj_get C0 (ci := 5) (v := .ref (ad 13)) hin_X4 (0) (rfl) rfl 18 (by decide) (hw _ hU_804) (fun _ h9 => h9) rfl dX4_deals_48 ?_
  refine jj_bipush C0 dX4_deals_51 (by decide) ?_
  refine jj_dup2_11 C0 dX4_deals_53 rfl rfl ?_
  refine jj_lald C0 (q0 := 13) (t0 := 1) (f := va_up Ca k ((Ca k) - ((1000 * p) * q))) (rfl) rfl (k := 6) (by omega) (by omega) (by decide) dX4_deals_54 ?_
  refine jj_ldc2 C0 (z := 1000) (by decide) (hw _ hU_881) dX4_deals_55 ?_
  refine jj_iload C0 4 rfl dX4_deals_58 ?_
  refine jj_i2l C0 (by omega) dX4_deals_60 ?_
  refine jj_lmul C0 dX4_deals_61 ?_
  refine jj_iload_n C0 3 rfl dX4_deals_62 ?_
  refine jj_i2l C0 (by omega) dX4_deals_63 ?_
  refine jj_lmul C0 dX4_deals_64 ?_
  refine jj_ladd C0 dX4_deals_65 ?_
  refine jj_last C0 (q0 := 13) (t0 := 1) (f := va_up Ca k ((Ca k) - ((1000 * p) * q))) (rfl) rfl (k := 6) (by omega) (by omega) (by decide) (ws' := wM ad cI cJ cZ th td pr up dn dv n K St Ex Am Ov Bi As BL AL (va_up (va_up He (7 * c + k) ((He (7 * c + k)) + q)) (7 * c + 6) ((va_up He (7 * c + k) ((He (7 * c + k)) + q) (7 * c + 6)) - q)) Co (va_up (va_up Ca k ((Ca k) - ((1000 * p) * q))) 6 ((va_up Ca k ((Ca k) - ((1000 * p) * q)) 6) + ((1000 * p) * q))) mo sh co sd Cz Ab be ++ E) (rfl) dX4_deals_66 ?_
  exact jj_vret C0 hr () (trivial) (rfl) (by decide) (by decide) dX4_deals_67
set_option maxHeartbeats 4000000 in
set_option maxRecDepth 100000 in
theorem cc_X4_order (hEV : jj_EV EV) {c k : Nat} {x y : Int} (hk : k ≤ 5) (hx : -100 ≤ x ∧ x ≤ 100 ∧ x ≠ 0) (hy : 0 ≤ y ∧ y ≤ 20000) (hov : Ov c = 0) (hcn : c < n) (hHe1 : ∀ j, -999000 ≤ He j ∧ He j ≤ 999000) (hBi : ∀ j, 0 ≤ Bi j ∧ Bi j ≤ 20000) (hAs : ∀ j, 0 ≤ As j ∧ As j ≤ 20000) (hBL : ∀ j, 0 ≤ BL j ∧ BL j ≤ 100) (hAL : ∀ j, 0 ≤ AL j ∧ AL j ≤ 100) (hmo : 0 ≤ mo ∧ mo ≤ 1000) (hovs : ∀ c, c < n → (Ov c = 1 ∧ Ex c < (td : Int)) ∨ (Ov c = 0 ∧ (td : Int) ≤ Ex c)) (hexs : ∀ c, c < n → Ex c ≤ (td : Int) + 10 ∧ Ex c ≤ 200) (hn : n ≤ 12) (htd : td ≤ 200) (hpr : 0 ≤ pr ∧ pr ≤ 20000) (hup : 1 ≤ up ∧ up ≤ 10) (hdn : 1 ≤ dn ∧ dn ≤ 10) (hdv : ∀ j, 0 ≤ dv j ∧ dv j ≤ 1000) (hK : ∀ j, 0 ≤ K j ∧ K j ≤ 1) (hSt : ∀ j, 0 ≤ St j ∧ St j ≤ 20000) (hEx : ∀ j, 0 ≤ Ex j ∧ Ex j ≤ 200) (hAm : ∀ j, 0 ≤ Am j ∧ Am j ≤ 1) (hOv : ∀ j, 0 ≤ Ov j ∧ Ov j ≤ 1) (hsh : -100000 ≤ sh ∧ sh ≤ 100000) : jj_Mi EV (dC, dI) vwCl [(cI, .int), (cJ, .long), (cZ, .boolean), (cO, .object "java/lang/Object")] l yX4_order (Cond.code yX4_order cX4_order 11 (some .int) :: lw_U) ({ frames := 4, cells := 0, slots := 0, locals := 102 } : Room) [.ref (ad 0), .int (iI (k : Int)), .int (iI (c : Int)), .int (iI x), .int (iI y)] (wM ad cI cJ cZ th td pr up dn dv n K St Ex Am Ov Bi As BL AL He Co Ca mo sh co sd Cz Ab be ++ E) (S := (Nat → Int) × Int) (fun ⟨ab, b⟩ => (if 0 < x then (f_oq x y (Bi c) (As c) (BL c) (AL c) (He (7 * c + 6)) mo) else -(f_oq x y (Bi c) (As c) (BL c) (AL c) (He (7 * c + 6)) mo))) (fun ⟨ab, b⟩ => True) (fun ⟨ab, b⟩ => wM ad cI cJ cZ 0 td pr up dn dv n K St Ex Am Ov Bi As (va_up BL c (BL c - (if 0 < x then 0 else -(f_oq x y (Bi c) (As c) (BL c) (AL c) (He (7 * c + 6)) mo)))) (va_up AL c (AL c - (if 0 < x then (f_oq x y (Bi c) (As c) (BL c) (AL c) (He (7 * c + 6)) mo) else 0))) (f_dHe He c k (f_oq x y (Bi c) (As c) (BL c) (AL c) (He (7 * c + 6)) mo)) Co (f_dCa Ca k (if 0 < x then As c else Bi c) (f_oq x y (Bi c) (As c) (BL c) (AL c) (He (7 * c + 6)) mo)) mo sh co sd (va_up Cz 0 ((Cz 0) + ((f_W up dn dv td n K St Ex Am (f_dHe He c k (f_oq x y (Bi c) (As c) (BL c) (AL c) (He (7 * c + 6)) mo)) (f_dCa Ca k (if 0 < x then As c else Bi c) (f_oq x y (Bi c) (As c) (BL c) (AL c) (He (7 * c + 6)) mo)) sh pr) - (f_W up dn dv td n K St Ex Am He Ca sh pr)))) ab b ++ E) := by
  refine jj_start (cc := cX4_order) (nL := 11) (ret := (some .int)) (lv := [(0, .ref (ad 0)), (1, .int (iI (k : Int))), (2, .int (iI (c : Int))), (3, .int (iI x)), (4, .int (iI y))]) (fun A => jj_Qi _ _ _ _ _ _ A) hEV (by decide) rfl (Nat.le_of_ble_eq_true rfl) rfl ?_
  intro p9 e9 s9 m9 a9 b9 me9 c9 A9 C1 hr hin
  have C0 : jj_C p9 s9 m9 a9 me9 c9 (dC, dI) vwCl A9 11 cX4_order "StrikehallModel" lw_U _ EV := jj_toU C1
  have hw := C0.2.2.2.2.1
  have hHe : ∀ j, -1000000 ≤ He j ∧ He j ≤ 1000000 := fun j => by have := hHe1 j; omega
  obtain ⟨q, hq⟩ : ∃ q, q = (f_oq x y (Bi c) (As c) (BL c) (AL c) (He (7 * c + 6)) mo) := ⟨_, rfl⟩
  rw [← hq]
  have hqb := f_oq_bd (x := x) (y := y) (bi := Bi c) (ak := As c) (bl := BL c) (al := AL c) (he := He (7 * c + 6)) (mo := mo) (by omega) (hBL c).1 (hAL c).1
  rw [← hq] at hqb
  have hm1 := hHe (7 * c + 6)
  have hm2 := hBi c
  have hm3 := hAs c
  have hm4 := hBL c
  have hm5 := hAL c
  refine jj_iload_n C0 1 rfl dX4_order_0 ?_
  refine jj_i2l C0 (by omega) dX4_order_1 ?_
  refine jj_lconst C0 (z := 0) (by decide) dX4_order_2 ?_
  refine jj_ldc2 C0 (z := 5) (by decide) (hw _ hU_960) dX4_order_3 ?_
  refine jj_callSi C0 (cc_X4_in1 hEV (v := (k : Int)) (lo := 0) (hi := 5) (by omega) (by omega) (by omega) (by omega)) (cwS 3 hw (lw_gS hU_874 hU_875 hU_66 hU_876) rfl rfl rfl (by decide +kernel) ⟨Nat.le_of_ble_eq_true rfl, Nat.le_of_ble_eq_true rfl⟩) rfl rfl (Nat.le_of_ble_eq_true rfl) ⟨by decide, by decide⟩ rfl rfl dX4_order_6 ?_
  intro _ hu
  show jj_W _ _ _ _ _ _ _ _ _ _ _ _ _ _ _ _ _ 9 _ [.int (iI 1)] (wM ad cI cJ cZ th td pr up dn dv n K St Ex Am Ov Bi As BL AL He Co Ca mo sh co sd Cz Ab be ++ E)
  refine jj_if_eq C0 (by omega) dX4_order_9 (tgt := 24) (by decide) (fun c_1 => absurd c_1 (by omega)) (fun c_1 => ?_)
  refine jj_aload_n C0 0 rfl dX4_order_12 ?_
  refine jj_iload_n C0 2 rfl dX4_order_13 ?_
  refine jj_callVi C0 (cc_X4_isContract1 hEV (c := c) (by first | exact hcn | omega) (by first | exact hn | omega)) (cwV 1 hw (lw_gV hU_920 hU_922 hU_47 hU_66 hU_923) rfl rfl rfl (by decide +kernel) ⟨Nat.le_of_ble_eq_true rfl, Nat.le_of_ble_eq_true rfl⟩) (ci := 5) (q0 := 0) rfl (rfl) rfl rfl (Nat.le_of_ble_eq_true rfl) ⟨by decide, by decide⟩ rfl rfl dX4_order_14 ?_
  intro _ hu
  show jj_W _ _ _ _ _ _ _ _ _ _ _ _ _ _ _ _ _ 17 _ [.int (iI 1)] (wM ad cI cJ cZ th td pr up dn dv n K St Ex Am Ov Bi As BL AL He Co Ca mo sh co sd Cz Ab be ++ E)
  refine jj_if_eq C0 (by omega) dX4_order_17 (tgt := 24) (by decide) (fun c_2 => absurd c_2 (by omega)) (fun c_2 => ?_)
  refine jj_iconst C0 dX4_order_20 ?_
  refine jj_goto C0 (tgt := 25) dX4_order_21 (by decide) ?_
  refine jj_istore C0 (lv' := [(5, .int (iI 1)), (0, .ref (ad 0)), (1, .int (iI (k : Int))), (2, .int (iI (c : Int))), (3, .int (iI x)), (4, .int (iI y))]) (by decide) rfl dX4_order_25 ?_
  refine jj_iload_n C0 4 rfl dX4_order_27 ?_
  refine jj_i2l C0 (by omega) dX4_order_28 ?_
  refine jj_ldc2 C0 (z := -100) (by decide) (hw _ hU_961) dX4_order_29 ?_
  refine jj_ldc2 C0 (z := 100) (by decide) (hw _ hU_919) dX4_order_32 ?_
  refine jj_callSi C0 (cc_X4_in1 hEV (v := x) (lo := (-100)) (hi := 100) (by omega) (by omega) (by omega) (by omega)) (cwS 3 hw (lw_gS hU_874 hU_875 hU_66 hU_876) rfl rfl rfl (by decide +kernel) ⟨Nat.le_of_ble_eq_true rfl, Nat.le_of_ble_eq_true rfl⟩) rfl rfl (Nat.le_of_ble_eq_true rfl) ⟨by decide, by decide⟩ rfl rfl dX4_order_35 ?_
  intro _ hu
  show jj_W _ _ _ _ _ _ _ _ _ _ _ _ _ _ _ _ _ 38 _ [.int (iI 1)] (wM ad cI cJ cZ th td pr up dn dv n K St Ex Am Ov Bi As BL AL He Co Ca mo sh co sd Cz Ab be ++ E)
  refine jj_if_eq C0 (by omega) dX4_order_38 (tgt := 62) (by decide) (fun c_3 => absurd c_3 (by omega)) (fun c_3 => ?_)
  refine jj_iload_n C0 4 rfl dX4_order_41 ?_
  refine jj_if_eq C0 (by omega) dX4_order_42 (tgt := 62) (by decide) (fun c_4 => absurd c_4 (by omega)) (fun c_4 => ?_)
  refine jj_iload C0 5 rfl dX4_order_45 ?_
  refine jj_i2l C0 (by omega) dX4_order_47 ?_
  refine jj_lconst C0 (z := 0) (by decide) dX4_order_48 ?_
  refine jj_ldc2 C0 (z := 20000) (by decide) (hw _ hU_905) dX4_order_49 ?_
  refine jj_callSi C0 (cc_X4_in1 hEV (v := y) (lo := 0) (hi := 20000) (by omega) (by omega) (by omega) (by omega)) (cwS 3 hw (lw_gS hU_874 hU_875 hU_66 hU_876) rfl rfl rfl (by decide +kernel) ⟨Nat.le_of_ble_eq_true rfl, Nat.le_of_ble_eq_true rfl⟩) rfl rfl (Nat.le_of_ble_eq_true rfl) ⟨by decide, by decide⟩ rfl rfl dX4_order_52 ?_
  intro _ hu
  show jj_W _ _ _ _ _ _ _ _ _ _ _ _ _ _ _ _ _ 55 _ [.int (iI 1)] (wM ad cI cJ cZ th td pr up dn dv n K St Ex Am Ov Bi As BL AL He Co Ca mo sh co sd Cz Ab be ++ E)
  refine jj_if_eq C0 (by omega) dX4_order_55 (tgt := 62) (by decide) (fun c_5 => absurd c_5 (by omega)) (fun c_5 => ?_)
  refine jj_iconst C0 dX4_order_58 ?_
  refine jj_goto C0 (tgt := 63) dX4_order_59 (by decide) ?_
  refine jj_istore C0 (lv' := [(6, .int (iI 1)), (5, .int (iI 1)), (0, .ref (ad 0)), (1, .int (iI (k : Int))), (2, .int (iI (c : Int))), (3, .int (iI x)), (4, .int (iI y))]) (by decide) rfl dX4_order_63 ?_
  refine jj_aload_n C0 2 rfl dX4_order_65 ?_
  refine jj_iload C0 1 rfl dX4_order_66 ?_
  refine jj_if_ne C0 (by omega) dX4_order_68 (tgt := 75) (by decide) (fun c_6 => ?_) (fun c_6 => absurd c_6 (by omega))
  refine jj_iload C0 0 rfl dX4_order_75 ?_
  refine jj_if_ne C0 (by omega) dX4_order_77 (tgt := 84) (by decide) (fun c_7 => ?_) (fun c_7 => absurd c_7 (by omega))
  refine jj_aload_n C0 2 rfl dX4_order_84 ?_
  refine jj_get C0 (ci := 5) (v := .ref (ad 6)) hin_X4 (0) (rfl) rfl 11 (by decide) (hw _ hU_797) (fun _ h9 => h9) rfl dX4_order_85 ?_
  refine jj_iload_n C0 4 rfl dX4_order_88 ?_
  refine jj_zald C0 (q0 := 6) (t0 := 2) (f := Ov) (rfl) rfl (k := c) (by omega) (by omega) (by decide) dX4_order_89 ?_
  have hb_Ov_39972 := hOv c
  refine jj_if_eq C0 (by omega) dX4_order_90 (tgt := 97) (by decide) (fun c_8 => ?_) (fun c_8 => absurd c_8 (by omega))
  refine jj_iconst C0 dX4_order_97 ?_
  refine jj_put C0 (ci := 5) (v := .int (iI 0)) (ty := .int) hin_X4 tyX4 tyX4_ok nmX4 (0) (rfl) rfl 0 (by decide) (hw _ hU_786) (fun _ h9 => h9) rfl (by decide +kernel) (rfl) rfl (Nat.le_of_ble_eq_true rfl) (ws' := wM ad cI cJ cZ 0 td pr up dn dv n K St Ex Am Ov Bi As BL AL He Co Ca mo sh co sd Cz Ab be ++ E) (rfl) dX4_order_98 ?_
  refine jj_aload_n C0 2 rfl dX4_order_101 ?_
  refine jj_get C0 (ci := 5) (v := .int (iI 0)) hin_X4 (0) (rfl) rfl 0 (by decide) (hw _ hU_786) (fun _ h9 => h9) rfl dX4_order_102 ?_
  refine jj_if_le C0 (by omega) dX4_order_105 (tgt := 110) (by decide) (fun c_9 => ?_) (fun c_9 => absurd c_9 (by omega))
  refine jj_aload_n C0 2 rfl dX4_order_110 ?_
  refine jj_aload_n C0 2 rfl dX4_order_111 ?_
  refine jj_get C0 (ci := 5) (v := .int (iI pr)) hin_X4 (0) (rfl) rfl 2 (by decide) (hw _ hU_788) (fun _ h9 => h9) rfl dX4_order_112 ?_
  refine jj_callVl C0 (cc_X4_worthAt hEV (fr := pr) (fun c hc => Or.inr (hovs c hc)) (by first | exact hexs | omega) (by first | exact hn | omega) (by first | exact htd | omega) (by omega) (by first | exact hup | omega) (by first | exact hdn | omega) (by first | exact hdv | omega) (by first | exact hK | omega) (by first | exact hSt | omega) (by first | exact hEx | omega) (by first | exact hAm | omega) (by first | exact hOv | omega) (by first | exact hHe | omega) (by first | exact hsh | omega)) (cwV 1 hw (lw_gV hU_877 hU_879 hU_42 hU_66 hU_880) rfl rfl rfl (by decide +kernel) ⟨Nat.le_of_ble_eq_true rfl, Nat.le_of_ble_eq_true rfl⟩) (ci := 5) (q0 := 0) rfl (rfl) rfl rfl (Nat.le_of_ble_eq_true rfl) ⟨by decide, by decide⟩ rfl rfl dX4_order_115 ?_
  intro u hu
  obtain ⟨ab_10, b_10⟩ := u
  show jj_W _ _ _ _ _ _ _ _ _ _ _ _ _ _ _ _ _ 118 _ [.long (lI (f_W up dn dv td n K St Ex Am He Ca sh pr))] (wM ad cI cJ cZ 0 td pr up dn dv n K St Ex Am Ov Bi As BL AL He Co Ca mo sh co sd Cz ab_10 b_10 ++ E)
  refine jj_lstore C0 (lv' := [(7, .long (lI (f_W up dn dv td n K St Ex Am He Ca sh pr))), (6, .int (iI 1)), (5, .int (iI 1)), (0, .ref (ad 0)), (1, .int (iI (k : Int))), (2, .int (iI (c : Int))), (3, .int (iI x)), (4, .int (iI y))]) (by decide) rfl dX4_order_118 ?_
  refine jj_aload_n C0 3 rfl dX4_order_120 ?_
  refine jj_get C0 (ci := 5) (v := .ref (ad 11)) hin_X4 (0) (rfl) rfl 16 (by decide) (hw _ hU_802) (fun _ h9 => h9) rfl dX4_order_121 ?_
  refine jj_iconst C0 dX4_order_124 ?_
  refine jj_iload_n C0 5 rfl dX4_order_125 ?_
  refine jj_callSi C0 (cc_X4_atH hEV (c := c) (by omega)) (cwS 2 hw (lw_gS hU_882 hU_883 hU_66 hU_884) rfl rfl rfl (by decide +kernel) ⟨Nat.le_of_ble_eq_true rfl, Nat.le_of_ble_eq_true rfl⟩) rfl rfl (Nat.le_of_ble_eq_true rfl) ⟨by decide, by decide⟩ rfl rfl dX4_order_126 ?_
  intro _ hu
  show jj_W _ _ _ _ _ _ _ _ _ _ _ _ _ _ _ _ _ 129 _ [.int (iI ((7 * c + 6 : Nat) : Int)), .ref (ad 11)] (wM ad cI cJ cZ 0 td pr up dn dv n K St Ex Am Ov Bi As BL AL He Co Ca mo sh co sd Cz ab_10 b_10 ++ E)
  refine jj_iald C0 (q0 := 11) (t0 := 0) (f := He) (rfl) rfl (k := (7 * c + 6)) (by omega) (by omega) (by decide) dX4_order_129 ?_
  refine jj_istore C0 (lv' := [(9, .int (iI (He (7 * c + 6)))), (7, .long (lI (f_W up dn dv td n K St Ex Am He Ca sh pr))), (6, .int (iI 1)), (5, .int (iI 1)), (0, .ref (ad 0)), (1, .int (iI (k : Int))), (2, .int (iI (c : Int))), (3, .int (iI x)), (4, .int (iI y))]) (by decide) rfl dX4_order_130 ?_
  refine jj_iconst C0 dX4_order_132 ?_
  refine jj_istore C0 (lv' := [(10, .int (iI 0)), (9, .int (iI (He (7 * c + 6)))), (7, .long (lI (f_W up dn dv td n K St Ex Am He Ca sh pr))), (6, .int (iI 1)), (5, .int (iI 1)), (0, .ref (ad 0)), (1, .int (iI (k : Int))), (2, .int (iI (c : Int))), (3, .int (iI x)), (4, .int (iI y))]) (by decide) rfl dX4_order_133 ?_
  refine jj_join (X := Unit) (pcj := 290) (fun q9 => match q9 with | () => [(10, .int (iI (if 0 < x then q else -q))), (9, .int (iI (He (7 * c + 6)))), (7, .long (lI (f_W up dn dv td n K St Ex Am He Ca sh pr))), (6, .int (iI 1)), (5, .int (iI 1)), (0, .ref (ad 0)), (1, .int (iI (k : Int))), (2, .int (iI (c : Int))), (3, .int (iI x)), (4, .int (iI y))]) (fun q9 => match q9 with | () => []) (fun q9 => match q9 with | () => wM ad cI cJ cZ 0 td pr up dn dv n K St Ex Am Ov Bi As (va_up BL c (BL c - (if 0 < x then 0 else -q))) (va_up AL c (AL c - (if 0 < x then q else 0))) (f_dHe He c k q) Co (f_dCa Ca k (if 0 < x then As c else Bi c) q) mo sh co sd Cz ab_10 b_10 ++ E) (fun q9 => match q9 with | () => True) ?_ ?_
  · intro q9 hq9
    obtain ⟨⟩ := q9
    have _ : True := hq9
    refine jj_aload_n C0 5 rfl dX4_order_290 ?_
    refine jj_get C0 (ci := 5) (v := .ref (ad 14)) hin_X4 (0) (rfl) rfl 23 (by decide) (hw _ hU_809) (fun _ h9 => h9) rfl dX4_order_291 ?_
    refine jj_iconst C0 dX4_order_294 ?_
    refine jj_dup2_11 C0 dX4_order_295 rfl rfl ?_
    refine jj_lald C0 (q0 := 14) (t0 := 1) (f := Cz) (rfl) rfl (k := 0) (by omega) (by omega) (by decide) dX4_order_296 ?_
    refine jj_aload_n C0 5 rfl dX4_order_297 ?_
    refine jj_aload_n C0 5 rfl dX4_order_298 ?_
    refine jj_get C0 (ci := 5) (v := .int (iI pr)) hin_X4 (0) (rfl) rfl 2 (by decide) (hw _ hU_788) (fun _ h9 => h9) rfl dX4_order_299 ?_
    refine jj_callVl C0 (cc_X4_worthAt hEV (fr := pr) (fun c hc => Or.inr (hovs c hc)) (by first | exact hexs | omega) (by first | exact hn | omega) (by first | exact htd | omega) (by omega) (by first | exact hup | omega) (by first | exact hdn | omega) (by first | exact hdv | omega) (by first | exact hK | omega) (by first | exact hSt | omega) (by first | exact hEx | omega) (by first | exact hAm | omega) (by first | exact hOv | omega) (f_dHe_bd hHe1 (by omega)) (by first | exact hsh | omega)) (cwV 1 hw (lw_gV hU_877 hU_879 hU_42 hU_66 hU_880) rfl rfl rfl (by decide +kernel) ⟨Nat.le_of_ble_eq_true rfl, Nat.le_of_ble_eq_true rfl⟩) (ci := 5) (q0 := 0) rfl (rfl) rfl rfl (Nat.le_of_ble_eq_true rfl) ⟨by decide, by decide⟩ rfl rfl dX4_order_302 ?_
    intro u hu
    obtain ⟨ab_11, b_11⟩ := u
    show jj_W _ _ _ _ _ _ _ _ _ _ _ _ _ _ _ _ _ 305 _ [.long (lI (f_W up dn dv td n K St Ex Am (f_dHe He c k q) (f_dCa Ca k (if 0 < x then As c else Bi c) q) sh pr)), .long (lI (Cz 0)), .int (iI 0), .ref (ad 14)] (wM ad cI cJ cZ 0 td pr up dn dv n K St Ex Am Ov Bi As (va_up BL c (BL c - (if 0 < x then 0 else -q))) (va_up AL c (AL c - (if 0 < x then q else 0))) (f_dHe He c k q) Co (f_dCa Ca k (if 0 < x then As c else Bi c) q) mo sh co sd Cz ab_11 b_11 ++ E)
    refine jj_lload C0 2 rfl dX4_order_305 ?_
    refine jj_lsub C0 dX4_order_307 ?_
    refine jj_ladd C0 dX4_order_308 ?_
    refine jj_last C0 (q0 := 14) (t0 := 1) (f := Cz) (rfl) rfl (k := 0) (by omega) (by omega) (by decide) (ws' := wM ad cI cJ cZ 0 td pr up dn dv n K St Ex Am Ov Bi As (va_up BL c (BL c - (if 0 < x then 0 else -q))) (va_up AL c (AL c - (if 0 < x then q else 0))) (f_dHe He c k q) Co (f_dCa Ca k (if 0 < x then As c else Bi c) q) mo sh co sd (va_up Cz 0 ((Cz 0) + ((f_W up dn dv td n K St Ex Am (f_dHe He c k q) (f_dCa Ca k (if 0 < x then As c else Bi c) q) sh pr) - (f_W up dn dv td n K St Ex Am He Ca sh pr)))) ab_11 b_11 ++ E) (rfl) dX4_order_309 ?_
    refine jj_iload C0 0 rfl dX4_order_310 ?_
    exact jj_iret C0 hr (ab_11, b_11) (trivial) (rfl) (rfl) (by decide) (by decide) dX4_order_312
  intro j290
  refine jj_iload_n C0 8 rfl dX4_order_135 ?_
  refine jj_if_le C0 (by omega) dX4_order_136 (tgt := 213) (by decide) (fun c_12 => ?_) (fun c_12 => ?_)
  · refine jj_iload_n C0 8 rfl dX4_order_213 ?_
    refine jj_if_ge C0 (by omega) dX4_order_214 (tgt := 290) (by decide) (fun c_13 => ?_) (fun c_13 => ?_)
    · have hq0 : q = 0 := by rw [hq]; unfold f_oq; rw [if_pos (by omega), if_neg (by omega)]
      refine jj_lve (lv' := [(10, .int (iI (if 0 < x then q else -q))), (9, .int (iI (He (7 * c + 6)))), (7, .long (lI (f_W up dn dv td n K St Ex Am He Ca sh pr))), (6, .int (iI 1)), (5, .int (iI 1)), (0, .ref (ad 0)), (1, .int (iI (k : Int))), (2, .int (iI (c : Int))), (3, .int (iI x)), (4, .int (iI y))]) (by first | (rw [hq0]; simp; done) | (rw [if_pos (show 0 < x by omega)]; done) | (rw [if_neg (show ¬ 0 < x by omega)]; done)) ?_
      refine jj_ws (ws' := wM ad cI cJ cZ 0 td pr up dn dv n K St Ex Am Ov Bi As (va_up BL c (BL c - (if 0 < x then 0 else -q))) (va_up AL c (AL c - (if 0 < x then q else 0))) (f_dHe He c k q) Co (f_dCa Ca k (if 0 < x then As c else Bi c) q) mo sh co sd Cz ab_10 b_10 ++ E) (by first | (exfalso; omega) | rfl | (rw [hq0, f_dHe_0, f_dCa_0]; simp only [Int.neg_zero, ite_self, Int.sub_zero, up_id]) | (simp only [if_pos (show 0 < x by omega), Int.sub_zero, up_id]) | (simp only [if_neg (show ¬ 0 < x by omega), Int.sub_zero, up_id]; try rw [Int.sub_neg])) ?_
      exact j290 () trivial
    · refine jj_iload C0 9 rfl dX4_order_217 ?_
      refine jj_aload_n C0 5 rfl dX4_order_219 ?_
      refine jj_get C0 (ci := 5) (v := .ref (ad 7)) hin_X4 (0) (rfl) rfl 12 (by decide) (hw _ hU_798) (fun _ h9 => h9) rfl dX4_order_220 ?_
      refine jj_iload_n C0 7 rfl dX4_order_223 ?_
      refine jj_iald C0 (q0 := 7) (t0 := 0) (f := Bi) (rfl) rfl (k := c) (by omega) (by omega) (by decide) dX4_order_224 ?_
      have hb_Bi_35971 := hBi c
      refine jj_icmp_gt C0 (by omega) (by omega) dX4_order_225 (tgt := 290) (by decide) (fun c_14 => ?_) (fun c_14 => ?_)
      · have hq0 : q = 0 := by rw [hq]; unfold f_oq; rw [if_neg (by omega), if_neg (by omega)]
        refine jj_lve (lv' := [(10, .int (iI (if 0 < x then q else -q))), (9, .int (iI (He (7 * c + 6)))), (7, .long (lI (f_W up dn dv td n K St Ex Am He Ca sh pr))), (6, .int (iI 1)), (5, .int (iI 1)), (0, .ref (ad 0)), (1, .int (iI (k : Int))), (2, .int (iI (c : Int))), (3, .int (iI x)), (4, .int (iI y))]) (by first | (rw [hq0]; simp; done) | (rw [if_pos (show 0 < x by omega)]; done) | (rw [if_neg (show ¬ 0 < x by omega)]; done)) ?_
        refine jj_ws (ws' := wM ad cI cJ cZ 0 td pr up dn dv n K St Ex Am Ov Bi As (va_up BL c (BL c - (if 0 < x then 0 else -q))) (va_up AL c (AL c - (if 0 < x then q else 0))) (f_dHe He c k q) Co (f_dCa Ca k (if 0 < x then As c else Bi c) q) mo sh co sd Cz ab_10 b_10 ++ E) (by first | (exfalso; omega) | rfl | (rw [hq0, f_dHe_0, f_dCa_0]; simp only [Int.neg_zero, ite_self, Int.sub_zero, up_id]) | (simp only [if_pos (show 0 < x by omega), Int.sub_zero, up_id]) | (simp only [if_neg (show ¬ 0 < x by omega), Int.sub_zero, up_id]; try rw [Int.sub_neg])) ?_
        exact j290 () trivial
      · refine jj_join (X := Unit) (pcj := 262) (fun q9 => match q9 with | () => [(9, .int (iI (He (7 * c + 6)))), (7, .long (lI (f_W up dn dv td n K St Ex Am He Ca sh pr))), (6, .int (iI 1)), (5, .int (iI 1)), (0, .ref (ad 0)), (1, .int (iI (k : Int))), (2, .int (iI (c : Int))), (3, .int (iI x)), (4, .int (iI y))]) (fun q9 => match q9 with | () => [.int (iI (-q))]) (fun q9 => match q9 with | () => wM ad cI cJ cZ 0 td pr up dn dv n K St Ex Am Ov Bi As BL AL He Co Ca mo sh co sd Cz ab_10 b_10 ++ E) (fun q9 => match q9 with | () => True) ?_ ?_
        · intro q9 hq9
          obtain ⟨⟩ := q9
          have _ : True := hq9
          refine jj_istore C0 (lv' := [(10, .int (iI (-q))), (9, .int (iI (He (7 * c + 6)))), (7, .long (lI (f_W up dn dv td n K St Ex Am He Ca sh pr))), (6, .int (iI 1)), (5, .int (iI 1)), (0, .ref (ad 0)), (1, .int (iI (k : Int))), (2, .int (iI (c : Int))), (3, .int (iI x)), (4, .int (iI y))]) (by decide) rfl dX4_order_262 ?_
          refine jj_aload_n C0 5 rfl dX4_order_264 ?_
          refine jj_get C0 (ci := 5) (v := .ref (ad 9)) hin_X4 (0) (rfl) rfl 14 (by decide) (hw _ hU_800) (fun _ h9 => h9) rfl dX4_order_265 ?_
          refine jj_iload_n C0 7 rfl dX4_order_268 ?_
          refine jj_dup2_11 C0 dX4_order_269 rfl rfl ?_
          refine jj_iald C0 (q0 := 9) (t0 := 0) (f := BL) (rfl) rfl (k := c) (by omega) (by omega) (by decide) dX4_order_270 ?_
          have hb_BL_49931 := hBL c
          refine jj_iload C0 0 rfl dX4_order_271 ?_
          refine jj_isub C0 dX4_order_273 ?_
          refine jj_iast C0 (q0 := 9) (t0 := 0) (f := BL) (rfl) rfl (k := c) (by omega) (by omega) (by decide) (ws' := wM ad cI cJ cZ 0 td pr up dn dv n K St Ex Am Ov Bi As (va_up BL c ((BL c) - (-q))) AL He Co Ca mo sh co sd Cz ab_10 b_10 ++ E) (rfl) dX4_order_274 ?_
          refine jj_aload_n C0 5 rfl dX4_order_275 ?_
          refine jj_iload_n C0 6 rfl dX4_order_276 ?_
          refine jj_iload_n C0 7 rfl dX4_order_277 ?_
          refine jj_iload C0 0 rfl dX4_order_278 ?_
          refine jj_ineg C0 dX4_order_280 ?_
          refine jj_topi (b := q) (by omega) ?_
          refine jj_aload_n C0 5 rfl dX4_order_281 ?_
          refine jj_get C0 (ci := 5) (v := .ref (ad 7)) hin_X4 (0) (rfl) rfl 12 (by decide) (hw _ hU_798) (fun _ h9 => h9) rfl dX4_order_282 ?_
          refine jj_iload_n C0 7 rfl dX4_order_285 ?_
          refine jj_iald C0 (q0 := 7) (t0 := 0) (f := Bi) (rfl) rfl (k := c) (by omega) (by omega) (by decide) dX4_order_286 ?_
          have hb_Bi_35971 := hBi c
          refine jj_callVv C0 (cc_X4_deals hEV (k := k) (c := c) (q := q) (p := (Bi c)) (by first | exact hk | omega) (by omega) (by omega) (by omega)) (cwV 4 hw (lw_gV hU_965 hU_967 hU_54 hU_66 hU_968) rfl rfl rfl (by decide +kernel) ⟨Nat.le_of_ble_eq_true rfl, Nat.le_of_ble_eq_true rfl⟩) (ci := 5) (q0 := 0) rfl (rfl) rfl rfl (Nat.le_of_ble_eq_true rfl) ⟨by decide, by decide⟩ rfl rfl dX4_order_287 ?_
          intro _ hu
          show jj_W _ _ _ _ _ _ _ _ _ _ _ _ _ _ _ _ _ 290 _ [] (wM ad cI cJ cZ 0 td pr up dn dv n K St Ex Am Ov Bi As (va_up BL c ((BL c) - (-q))) AL (f_dHe He c k q) Co (f_dCa Ca k (Bi c) q) mo sh co sd Cz ab_10 b_10 ++ E)
          refine jj_lve (lv' := [(10, .int (iI (if 0 < x then q else -q))), (9, .int (iI (He (7 * c + 6)))), (7, .long (lI (f_W up dn dv td n K St Ex Am He Ca sh pr))), (6, .int (iI 1)), (5, .int (iI 1)), (0, .ref (ad 0)), (1, .int (iI (k : Int))), (2, .int (iI (c : Int))), (3, .int (iI x)), (4, .int (iI y))]) (by first | (rw [hq0]; simp; done) | (rw [if_pos (show 0 < x by omega)]; done) | (rw [if_neg (show ¬ 0 < x by omega)]; done)) ?_
          refine jj_ws (ws' := wM ad cI cJ cZ 0 td pr up dn dv n K St Ex Am Ov Bi As (va_up BL c (BL c - (if 0 < x then 0 else -q))) (va_up AL c (AL c - (if 0 < x then q else 0))) (f_dHe He c k q) Co (f_dCa Ca k (if 0 < x then As c else Bi c) q) mo sh co sd Cz ab_10 b_10 ++ E) (by first | (exfalso; omega) | rfl | (rw [hq0, f_dHe_0, f_dCa_0]; simp only [Int.neg_zero, ite_self, Int.sub_zero, up_id]) | (simp only [if_pos (show 0 < x by omega), Int.sub_zero, up_id]) | (simp only [if_neg (show ¬ 0 < x by omega), Int.sub_zero, up_id]; try rw [Int.sub_neg])) ?_
          exact j290 () trivial
        intro j262
        refine jj_iload_n C0 8 rfl dX4_order_228 ?_
        refine jj_ineg C0 dX4_order_229 ?_
        refine jj_aload_n C0 5 rfl dX4_order_230 ?_
        refine jj_get C0 (ci := 5) (v := .ref (ad 9)) hin_X4 (0) (rfl) rfl 14 (by decide) (hw _ hU_800) (fun _ h9 => h9) rfl dX4_order_231 ?_
        refine jj_iload_n C0 7 rfl dX4_order_234 ?_
        refine jj_iald C0 (q0 := 9) (t0 := 0) (f := BL) (rfl) rfl (k := c) (by omega) (by omega) (by decide) dX4_order_235 ?_
        have hb_BL_49931 := hBL c
        refine jj_callSi C0 (cc_X4_least hEV (a := (-x)) (b := (BL c)) (by omega) (by omega)) (cwS 2 hw (lw_gS hU_962 hU_963 hU_66 hU_964) rfl rfl rfl (by decide +kernel) ⟨Nat.le_of_ble_eq_true rfl, Nat.le_of_ble_eq_true rfl⟩) rfl rfl (Nat.le_of_ble_eq_true rfl) ⟨by decide, by decide⟩ rfl rfl dX4_order_236 ?_
        intro _ hu
        show jj_W _ _ _ _ _ _ _ _ _ _ _ _ _ _ _ _ _ 239 _ [.int (iI (min (-x) (BL c)))] (wM ad cI cJ cZ 0 td pr up dn dv n K St Ex Am Ov Bi As BL AL He Co Ca mo sh co sd Cz ab_10 b_10 ++ E)
        refine jj_aload_n C0 5 rfl dX4_order_239 ?_
        refine jj_get C0 (ci := 5) (v := .int (iI mo)) hin_X4 (0) (rfl) rfl 19 (by decide) (hw _ hU_805) (fun _ h9 => h9) rfl dX4_order_240 ?_
        refine jj_iload C0 1 rfl dX4_order_243 ?_
        refine jj_isub C0 dX4_order_245 ?_
        refine jj_callSi C0 (cc_X4_least hEV (a := (min (-x) (BL c))) (b := (mo - (He (7 * c + 6)))) (by omega) (by omega)) (cwS 2 hw (lw_gS hU_962 hU_963 hU_66 hU_964) rfl rfl rfl (by decide +kernel) ⟨Nat.le_of_ble_eq_true rfl, Nat.le_of_ble_eq_true rfl⟩) rfl rfl (Nat.le_of_ble_eq_true rfl) ⟨by decide, by decide⟩ rfl rfl dX4_order_246 ?_
        intro _ hu
        show jj_W _ _ _ _ _ _ _ _ _ _ _ _ _ _ _ _ _ 249 _ [.int (iI (min (min (-x) (BL c)) (mo - (He (7 * c + 6)))))] (wM ad cI cJ cZ 0 td pr up dn dv n K St Ex Am Ov Bi As BL AL He Co Ca mo sh co sd Cz ab_10 b_10 ++ E)
        refine jj_istore C0 (lv' := [(10, .int (iI (min (min (-x) (BL c)) (mo - (He (7 * c + 6)))))), (9, .int (iI (He (7 * c + 6)))), (7, .long (lI (f_W up dn dv td n K St Ex Am He Ca sh pr))), (6, .int (iI 1)), (5, .int (iI 1)), (0, .ref (ad 0)), (1, .int (iI (k : Int))), (2, .int (iI (c : Int))), (3, .int (iI x)), (4, .int (iI y))]) (by decide) rfl dX4_order_249 ?_
        refine jj_iload C0 0 rfl dX4_order_251 ?_
        refine jj_if_ge C0 (by omega) dX4_order_253 (tgt := 260) (by decide) (fun c_15 => ?_) (fun c_15 => ?_)
        · refine jj_iload C0 0 rfl dX4_order_260 ?_
          refine jj_topi (b := (-q)) (by rw [hq]; unfold f_oq; rw [if_neg (by omega), if_pos (by omega)]; omega) ?_
          refine jj_lv [1, 2, 3, 4, 5, 6, 7, 8, 9] rfl ?_
          exact j262 () trivial
        · refine jj_iconst C0 dX4_order_256 ?_
          refine jj_goto C0 (tgt := 262) dX4_order_257 (by decide) ?_
          refine jj_topi (b := (-q)) (by rw [hq]; unfold f_oq; rw [if_neg (by omega), if_pos (by omega)]; omega) ?_
          refine jj_lv [1, 2, 3, 4, 5, 6, 7, 8, 9] rfl ?_
          exact j262 () trivial
  · refine jj_iload C0 9 rfl dX4_order_139 ?_
    refine jj_aload_n C0 5 rfl dX4_order_141 ?_
    refine jj_get C0 (ci := 5) (v := .ref (ad 8)) hin_X4 (0) (rfl) rfl 13 (by decide) (hw _ hU_799) (fun _ h9 => h9) rfl dX4_order_142 ?_
    refine jj_iload_n C0 7 rfl dX4_order_145 ?_
    refine jj_iald C0 (q0 := 8) (t0 := 0) (f := As) (rfl) rfl (k := c) (by omega) (by omega) (by decide) dX4_order_146 ?_
    have hb_As_68650 := hAs c
    refine jj_icmp_lt C0 (by omega) (by omega) dX4_order_147 (tgt := 213) (by decide) (fun c_16 => ?_) (fun c_16 => ?_)
    · refine jj_iload_n C0 8 rfl dX4_order_213 ?_
      refine jj_if_ge C0 (by omega) dX4_order_214 (tgt := 290) (by decide) (fun c_17 => ?_) (fun c_17 => ?_)
      · have hq0 : q = 0 := by rw [hq]; unfold f_oq; rw [if_pos (by omega), if_neg (by omega)]
        refine jj_lve (lv' := [(10, .int (iI (if 0 < x then q else -q))), (9, .int (iI (He (7 * c + 6)))), (7, .long (lI (f_W up dn dv td n K St Ex Am He Ca sh pr))), (6, .int (iI 1)), (5, .int (iI 1)), (0, .ref (ad 0)), (1, .int (iI (k : Int))), (2, .int (iI (c : Int))), (3, .int (iI x)), (4, .int (iI y))]) (by first | (rw [hq0]; simp; done) | (rw [if_pos (show 0 < x by omega)]; done) | (rw [if_neg (show ¬ 0 < x by omega)]; done)) ?_
        refine jj_ws (ws' := wM ad cI cJ cZ 0 td pr up dn dv n K St Ex Am Ov Bi As (va_up BL c (BL c - (if 0 < x then 0 else -q))) (va_up AL c (AL c - (if 0 < x then q else 0))) (f_dHe He c k q) Co (f_dCa Ca k (if 0 < x then As c else Bi c) q) mo sh co sd Cz ab_10 b_10 ++ E) (by first | (exfalso; omega) | rfl | (rw [hq0, f_dHe_0, f_dCa_0]; simp only [Int.neg_zero, ite_self, Int.sub_zero, up_id]) | (simp only [if_pos (show 0 < x by omega), Int.sub_zero, up_id]) | (simp only [if_neg (show ¬ 0 < x by omega), Int.sub_zero, up_id]; try rw [Int.sub_neg])) ?_
        exact j290 () trivial
      · refine jj_iload C0 9 rfl dX4_order_217 ?_
        refine jj_aload_n C0 5 rfl dX4_order_219 ?_
        refine jj_get C0 (ci := 5) (v := .ref (ad 7)) hin_X4 (0) (rfl) rfl 12 (by decide) (hw _ hU_798) (fun _ h9 => h9) rfl dX4_order_220 ?_
        refine jj_iload_n C0 7 rfl dX4_order_223 ?_
        refine jj_iald C0 (q0 := 7) (t0 := 0) (f := Bi) (rfl) rfl (k := c) (by omega) (by omega) (by decide) dX4_order_224 ?_
        have hb_Bi_35971 := hBi c
        refine jj_icmp_gt C0 (by omega) (by omega) dX4_order_225 (tgt := 290) (by decide) (fun c_18 => ?_) (fun c_18 => ?_)
        · have hq0 : q = 0 := by rw [hq]; unfold f_oq; rw [if_neg (by omega), if_neg (by omega)]
          refine jj_lve (lv' := [(10, .int (iI (if 0 < x then q else -q))), (9, .int (iI (He (7 * c + 6)))), (7, .long (lI (f_W up dn dv td n K St Ex Am He Ca sh pr))), (6, .int (iI 1)), (5, .int (iI 1)), (0, .ref (ad 0)), (1, .int (iI (k : Int))), (2, .int (iI (c : Int))), (3, .int (iI x)), (4, .int (iI y))]) (by first | (rw [hq0]; simp; done) | (rw [if_pos (show 0 < x by omega)]; done) | (rw [if_neg (show ¬ 0 < x by omega)]; done)) ?_
          refine jj_ws (ws' := wM ad cI cJ cZ 0 td pr up dn dv n K St Ex Am Ov Bi As (va_up BL c (BL c - (if 0 < x then 0 else -q))) (va_up AL c (AL c - (if 0 < x then q else 0))) (f_dHe He c k q) Co (f_dCa Ca k (if 0 < x then As c else Bi c) q) mo sh co sd Cz ab_10 b_10 ++ E) (by first | (exfalso; omega) | rfl | (rw [hq0, f_dHe_0, f_dCa_0]; simp only [Int.neg_zero, ite_self, Int.sub_zero, up_id]) | (simp only [if_pos (show 0 < x by omega), Int.sub_zero, up_id]) | (simp only [if_neg (show ¬ 0 < x by omega), Int.sub_zero, up_id]; try rw [Int.sub_neg])) ?_
          exact j290 () trivial
        · refine jj_join (X := Unit) (pcj := 262) (fun q9 => match q9 with | () => [(9, .int (iI (He (7 * c + 6)))), (7, .long (lI (f_W up dn dv td n K St Ex Am He Ca sh pr))), (6, .int (iI 1)), (5, .int (iI 1)), (0, .ref (ad 0)), (1, .int (iI (k : Int))), (2, .int (iI (c : Int))), (3, .int (iI x)), (4, .int (iI y))]) (fun q9 => match q9 with | () => [.int (iI (-q))]) (fun q9 => match q9 with | () => wM ad cI cJ cZ 0 td pr up dn dv n K St Ex Am Ov Bi As BL AL He Co Ca mo sh co sd Cz ab_10 b_10 ++ E) (fun q9 => match q9 with | () => True) ?_ ?_
          · intro q9 hq9
            obtain ⟨⟩ := q9
            have _ : True := hq9
            refine jj_istore C0 (lv' := [(10, .int (iI (-q))), (9, .int (iI (He (7 * c + 6)))), (7, .long (lI (f_W up dn dv td n K St Ex Am He Ca sh pr))), (6, .int (iI 1)), (5, .int (iI 1)), (0, .ref (ad 0)), (1, .int (iI (k : Int))), (2, .int (iI (c : Int))), (3, .int (iI x)), (4, .int (iI y))]) (by decide) rfl dX4_order_262 ?_
            refine jj_aload_n C0 5 rfl dX4_order_264 ?_
            refine jj_get C0 (ci := 5) (v := .ref (ad 9)) hin_X4 (0) (rfl) rfl 14 (by decide) (hw _ hU_800) (fun _ h9 => h9) rfl dX4_order_265 ?_
            refine jj_iload_n C0 7 rfl dX4_order_268 ?_
            refine jj_dup2_11 C0 dX4_order_269 rfl rfl ?_
            refine jj_iald C0 (q0 := 9) (t0 := 0) (f := BL) (rfl) rfl (k := c) (by omega) (by omega) (by decide) dX4_order_270 ?_
            have hb_BL_49931 := hBL c
            refine jj_iload C0 0 rfl dX4_order_271 ?_
            refine jj_isub C0 dX4_order_273 ?_
            refine jj_iast C0 (q0 := 9) (t0 := 0) (f := BL) (rfl) rfl (k := c) (by omega) (by omega) (by decide) (ws' := wM ad cI cJ cZ 0 td pr up dn dv n K St Ex Am Ov Bi As (va_up BL c ((BL c) - (-q))) AL He Co Ca mo sh co sd Cz ab_10 b_10 ++ E) (rfl) dX4_order_274 ?_
            refine jj_aload_n C0 5 rfl dX4_order_275 ?_
            refine jj_iload_n C0 6 rfl dX4_order_276 ?_
            refine jj_iload_n C0 7 rfl dX4_order_277 ?_
            refine jj_iload C0 0 rfl dX4_order_278 ?_
            refine jj_ineg C0 dX4_order_280 ?_
            refine jj_topi (b := q) (by omega) ?_
            refine jj_aload_n C0 5 rfl dX4_order_281 ?_
            refine jj_get C0 (ci := 5) (v := .ref (ad 7)) hin_X4 (0) (rfl) rfl 12 (by decide) (hw _ hU_798) (fun _ h9 => h9) rfl dX4_order_282 ?_
            refine jj_iload_n C0 7 rfl dX4_order_285 ?_
            refine jj_iald C0 (q0 := 7) (t0 := 0) (f := Bi) (rfl) rfl (k := c) (by omega) (by omega) (by decide) dX4_order_286 ?_
            have hb_Bi_35971 := hBi c
            refine jj_callVv C0 (cc_X4_deals hEV (k := k) (c := c) (q := q) (p := (Bi c)) (by first | exact hk | omega) (by omega) (by omega) (by omega)) (cwV 4 hw (lw_gV hU_965 hU_967 hU_54 hU_66 hU_968) rfl rfl rfl (by decide +kernel) ⟨Nat.le_of_ble_eq_true rfl, Nat.le_of_ble_eq_true rfl⟩) (ci := 5) (q0 := 0) rfl (rfl) rfl rfl (Nat.le_of_ble_eq_true rfl) ⟨by decide, by decide⟩ rfl rfl dX4_order_287 ?_
            intro _ hu
            show jj_W _ _ _ _ _ _ _ _ _ _ _ _ _ _ _ _ _ 290 _ [] (wM ad cI cJ cZ 0 td pr up dn dv n K St Ex Am Ov Bi As (va_up BL c ((BL c) - (-q))) AL (f_dHe He c k q) Co (f_dCa Ca k (Bi c) q) mo sh co sd Cz ab_10 b_10 ++ E)
            refine jj_lve (lv' := [(10, .int (iI (if 0 < x then q else -q))), (9, .int (iI (He (7 * c + 6)))), (7, .long (lI (f_W up dn dv td n K St Ex Am He Ca sh pr))), (6, .int (iI 1)), (5, .int (iI 1)), (0, .ref (ad 0)), (1, .int (iI (k : Int))), (2, .int (iI (c : Int))), (3, .int (iI x)), (4, .int (iI y))]) (by first | (rw [hq0]; simp; done) | (rw [if_pos (show 0 < x by omega)]; done) | (rw [if_neg (show ¬ 0 < x by omega)]; done)) ?_
            refine jj_ws (ws' := wM ad cI cJ cZ 0 td pr up dn dv n K St Ex Am Ov Bi As (va_up BL c (BL c - (if 0 < x then 0 else -q))) (va_up AL c (AL c - (if 0 < x then q else 0))) (f_dHe He c k q) Co (f_dCa Ca k (if 0 < x then As c else Bi c) q) mo sh co sd Cz ab_10 b_10 ++ E) (by first | (exfalso; omega) | rfl | (rw [hq0, f_dHe_0, f_dCa_0]; simp only [Int.neg_zero, ite_self, Int.sub_zero, up_id]) | (simp only [if_pos (show 0 < x by omega), Int.sub_zero, up_id]) | (simp only [if_neg (show ¬ 0 < x by omega), Int.sub_zero, up_id]; try rw [Int.sub_neg])) ?_
            exact j290 () trivial
          intro j262
          refine jj_iload_n C0 8 rfl dX4_order_228 ?_
          refine jj_ineg C0 dX4_order_229 ?_
          refine jj_aload_n C0 5 rfl dX4_order_230 ?_
          refine jj_get C0 (ci := 5) (v := .ref (ad 9)) hin_X4 (0) (rfl) rfl 14 (by decide) (hw _ hU_800) (fun _ h9 => h9) rfl dX4_order_231 ?_
          refine jj_iload_n C0 7 rfl dX4_order_234 ?_
          refine jj_iald C0 (q0 := 9) (t0 := 0) (f := BL) (rfl) rfl (k := c) (by omega) (by omega) (by decide) dX4_order_235 ?_
          have hb_BL_49931 := hBL c
          refine jj_callSi C0 (cc_X4_least hEV (a := (-x)) (b := (BL c)) (by omega) (by omega)) (cwS 2 hw (lw_gS hU_962 hU_963 hU_66 hU_964) rfl rfl rfl (by decide +kernel) ⟨Nat.le_of_ble_eq_true rfl, Nat.le_of_ble_eq_true rfl⟩) rfl rfl (Nat.le_of_ble_eq_true rfl) ⟨by decide, by decide⟩ rfl rfl dX4_order_236 ?_
          intro _ hu
          show jj_W _ _ _ _ _ _ _ _ _ _ _ _ _ _ _ _ _ 239 _ [.int (iI (min (-x) (BL c)))] (wM ad cI cJ cZ 0 td pr up dn dv n K St Ex Am Ov Bi As BL AL He Co Ca mo sh co sd Cz ab_10 b_10 ++ E)
          refine jj_aload_n C0 5 rfl dX4_order_239 ?_
          refine jj_get C0 (ci := 5) (v := .int (iI mo)) hin_X4 (0) (rfl) rfl 19 (by decide) (hw _ hU_805) (fun _ h9 => h9) rfl dX4_order_240 ?_
          refine jj_iload C0 1 rfl dX4_order_243 ?_
          refine jj_isub C0 dX4_order_245 ?_
          refine jj_callSi C0 (cc_X4_least hEV (a := (min (-x) (BL c))) (b := (mo - (He (7 * c + 6)))) (by omega) (by omega)) (cwS 2 hw (lw_gS hU_962 hU_963 hU_66 hU_964) rfl rfl rfl (by decide +kernel) ⟨Nat.le_of_ble_eq_true rfl, Nat.le_of_ble_eq_true rfl⟩) rfl rfl (Nat.le_of_ble_eq_true rfl) ⟨by decide, by decide⟩ rfl rfl dX4_order_246 ?_
          intro _ hu
          show jj_W _ _ _ _ _ _ _ _ _ _ _ _ _ _ _ _ _ 249 _ [.int (iI (min (min (-x) (BL c)) (mo - (He (7 * c + 6)))))] (wM ad cI cJ cZ 0 td pr up dn dv n K St Ex Am Ov Bi As BL AL He Co Ca mo sh co sd Cz ab_10 b_10 ++ E)
          refine jj_istore C0 (lv' := [(10, .int (iI (min (min (-x) (BL c)) (mo - (He (7 * c + 6)))))), (9, .int (iI (He (7 * c + 6)))), (7, .long (lI (f_W up dn dv td n K St Ex Am He Ca sh pr))), (6, .int (iI 1)), (5, .int (iI 1)), (0, .ref (ad 0)), (1, .int (iI (k : Int))), (2, .int (iI (c : Int))), (3, .int (iI x)), (4, .int (iI y))]) (by decide) rfl dX4_order_249 ?_
          refine jj_iload C0 0 rfl dX4_order_251 ?_
          refine jj_if_ge C0 (by omega) dX4_order_253 (tgt := 260) (by decide) (fun c_19 => ?_) (fun c_19 => ?_)
          · refine jj_iload C0 0 rfl dX4_order_260 ?_
            refine jj_topi (b := (-q)) (by rw [hq]; unfold f_oq; rw [if_neg (by omega), if_pos (by omega)]; omega) ?_
            refine jj_lv [1, 2, 3, 4, 5, 6, 7, 8, 9] rfl ?_
            exact j262 () trivial
          · refine jj_iconst C0 dX4_order_256 ?_
            refine jj_goto C0 (tgt := 262) dX4_order_257 (by decide) ?_
            refine jj_topi (b := (-q)) (by rw [hq]; unfold f_oq; rw [if_neg (by omega), if_pos (by omega)]; omega) ?_
            refine jj_lv [1, 2, 3, 4, 5, 6, 7, 8, 9] rfl ?_
            exact j262 () trivial
    · refine jj_join (X := Unit) (pcj := 183) (fun q9 => match q9 with | () => [(9, .int (iI (He (7 * c + 6)))), (7, .long (lI (f_W up dn dv td n K St Ex Am He Ca sh pr))), (6, .int (iI 1)), (5, .int (iI 1)), (0, .ref (ad 0)), (1, .int (iI (k : Int))), (2, .int (iI (c : Int))), (3, .int (iI x)), (4, .int (iI y))]) (fun q9 => match q9 with | () => [.int (iI q)]) (fun q9 => match q9 with | () => wM ad cI cJ cZ 0 td pr up dn dv n K St Ex Am Ov Bi As BL AL He Co Ca mo sh co sd Cz ab_10 b_10 ++ E) (fun q9 => match q9 with | () => True) ?_ ?_
      · intro q9 hq9
        obtain ⟨⟩ := q9
        have _ : True := hq9
        refine jj_istore C0 (lv' := [(10, .int (iI q)), (9, .int (iI (He (7 * c + 6)))), (7, .long (lI (f_W up dn dv td n K St Ex Am He Ca sh pr))), (6, .int (iI 1)), (5, .int (iI 1)), (0, .ref (ad 0)), (1, .int (iI (k : Int))), (2, .int (iI (c : Int))), (3, .int (iI x)), (4, .int (iI y))]) (by decide) rfl dX4_order_183 ?_
        refine jj_aload_n C0 5 rfl dX4_order_185 ?_
        refine jj_get C0 (ci := 5) (v := .ref (ad 10)) hin_X4 (0) (rfl) rfl 15 (by decide) (hw _ hU_801) (fun _ h9 => h9) rfl dX4_order_186 ?_
        refine jj_iload_n C0 7 rfl dX4_order_189 ?_
        refine jj_dup2_11 C0 dX4_order_190 rfl rfl ?_
        refine jj_iald C0 (q0 := 10) (t0 := 0) (f := AL) (rfl) rfl (k := c) (by omega) (by omega) (by decide) dX4_order_191 ?_
        have hb_AL_29887 := hAL c
        refine jj_iload C0 0 rfl dX4_order_192 ?_
        refine jj_isub C0 dX4_order_194 ?_
        refine jj_iast C0 (q0 := 10) (t0 := 0) (f := AL) (rfl) rfl (k := c) (by omega) (by omega) (by decide) (ws' := wM ad cI cJ cZ 0 td pr up dn dv n K St Ex Am Ov Bi As BL (va_up AL c ((AL c) - q)) He Co Ca mo sh co sd Cz ab_10 b_10 ++ E) (rfl) dX4_order_195 ?_
        refine jj_aload_n C0 5 rfl dX4_order_196 ?_
        refine jj_iload_n C0 6 rfl dX4_order_197 ?_
        refine jj_iload_n C0 7 rfl dX4_order_198 ?_
        refine jj_iload C0 0 rfl dX4_order_199 ?_
        refine jj_aload_n C0 5 rfl dX4_order_201 ?_
        refine jj_get C0 (ci := 5) (v := .ref (ad 8)) hin_X4 (0) (rfl) rfl 13 (by decide) (hw _ hU_799) (fun _ h9 => h9) rfl dX4_order_202 ?_
        refine jj_iload_n C0 7 rfl dX4_order_205 ?_
        refine jj_iald C0 (q0 := 8) (t0 := 0) (f := As) (rfl) rfl (k := c) (by omega) (by omega) (by decide) dX4_order_206 ?_
        have hb_As_68650 := hAs c
        refine jj_callVv C0 (cc_X4_deals hEV (k := k) (c := c) (q := q) (p := (As c)) (by first | exact hk | omega) (by omega) (by omega) (by omega)) (cwV 4 hw (lw_gV hU_965 hU_967 hU_54 hU_66 hU_968) rfl rfl rfl (by decide +kernel) ⟨Nat.le_of_ble_eq_true rfl, Nat.le_of_ble_eq_true rfl⟩) (ci := 5) (q0 := 0) rfl (rfl) rfl rfl (Nat.le_of_ble_eq_true rfl) ⟨by decide, by decide⟩ rfl rfl dX4_order_207 ?_
        intro _ hu
        show jj_W _ _ _ _ _ _ _ _ _ _ _ _ _ _ _ _ _ 210 _ [] (wM ad cI cJ cZ 0 td pr up dn dv n K St Ex Am Ov Bi As BL (va_up AL c ((AL c) - q)) (f_dHe He c k q) Co (f_dCa Ca k (As c) q) mo sh co sd Cz ab_10 b_10 ++ E)
        refine jj_goto C0 (tgt := 290) dX4_order_210 (by decide) ?_
        refine jj_lve (lv' := [(10, .int (iI (if 0 < x then q else -q))), (9, .int (iI (He (7 * c + 6)))), (7, .long (lI (f_W up dn dv td n K St Ex Am He Ca sh pr))), (6, .int (iI 1)), (5, .int (iI 1)), (0, .ref (ad 0)), (1, .int (iI (k : Int))), (2, .int (iI (c : Int))), (3, .int (iI x)), (4, .int (iI y))]) (by first | (rw [hq0]; simp; done) | (rw [if_pos (show 0 < x by omega)]; done) | (rw [if_neg (show ¬ 0 < x by omega)]; done)) ?_
        refine jj_ws (ws' := wM ad cI cJ cZ 0 td pr up dn dv n K St Ex Am Ov Bi As (va_up BL c (BL c - (if 0 < x then 0 else -q))) (va_up AL c (AL c - (if 0 < x then q else 0))) (f_dHe He c k q) Co (f_dCa Ca k (if 0 < x then As c else Bi c) q) mo sh co sd Cz ab_10 b_10 ++ E) (by first | (exfalso; omega) | rfl | (rw [hq0, f_dHe_0, f_dCa_0]; simp only [Int.neg_zero, ite_self, Int.sub_zero, up_id]) | (simp only [if_pos (show 0 < x by omega), Int.sub_zero, up_id]) | (simp only [if_neg (show ¬ 0 < x by omega), Int.sub_zero, up_id]; try rw [Int.sub_neg])) ?_
        exact j290 () trivial
      intro j183
      refine jj_iload_n C0 8 rfl dX4_order_150 ?_
      refine jj_aload_n C0 5 rfl dX4_order_151 ?_
      refine jj_get C0 (ci := 5) (v := .ref (ad 10)) hin_X4 (0) (rfl) rfl 15 (by decide) (hw _ hU_801) (fun _ h9 => h9) rfl dX4_order_152 ?_
      refine jj_iload_n C0 7 rfl dX4_order_155 ?_
      refine jj_iald C0 (q0 := 10) (t0 := 0) (f := AL) (rfl) rfl (k := c) (by omega) (by omega) (by decide) dX4_order_156 ?_
      have hb_AL_29887 := hAL c
      refine jj_callSi C0 (cc_X4_least hEV (a := x) (b := (AL c)) (by omega) (by omega)) (cwS 2 hw (lw_gS hU_962 hU_963 hU_66 hU_964) rfl rfl rfl (by decide +kernel) ⟨Nat.le_of_ble_eq_true rfl, Nat.le_of_ble_eq_true rfl⟩) rfl rfl (Nat.le_of_ble_eq_true rfl) ⟨by decide, by decide⟩ rfl rfl dX4_order_157 ?_
      intro _ hu
      show jj_W _ _ _ _ _ _ _ _ _ _ _ _ _ _ _ _ _ 160 _ [.int (iI (min x (AL c)))] (wM ad cI cJ cZ 0 td pr up dn dv n K St Ex Am Ov Bi As BL AL He Co Ca mo sh co sd Cz ab_10 b_10 ++ E)
      refine jj_iload C0 1 rfl dX4_order_160 ?_
      refine jj_aload_n C0 5 rfl dX4_order_162 ?_
      refine jj_get C0 (ci := 5) (v := .int (iI mo)) hin_X4 (0) (rfl) rfl 19 (by decide) (hw _ hU_805) (fun _ h9 => h9) rfl dX4_order_163 ?_
      refine jj_iadd C0 dX4_order_166 ?_
      refine jj_callSi C0 (cc_X4_least hEV (a := (min x (AL c))) (b := ((He (7 * c + 6)) + mo)) (by omega) (by omega)) (cwS 2 hw (lw_gS hU_962 hU_963 hU_66 hU_964) rfl rfl rfl (by decide +kernel) ⟨Nat.le_of_ble_eq_true rfl, Nat.le_of_ble_eq_true rfl⟩) rfl rfl (Nat.le_of_ble_eq_true rfl) ⟨by decide, by decide⟩ rfl rfl dX4_order_167 ?_
      intro _ hu
      show jj_W _ _ _ _ _ _ _ _ _ _ _ _ _ _ _ _ _ 170 _ [.int (iI (min (min x (AL c)) ((He (7 * c + 6)) + mo)))] (wM ad cI cJ cZ 0 td pr up dn dv n K St Ex Am Ov Bi As BL AL He Co Ca mo sh co sd Cz ab_10 b_10 ++ E)
      refine jj_istore C0 (lv' := [(10, .int (iI (min (min x (AL c)) ((He (7 * c + 6)) + mo)))), (9, .int (iI (He (7 * c + 6)))), (7, .long (lI (f_W up dn dv td n K St Ex Am He Ca sh pr))), (6, .int (iI 1)), (5, .int (iI 1)), (0, .ref (ad 0)), (1, .int (iI (k : Int))), (2, .int (iI (c : Int))), (3, .int (iI x)), (4, .int (iI y))]) (by decide) rfl dX4_order_170 ?_
      refine jj_iload C0 0 rfl dX4_order_172 ?_
      refine jj_if_ge C0 (by omega) dX4_order_174 (tgt := 181) (by decide) (fun c_20 => ?_) (fun c_20 => ?_)
      · refine jj_iload C0 0 rfl dX4_order_181 ?_
        refine jj_topi (b := q) (by rw [hq]; unfold f_oq; rw [if_pos (by omega), if_pos (by omega)]; omega) ?_
        refine jj_lv [1, 2, 3, 4, 5, 6, 7, 8, 9] rfl ?_
        exact j183 () trivial
      · refine jj_iconst C0 dX4_order_177 ?_
        refine jj_goto C0 (tgt := 183) dX4_order_178 (by decide) ?_
        refine jj_topi (b := q) (by rw [hq]; unfold f_oq; rw [if_pos (by omega), if_pos (by omega)]; omega) ?_
        refine jj_lv [1, 2, 3, 4, 5, 6, 7, 8, 9] rfl ?_
        exact j183 () trivial
set_option maxHeartbeats 4000000 in
set_option maxRecDepth 100000 in
theorem cb_X4_order (hEV : jj_EV EV) {w z x y : Int} {kk : Int} (hx : iR x) (hy : iR y) (hz : iR z) (hw1 : iR w) (hn : n ≤ 12) (hOv : ∀ j, 0 ≤ Ov j ∧ Ov j ≤ 1) (hbad : (¬ (0 ≤ w ∧ w ≤ 5 ∧ 0 ≤ z ∧ z < (n : Int)) ∧ kk = 1) ∨ ((0 ≤ w ∧ w ≤ 5 ∧ 0 ≤ z ∧ z < (n : Int)) ∧ ¬ (-100 ≤ x ∧ x ≤ 100 ∧ x ≠ 0 ∧ 0 ≤ y ∧ y ≤ 20000) ∧ kk = 2) ∨ ((0 ≤ w ∧ w ≤ 5 ∧ 0 ≤ z ∧ z < (n : Int)) ∧ (-100 ≤ x ∧ x ≤ 100 ∧ x ≠ 0 ∧ 0 ≤ y ∧ y ≤ 20000) ∧ Ov z.toNat ≠ 0 ∧ kk = 3)) : jj_Mi EV (dC, dI) vwCl [(cI, .int), (cJ, .long), (cZ, .boolean), (cO, .object "java/lang/Object")] l yX4_order (Cond.code yX4_order cX4_order 11 (some .int) :: lw_U) ({ frames := 2, cells := 0, slots := 0, locals := 46 } : Room) [.ref (ad 0), .int (iI w), .int (iI z), .int (iI x), .int (iI y)] (wM ad cI cJ cZ th td pr up dn dv n K St Ex Am Ov Bi As BL AL He Co Ca mo sh co sd Cz Ab be ++ E) (S := Int) (fun u => u) (fun u => True) (fun u => wM ad cI cJ cZ kk td pr up dn dv n K St Ex Am Ov Bi As BL AL He Co Ca mo sh co sd Cz Ab be ++ E) := by
  refine jj_start (cc := cX4_order) (nL := 11) (ret := (some .int)) (lv := [(0, .ref (ad 0)), (1, .int (iI w)), (2, .int (iI z)), (3, .int (iI x)), (4, .int (iI y))]) (fun A => jj_Qi _ _ _ _ _ _ A) hEV (by decide) rfl (Nat.le_of_ble_eq_true rfl) rfl ?_
  intro p9 e9 s9 m9 a9 b9 me9 c9 A9 C1 hr hin
  have C0 : jj_C p9 s9 m9 a9 me9 c9 (dC, dI) vwCl A9 11 cX4_order "StrikehallModel" lw_U _ EV := jj_toU C1
  have hw := C0.2.2.2.2.1
  refine jj_iload_n C0 1 rfl dX4_order_0 ?_
  refine jj_i2l C0 (by omega) dX4_order_1 ?_
  refine jj_lconst C0 (z := 0) (by decide) dX4_order_2 ?_
  refine jj_ldc2 C0 (z := 5) (by decide) (hw _ hU_960) dX4_order_3 ?_
  refine jj_callSi C0 (cc_X4_in hEV (v := w) (lo := 0) (hi := 5) (by omega) (by omega) (by omega)) (cwS 3 hw (lw_gS hU_874 hU_875 hU_66 hU_876) rfl rfl rfl (by decide +kernel) ⟨Nat.le_of_ble_eq_true rfl, Nat.le_of_ble_eq_true rfl⟩) rfl rfl (Nat.le_of_ble_eq_true rfl) ⟨by decide, by decide⟩ rfl rfl dX4_order_6 ?_
  intro u_1 hu
  have hu_6 : (u_1 = 1 ∧ 0 ≤ w ∧ w ≤ 5) ∨ (u_1 = 0 ∧ (w < 0 ∨ 5 < w)) := hu
  show jj_W _ _ _ _ _ _ _ _ _ _ _ _ _ _ _ _ _ 9 _ [.int (iI u_1)] (wM ad cI cJ cZ th td pr up dn dv n K St Ex Am Ov Bi As BL AL He Co Ca mo sh co sd Cz Ab be ++ E)
  refine jj_if_eq C0 (by omega) dX4_order_9 (tgt := 24) (by decide) (fun c_2 => ?_) (fun c_2 => ?_)
  · refine jj_iconst C0 dX4_order_24 ?_
    refine jj_istore C0 (lv' := [(5, .int (iI 0)), (0, .ref (ad 0)), (1, .int (iI w)), (2, .int (iI z)), (3, .int (iI x)), (4, .int (iI y))]) (by decide) rfl dX4_order_25 ?_
    refine jj_iload_n C0 4 rfl dX4_order_27 ?_
    refine jj_i2l C0 (by omega) dX4_order_28 ?_
    refine jj_ldc2 C0 (z := -100) (by decide) (hw _ hU_961) dX4_order_29 ?_
    refine jj_ldc2 C0 (z := 100) (by decide) (hw _ hU_919) dX4_order_32 ?_
    refine jj_callSi C0 (cc_X4_in hEV (v := x) (lo := (-100)) (hi := 100) (by omega) (by omega) (by omega)) (cwS 3 hw (lw_gS hU_874 hU_875 hU_66 hU_876) rfl rfl rfl (by decide +kernel) ⟨Nat.le_of_ble_eq_true rfl, Nat.le_of_ble_eq_true rfl⟩) rfl rfl (Nat.le_of_ble_eq_true rfl) ⟨by decide, by decide⟩ rfl rfl dX4_order_35 ?_
    intro u_3 hu
    have hu_35 : (u_3 = 1 ∧ (-100) ≤ x ∧ x ≤ 100) ∨ (u_3 = 0 ∧ (x < (-100) ∨ 100 < x)) := hu
    show jj_W _ _ _ _ _ _ _ _ _ _ _ _ _ _ _ _ _ 38 _ [.int (iI u_3)] (wM ad cI cJ cZ th td pr up dn dv n K St Ex Am Ov Bi As BL AL He Co Ca mo sh co sd Cz Ab be ++ E)
    refine jj_if_eq C0 (by omega) dX4_order_38 (tgt := 62) (by decide) (fun c_4 => ?_) (fun c_4 => ?_)
    · refine jj_iconst C0 dX4_order_62 ?_
      refine jj_istore C0 (lv' := [(6, .int (iI 0)), (5, .int (iI 0)), (0, .ref (ad 0)), (1, .int (iI w)), (2, .int (iI z)), (3, .int (iI x)), (4, .int (iI y))]) (by decide) rfl dX4_order_63 ?_
      refine jj_aload_n C0 2 rfl dX4_order_65 ?_
      refine jj_iload C0 1 rfl dX4_order_66 ?_
      refine jj_if_ne C0 (by omega) dX4_order_68 (tgt := 75) (by decide) (fun c_5 => absurd c_5 (by omega)) (fun c_5 => ?_)
      refine jj_iconst C0 dX4_order_71 ?_
      refine jj_goto C0 (tgt := 98) dX4_order_72 (by decide) ?_
      refine jj_put C0 (ci := 5) (v := .int (iI 1)) (ty := .int) hin_X4 tyX4 tyX4_ok nmX4 (0) (rfl) rfl 0 (by decide) (hw _ hU_786) (fun _ h9 => h9) rfl (by decide +kernel) (rfl) rfl (Nat.le_of_ble_eq_true rfl) (ws' := wM ad cI cJ cZ 1 td pr up dn dv n K St Ex Am Ov Bi As BL AL He Co Ca mo sh co sd Cz Ab be ++ E) (rfl) dX4_order_98 ?_
      refine jj_aload_n C0 2 rfl dX4_order_101 ?_
      refine jj_get C0 (ci := 5) (v := .int (iI 1)) hin_X4 (0) (rfl) rfl 0 (by decide) (hw _ hU_786) (fun _ h9 => h9) rfl dX4_order_102 ?_
      refine jj_if_le C0 (by omega) dX4_order_105 (tgt := 110) (by decide) (fun c_6 => absurd c_6 (by omega)) (fun c_6 => ?_)
      refine jj_iconst C0 dX4_order_108 ?_
      obtain rfl : kk = 1 := by omega
      exact jj_iret C0 hr 0 (trivial) (rfl) (rfl) (by decide) (by decide) dX4_order_109
    · refine jj_iload_n C0 4 rfl dX4_order_41 ?_
      refine jj_if_eq C0 (by omega) dX4_order_42 (tgt := 62) (by decide) (fun c_7 => ?_) (fun c_7 => ?_)
      · refine jj_iconst C0 dX4_order_62 ?_
        refine jj_istore C0 (lv' := [(6, .int (iI 0)), (5, .int (iI 0)), (0, .ref (ad 0)), (1, .int (iI w)), (2, .int (iI z)), (3, .int (iI x)), (4, .int (iI y))]) (by decide) rfl dX4_order_63 ?_
        refine jj_aload_n C0 2 rfl dX4_order_65 ?_
        refine jj_iload C0 1 rfl dX4_order_66 ?_
        refine jj_if_ne C0 (by omega) dX4_order_68 (tgt := 75) (by decide) (fun c_8 => absurd c_8 (by omega)) (fun c_8 => ?_)
        refine jj_iconst C0 dX4_order_71 ?_
        refine jj_goto C0 (tgt := 98) dX4_order_72 (by decide) ?_
        refine jj_put C0 (ci := 5) (v := .int (iI 1)) (ty := .int) hin_X4 tyX4 tyX4_ok nmX4 (0) (rfl) rfl 0 (by decide) (hw _ hU_786) (fun _ h9 => h9) rfl (by decide +kernel) (rfl) rfl (Nat.le_of_ble_eq_true rfl) (ws' := wM ad cI cJ cZ 1 td pr up dn dv n K St Ex Am Ov Bi As BL AL He Co Ca mo sh co sd Cz Ab be ++ E) (rfl) dX4_order_98 ?_
        refine jj_aload_n C0 2 rfl dX4_order_101 ?_
        refine jj_get C0 (ci := 5) (v := .int (iI 1)) hin_X4 (0) (rfl) rfl 0 (by decide) (hw _ hU_786) (fun _ h9 => h9) rfl dX4_order_102 ?_
        refine jj_if_le C0 (by omega) dX4_order_105 (tgt := 110) (by decide) (fun c_9 => absurd c_9 (by omega)) (fun c_9 => ?_)
        refine jj_iconst C0 dX4_order_108 ?_
        obtain rfl : kk = 1 := by omega
        exact jj_iret C0 hr 0 (trivial) (rfl) (rfl) (by decide) (by decide) dX4_order_109
      · refine jj_iload C0 5 rfl dX4_order_45 ?_
        refine jj_i2l C0 (by omega) dX4_order_47 ?_
        refine jj_lconst C0 (z := 0) (by decide) dX4_order_48 ?_
        refine jj_ldc2 C0 (z := 20000) (by decide) (hw _ hU_905) dX4_order_49 ?_
        refine jj_callSi C0 (cc_X4_in hEV (v := y) (lo := 0) (hi := 20000) (by omega) (by omega) (by omega)) (cwS 3 hw (lw_gS hU_874 hU_875 hU_66 hU_876) rfl rfl rfl (by decide +kernel) ⟨Nat.le_of_ble_eq_true rfl, Nat.le_of_ble_eq_true rfl⟩) rfl rfl (Nat.le_of_ble_eq_true rfl) ⟨by decide, by decide⟩ rfl rfl dX4_order_52 ?_
        intro u_10 hu
        have hu_52 : (u_10 = 1 ∧ 0 ≤ y ∧ y ≤ 20000) ∨ (u_10 = 0 ∧ (y < 0 ∨ 20000 < y)) := hu
        show jj_W _ _ _ _ _ _ _ _ _ _ _ _ _ _ _ _ _ 55 _ [.int (iI u_10)] (wM ad cI cJ cZ th td pr up dn dv n K St Ex Am Ov Bi As BL AL He Co Ca mo sh co sd Cz Ab be ++ E)
        refine jj_if_eq C0 (by omega) dX4_order_55 (tgt := 62) (by decide) (fun c_11 => ?_) (fun c_11 => ?_)
        · refine jj_iconst C0 dX4_order_62 ?_
          refine jj_istore C0 (lv' := [(6, .int (iI 0)), (5, .int (iI 0)), (0, .ref (ad 0)), (1, .int (iI w)), (2, .int (iI z)), (3, .int (iI x)), (4, .int (iI y))]) (by decide) rfl dX4_order_63 ?_
          refine jj_aload_n C0 2 rfl dX4_order_65 ?_
          refine jj_iload C0 1 rfl dX4_order_66 ?_
          refine jj_if_ne C0 (by omega) dX4_order_68 (tgt := 75) (by decide) (fun c_12 => absurd c_12 (by omega)) (fun c_12 => ?_)
          refine jj_iconst C0 dX4_order_71 ?_
          refine jj_goto C0 (tgt := 98) dX4_order_72 (by decide) ?_
          refine jj_put C0 (ci := 5) (v := .int (iI 1)) (ty := .int) hin_X4 tyX4 tyX4_ok nmX4 (0) (rfl) rfl 0 (by decide) (hw _ hU_786) (fun _ h9 => h9) rfl (by decide +kernel) (rfl) rfl (Nat.le_of_ble_eq_true rfl) (ws' := wM ad cI cJ cZ 1 td pr up dn dv n K St Ex Am Ov Bi As BL AL He Co Ca mo sh co sd Cz Ab be ++ E) (rfl) dX4_order_98 ?_
          refine jj_aload_n C0 2 rfl dX4_order_101 ?_
          refine jj_get C0 (ci := 5) (v := .int (iI 1)) hin_X4 (0) (rfl) rfl 0 (by decide) (hw _ hU_786) (fun _ h9 => h9) rfl dX4_order_102 ?_
          refine jj_if_le C0 (by omega) dX4_order_105 (tgt := 110) (by decide) (fun c_13 => absurd c_13 (by omega)) (fun c_13 => ?_)
          refine jj_iconst C0 dX4_order_108 ?_
          obtain rfl : kk = 1 := by omega
          exact jj_iret C0 hr 0 (trivial) (rfl) (rfl) (by decide) (by decide) dX4_order_109
        · refine jj_iconst C0 dX4_order_58 ?_
          refine jj_goto C0 (tgt := 63) dX4_order_59 (by decide) ?_
          refine jj_istore C0 (lv' := [(6, .int (iI 1)), (5, .int (iI 0)), (0, .ref (ad 0)), (1, .int (iI w)), (2, .int (iI z)), (3, .int (iI x)), (4, .int (iI y))]) (by decide) rfl dX4_order_63 ?_
          refine jj_aload_n C0 2 rfl dX4_order_65 ?_
          refine jj_iload C0 1 rfl dX4_order_66 ?_
          refine jj_if_ne C0 (by omega) dX4_order_68 (tgt := 75) (by decide) (fun c_14 => absurd c_14 (by omega)) (fun c_14 => ?_)
          refine jj_iconst C0 dX4_order_71 ?_
          refine jj_goto C0 (tgt := 98) dX4_order_72 (by decide) ?_
          refine jj_put C0 (ci := 5) (v := .int (iI 1)) (ty := .int) hin_X4 tyX4 tyX4_ok nmX4 (0) (rfl) rfl 0 (by decide) (hw _ hU_786) (fun _ h9 => h9) rfl (by decide +kernel) (rfl) rfl (Nat.le_of_ble_eq_true rfl) (ws' := wM ad cI cJ cZ 1 td pr up dn dv n K St Ex Am Ov Bi As BL AL He Co Ca mo sh co sd Cz Ab be ++ E) (rfl) dX4_order_98 ?_
          refine jj_aload_n C0 2 rfl dX4_order_101 ?_
          refine jj_get C0 (ci := 5) (v := .int (iI 1)) hin_X4 (0) (rfl) rfl 0 (by decide) (hw _ hU_786) (fun _ h9 => h9) rfl dX4_order_102 ?_
          refine jj_if_le C0 (by omega) dX4_order_105 (tgt := 110) (by decide) (fun c_15 => absurd c_15 (by omega)) (fun c_15 => ?_)
          refine jj_iconst C0 dX4_order_108 ?_
          obtain rfl : kk = 1 := by omega
          exact jj_iret C0 hr 0 (trivial) (rfl) (rfl) (by decide) (by decide) dX4_order_109
  · refine jj_aload_n C0 0 rfl dX4_order_12 ?_
    refine jj_iload_n C0 2 rfl dX4_order_13 ?_
    refine jj_callVi C0 (cc_X4_isContract hEV (z := z) (by first | exact hz | omega) (by first | exact hn | omega)) (cwV 1 hw (lw_gV hU_920 hU_922 hU_47 hU_66 hU_923) rfl rfl rfl (by decide +kernel) ⟨Nat.le_of_ble_eq_true rfl, Nat.le_of_ble_eq_true rfl⟩) (ci := 5) (q0 := 0) rfl (rfl) rfl rfl (Nat.le_of_ble_eq_true rfl) ⟨by decide, by decide⟩ rfl rfl dX4_order_14 ?_
    intro u_16 hu
    have hu_14 : (u_16 = 1 ∧ 0 ≤ z ∧ z ≤ (n : Int) - 1) ∨ (u_16 = 0 ∧ (z < 0 ∨ (n : Int) - 1 < z)) := hu
    show jj_W _ _ _ _ _ _ _ _ _ _ _ _ _ _ _ _ _ 17 _ [.int (iI u_16)] (wM ad cI cJ cZ th td pr up dn dv n K St Ex Am Ov Bi As BL AL He Co Ca mo sh co sd Cz Ab be ++ E)
    refine jj_if_eq C0 (by omega) dX4_order_17 (tgt := 24) (by decide) (fun c_17 => ?_) (fun c_17 => ?_)
    · refine jj_iconst C0 dX4_order_24 ?_
      refine jj_istore C0 (lv' := [(5, .int (iI 0)), (0, .ref (ad 0)), (1, .int (iI w)), (2, .int (iI z)), (3, .int (iI x)), (4, .int (iI y))]) (by decide) rfl dX4_order_25 ?_
      refine jj_iload_n C0 4 rfl dX4_order_27 ?_
      refine jj_i2l C0 (by omega) dX4_order_28 ?_
      refine jj_ldc2 C0 (z := -100) (by decide) (hw _ hU_961) dX4_order_29 ?_
      refine jj_ldc2 C0 (z := 100) (by decide) (hw _ hU_919) dX4_order_32 ?_
      refine jj_callSi C0 (cc_X4_in hEV (v := x) (lo := (-100)) (hi := 100) (by omega) (by omega) (by omega)) (cwS 3 hw (lw_gS hU_874 hU_875 hU_66 hU_876) rfl rfl rfl (by decide +kernel) ⟨Nat.le_of_ble_eq_true rfl, Nat.le_of_ble_eq_true rfl⟩) rfl rfl (Nat.le_of_ble_eq_true rfl) ⟨by decide, by decide⟩ rfl rfl dX4_order_35 ?_
      intro u_18 hu
      have hu_35 : (u_18 = 1 ∧ (-100) ≤ x ∧ x ≤ 100) ∨ (u_18 = 0 ∧ (x < (-100) ∨ 100 < x)) := hu
      show jj_W _ _ _ _ _ _ _ _ _ _ _ _ _ _ _ _ _ 38 _ [.int (iI u_18)] (wM ad cI cJ cZ th td pr up dn dv n K St Ex Am Ov Bi As BL AL He Co Ca mo sh co sd Cz Ab be ++ E)
      refine jj_if_eq C0 (by omega) dX4_order_38 (tgt := 62) (by decide) (fun c_19 => ?_) (fun c_19 => ?_)
      · refine jj_iconst C0 dX4_order_62 ?_
        refine jj_istore C0 (lv' := [(6, .int (iI 0)), (5, .int (iI 0)), (0, .ref (ad 0)), (1, .int (iI w)), (2, .int (iI z)), (3, .int (iI x)), (4, .int (iI y))]) (by decide) rfl dX4_order_63 ?_
        refine jj_aload_n C0 2 rfl dX4_order_65 ?_
        refine jj_iload C0 1 rfl dX4_order_66 ?_
        refine jj_if_ne C0 (by omega) dX4_order_68 (tgt := 75) (by decide) (fun c_20 => absurd c_20 (by omega)) (fun c_20 => ?_)
        refine jj_iconst C0 dX4_order_71 ?_
        refine jj_goto C0 (tgt := 98) dX4_order_72 (by decide) ?_
        refine jj_put C0 (ci := 5) (v := .int (iI 1)) (ty := .int) hin_X4 tyX4 tyX4_ok nmX4 (0) (rfl) rfl 0 (by decide) (hw _ hU_786) (fun _ h9 => h9) rfl (by decide +kernel) (rfl) rfl (Nat.le_of_ble_eq_true rfl) (ws' := wM ad cI cJ cZ 1 td pr up dn dv n K St Ex Am Ov Bi As BL AL He Co Ca mo sh co sd Cz Ab be ++ E) (rfl) dX4_order_98 ?_
        refine jj_aload_n C0 2 rfl dX4_order_101 ?_
        refine jj_get C0 (ci := 5) (v := .int (iI 1)) hin_X4 (0) (rfl) rfl 0 (by decide) (hw _ hU_786) (fun _ h9 => h9) rfl dX4_order_102 ?_
        refine jj_if_le C0 (by omega) dX4_order_105 (tgt := 110) (by decide) (fun c_21 => absurd c_21 (by omega)) (fun c_21 => ?_)
        refine jj_iconst C0 dX4_order_108 ?_
        obtain rfl : kk = 1 := by omega
        exact jj_iret C0 hr 0 (trivial) (rfl) (rfl) (by decide) (by decide) dX4_order_109
      · refine jj_iload_n C0 4 rfl dX4_order_41 ?_
        refine jj_if_eq C0 (by omega) dX4_order_42 (tgt := 62) (by decide) (fun c_22 => ?_) (fun c_22 => ?_)
        · refine jj_iconst C0 dX4_order_62 ?_
          refine jj_istore C0 (lv' := [(6, .int (iI 0)), (5, .int (iI 0)), (0, .ref (ad 0)), (1, .int (iI w)), (2, .int (iI z)), (3, .int (iI x)), (4, .int (iI y))]) (by decide) rfl dX4_order_63 ?_
          refine jj_aload_n C0 2 rfl dX4_order_65 ?_
          refine jj_iload C0 1 rfl dX4_order_66 ?_
          refine jj_if_ne C0 (by omega) dX4_order_68 (tgt := 75) (by decide) (fun c_23 => absurd c_23 (by omega)) (fun c_23 => ?_)
          refine jj_iconst C0 dX4_order_71 ?_
          refine jj_goto C0 (tgt := 98) dX4_order_72 (by decide) ?_
          refine jj_put C0 (ci := 5) (v := .int (iI 1)) (ty := .int) hin_X4 tyX4 tyX4_ok nmX4 (0) (rfl) rfl 0 (by decide) (hw _ hU_786) (fun _ h9 => h9) rfl (by decide +kernel) (rfl) rfl (Nat.le_of_ble_eq_true rfl) (ws' := wM ad cI cJ cZ 1 td pr up dn dv n K St Ex Am Ov Bi As BL AL He Co Ca mo sh co sd Cz Ab be ++ E) (rfl) dX4_order_98 ?_
          refine jj_aload_n C0 2 rfl dX4_order_101 ?_
          refine jj_get C0 (ci := 5) (v := .int (iI 1)) hin_X4 (0) (rfl) rfl 0 (by decide) (hw _ hU_786) (fun _ h9 => h9) rfl dX4_order_102 ?_
          refine jj_if_le C0 (by omega) dX4_order_105 (tgt := 110) (by decide) (fun c_24 => absurd c_24 (by omega)) (fun c_24 => ?_)
          refine jj_iconst C0 dX4_order_108 ?_
          obtain rfl : kk = 1 := by omega
          exact jj_iret C0 hr 0 (trivial) (rfl) (rfl) (by decide) (by decide) dX4_order_109
        · refine jj_iload C0 5 rfl dX4_order_45 ?_
          refine jj_i2l C0 (by omega) dX4_order_47 ?_
          refine jj_lconst C0 (z := 0) (by decide) dX4_order_48 ?_
          refine jj_ldc2 C0 (z := 20000) (by decide) (hw _ hU_905) dX4_order_49 ?_
          refine jj_callSi C0 (cc_X4_in hEV (v := y) (lo := 0) (hi := 20000) (by omega) (by omega) (by omega)) (cwS 3 hw (lw_gS hU_874 hU_875 hU_66 hU_876) rfl rfl rfl (by decide +kernel) ⟨Nat.le_of_ble_eq_true rfl, Nat.le_of_ble_eq_true rfl⟩) rfl rfl (Nat.le_of_ble_eq_true rfl) ⟨by decide, by decide⟩ rfl rfl dX4_order_52 ?_
          intro u_25 hu
          have hu_52 : (u_25 = 1 ∧ 0 ≤ y ∧ y ≤ 20000) ∨ (u_25 = 0 ∧ (y < 0 ∨ 20000 < y)) := hu
          show jj_W _ _ _ _ _ _ _ _ _ _ _ _ _ _ _ _ _ 55 _ [.int (iI u_25)] (wM ad cI cJ cZ th td pr up dn dv n K St Ex Am Ov Bi As BL AL He Co Ca mo sh co sd Cz Ab be ++ E)
          refine jj_if_eq C0 (by omega) dX4_order_55 (tgt := 62) (by decide) (fun c_26 => ?_) (fun c_26 => ?_)
          · refine jj_iconst C0 dX4_order_62 ?_
            refine jj_istore C0 (lv' := [(6, .int (iI 0)), (5, .int (iI 0)), (0, .ref (ad 0)), (1, .int (iI w)), (2, .int (iI z)), (3, .int (iI x)), (4, .int (iI y))]) (by decide) rfl dX4_order_63 ?_
            refine jj_aload_n C0 2 rfl dX4_order_65 ?_
            refine jj_iload C0 1 rfl dX4_order_66 ?_
            refine jj_if_ne C0 (by omega) dX4_order_68 (tgt := 75) (by decide) (fun c_27 => absurd c_27 (by omega)) (fun c_27 => ?_)
            refine jj_iconst C0 dX4_order_71 ?_
            refine jj_goto C0 (tgt := 98) dX4_order_72 (by decide) ?_
            refine jj_put C0 (ci := 5) (v := .int (iI 1)) (ty := .int) hin_X4 tyX4 tyX4_ok nmX4 (0) (rfl) rfl 0 (by decide) (hw _ hU_786) (fun _ h9 => h9) rfl (by decide +kernel) (rfl) rfl (Nat.le_of_ble_eq_true rfl) (ws' := wM ad cI cJ cZ 1 td pr up dn dv n K St Ex Am Ov Bi As BL AL He Co Ca mo sh co sd Cz Ab be ++ E) (rfl) dX4_order_98 ?_
            refine jj_aload_n C0 2 rfl dX4_order_101 ?_
            refine jj_get C0 (ci := 5) (v := .int (iI 1)) hin_X4 (0) (rfl) rfl 0 (by decide) (hw _ hU_786) (fun _ h9 => h9) rfl dX4_order_102 ?_
            refine jj_if_le C0 (by omega) dX4_order_105 (tgt := 110) (by decide) (fun c_28 => absurd c_28 (by omega)) (fun c_28 => ?_)
            refine jj_iconst C0 dX4_order_108 ?_
            obtain rfl : kk = 1 := by omega
            exact jj_iret C0 hr 0 (trivial) (rfl) (rfl) (by decide) (by decide) dX4_order_109
          · refine jj_iconst C0 dX4_order_58 ?_
            refine jj_goto C0 (tgt := 63) dX4_order_59 (by decide) ?_
            refine jj_istore C0 (lv' := [(6, .int (iI 1)), (5, .int (iI 0)), (0, .ref (ad 0)), (1, .int (iI w)), (2, .int (iI z)), (3, .int (iI x)), (4, .int (iI y))]) (by decide) rfl dX4_order_63 ?_
            refine jj_aload_n C0 2 rfl dX4_order_65 ?_
            refine jj_iload C0 1 rfl dX4_order_66 ?_
            refine jj_if_ne C0 (by omega) dX4_order_68 (tgt := 75) (by decide) (fun c_29 => absurd c_29 (by omega)) (fun c_29 => ?_)
            refine jj_iconst C0 dX4_order_71 ?_
            refine jj_goto C0 (tgt := 98) dX4_order_72 (by decide) ?_
            refine jj_put C0 (ci := 5) (v := .int (iI 1)) (ty := .int) hin_X4 tyX4 tyX4_ok nmX4 (0) (rfl) rfl 0 (by decide) (hw _ hU_786) (fun _ h9 => h9) rfl (by decide +kernel) (rfl) rfl (Nat.le_of_ble_eq_true rfl) (ws' := wM ad cI cJ cZ 1 td pr up dn dv n K St Ex Am Ov Bi As BL AL He Co Ca mo sh co sd Cz Ab be ++ E) (rfl) dX4_order_98 ?_
            refine jj_aload_n C0 2 rfl dX4_order_101 ?_
            refine jj_get C0 (ci := 5) (v := .int (iI 1)) hin_X4 (0) (rfl) rfl 0 (by decide) (hw _ hU_786) (fun _ h9 => h9) rfl dX4_order_102 ?_
            refine jj_if_le C0 (by omega) dX4_order_105 (tgt := 110) (by decide) (fun c_30 => absurd c_30 (by omega)) (fun c_30 => ?_)
            refine jj_iconst C0 dX4_order_108 ?_
            obtain rfl : kk = 1 := by omega
            exact jj_iret C0 hr 0 (trivial) (rfl) (rfl) (by decide) (by decide) dX4_order_109
    · refine jj_iconst C0 dX4_order_20 ?_
      refine jj_goto C0 (tgt := 25) dX4_order_21 (by decide) ?_
      refine jj_istore C0 (lv' := [(5, .int (iI 1)), (0, .ref (ad 0)), (1, .int (iI w)), (2, .int (iI z)), (3, .int (iI x)), (4, .int (iI y))]) (by decide) rfl dX4_order_25 ?_
      refine jj_iload_n C0 4 rfl dX4_order_27 ?_
      refine jj_i2l C0 (by omega) dX4_order_28 ?_
      refine jj_ldc2 C0 (z := -100) (by decide) (hw _ hU_961) dX4_order_29 ?_
      refine jj_ldc2 C0 (z := 100) (by decide) (hw _ hU_919) dX4_order_32 ?_
      refine jj_callSi C0 (cc_X4_in hEV (v := x) (lo := (-100)) (hi := 100) (by omega) (by omega) (by omega)) (cwS 3 hw (lw_gS hU_874 hU_875 hU_66 hU_876) rfl rfl rfl (by decide +kernel) ⟨Nat.le_of_ble_eq_true rfl, Nat.le_of_ble_eq_true rfl⟩) rfl rfl (Nat.le_of_ble_eq_true rfl) ⟨by decide, by decide⟩ rfl rfl dX4_order_35 ?_
      intro u_31 hu
      have hu_35 : (u_31 = 1 ∧ (-100) ≤ x ∧ x ≤ 100) ∨ (u_31 = 0 ∧ (x < (-100) ∨ 100 < x)) := hu
      show jj_W _ _ _ _ _ _ _ _ _ _ _ _ _ _ _ _ _ 38 _ [.int (iI u_31)] (wM ad cI cJ cZ th td pr up dn dv n K St Ex Am Ov Bi As BL AL He Co Ca mo sh co sd Cz Ab be ++ E)
      refine jj_if_eq C0 (by omega) dX4_order_38 (tgt := 62) (by decide) (fun c_32 => ?_) (fun c_32 => ?_)
      · refine jj_iconst C0 dX4_order_62 ?_
        refine jj_istore C0 (lv' := [(6, .int (iI 0)), (5, .int (iI 1)), (0, .ref (ad 0)), (1, .int (iI w)), (2, .int (iI z)), (3, .int (iI x)), (4, .int (iI y))]) (by decide) rfl dX4_order_63 ?_
        refine jj_aload_n C0 2 rfl dX4_order_65 ?_
        refine jj_iload C0 1 rfl dX4_order_66 ?_
        refine jj_if_ne C0 (by omega) dX4_order_68 (tgt := 75) (by decide) (fun c_33 => ?_) (fun c_33 => absurd c_33 (by omega))
        refine jj_iload C0 0 rfl dX4_order_75 ?_
        refine jj_if_ne C0 (by omega) dX4_order_77 (tgt := 84) (by decide) (fun c_34 => absurd c_34 (by omega)) (fun c_34 => ?_)
        refine jj_iconst C0 dX4_order_80 ?_
        refine jj_goto C0 (tgt := 98) dX4_order_81 (by decide) ?_
        refine jj_put C0 (ci := 5) (v := .int (iI 2)) (ty := .int) hin_X4 tyX4 tyX4_ok nmX4 (0) (rfl) rfl 0 (by decide) (hw _ hU_786) (fun _ h9 => h9) rfl (by decide +kernel) (rfl) rfl (Nat.le_of_ble_eq_true rfl) (ws' := wM ad cI cJ cZ 2 td pr up dn dv n K St Ex Am Ov Bi As BL AL He Co Ca mo sh co sd Cz Ab be ++ E) (rfl) dX4_order_98 ?_
        refine jj_aload_n C0 2 rfl dX4_order_101 ?_
        refine jj_get C0 (ci := 5) (v := .int (iI 2)) hin_X4 (0) (rfl) rfl 0 (by decide) (hw _ hU_786) (fun _ h9 => h9) rfl dX4_order_102 ?_
        refine jj_if_le C0 (by omega) dX4_order_105 (tgt := 110) (by decide) (fun c_35 => absurd c_35 (by omega)) (fun c_35 => ?_)
        refine jj_iconst C0 dX4_order_108 ?_
        obtain rfl : kk = 2 := by omega
        exact jj_iret C0 hr 0 (trivial) (rfl) (rfl) (by decide) (by decide) dX4_order_109
      · refine jj_iload_n C0 4 rfl dX4_order_41 ?_
        refine jj_if_eq C0 (by omega) dX4_order_42 (tgt := 62) (by decide) (fun c_36 => ?_) (fun c_36 => ?_)
        · refine jj_iconst C0 dX4_order_62 ?_
          refine jj_istore C0 (lv' := [(6, .int (iI 0)), (5, .int (iI 1)), (0, .ref (ad 0)), (1, .int (iI w)), (2, .int (iI z)), (3, .int (iI x)), (4, .int (iI y))]) (by decide) rfl dX4_order_63 ?_
          refine jj_aload_n C0 2 rfl dX4_order_65 ?_
          refine jj_iload C0 1 rfl dX4_order_66 ?_
          refine jj_if_ne C0 (by omega) dX4_order_68 (tgt := 75) (by decide) (fun c_37 => ?_) (fun c_37 => absurd c_37 (by omega))
          refine jj_iload C0 0 rfl dX4_order_75 ?_
          refine jj_if_ne C0 (by omega) dX4_order_77 (tgt := 84) (by decide) (fun c_38 => absurd c_38 (by omega)) (fun c_38 => ?_)
          refine jj_iconst C0 dX4_order_80 ?_
          refine jj_goto C0 (tgt := 98) dX4_order_81 (by decide) ?_
          refine jj_put C0 (ci := 5) (v := .int (iI 2)) (ty := .int) hin_X4 tyX4 tyX4_ok nmX4 (0) (rfl) rfl 0 (by decide) (hw _ hU_786) (fun _ h9 => h9) rfl (by decide +kernel) (rfl) rfl (Nat.le_of_ble_eq_true rfl) (ws' := wM ad cI cJ cZ 2 td pr up dn dv n K St Ex Am Ov Bi As BL AL He Co Ca mo sh co sd Cz Ab be ++ E) (rfl) dX4_order_98 ?_
          refine jj_aload_n C0 2 rfl dX4_order_101 ?_
          refine jj_get C0 (ci := 5) (v := .int (iI 2)) hin_X4 (0) (rfl) rfl 0 (by decide) (hw _ hU_786) (fun _ h9 => h9) rfl dX4_order_102 ?_
          refine jj_if_le C0 (by omega) dX4_order_105 (tgt := 110) (by decide) (fun c_39 => absurd c_39 (by omega)) (fun c_39 => ?_)
          refine jj_iconst C0 dX4_order_108 ?_
          obtain rfl : kk = 2 := by omega
          exact jj_iret C0 hr 0 (trivial) (rfl) (rfl) (by decide) (by decide) dX4_order_109
        · refine jj_iload C0 5 rfl dX4_order_45 ?_
          refine jj_i2l C0 (by omega) dX4_order_47 ?_
          refine jj_lconst C0 (z := 0) (by decide) dX4_order_48 ?_
          refine jj_ldc2 C0 (z := 20000) (by decide) (hw _ hU_905) dX4_order_49 ?_
          refine jj_callSi C0 (cc_X4_in hEV (v := y) (lo := 0) (hi := 20000) (by omega) (by omega) (by omega)) (cwS 3 hw (lw_gS hU_874 hU_875 hU_66 hU_876) rfl rfl rfl (by decide +kernel) ⟨Nat.le_of_ble_eq_true rfl, Nat.le_of_ble_eq_true rfl⟩) rfl rfl (Nat.le_of_ble_eq_true rfl) ⟨by decide, by decide⟩ rfl rfl dX4_order_52 ?_
          intro u_40 hu
          have hu_52 : (u_40 = 1 ∧ 0 ≤ y ∧ y ≤ 20000) ∨ (u_40 = 0 ∧ (y < 0 ∨ 20000 < y)) := hu
          show jj_W _ _ _ _ _ _ _ _ _ _ _ _ _ _ _ _ _ 55 _ [.int (iI u_40)] (wM ad cI cJ cZ th td pr up dn dv n K St Ex Am Ov Bi As BL AL He Co Ca mo sh co sd Cz Ab be ++ E)
          refine jj_if_eq C0 (by omega) dX4_order_55 (tgt := 62) (by decide) (fun c_41 => ?_) (fun c_41 => ?_)
          · refine jj_iconst C0 dX4_order_62 ?_
            refine jj_istore C0 (lv' := [(6, .int (iI 0)), (5, .int (iI 1)), (0, .ref (ad 0)), (1, .int (iI w)), (2, .int (iI z)), (3, .int (iI x)), (4, .int (iI y))]) (by decide) rfl dX4_order_63 ?_
            refine jj_aload_n C0 2 rfl dX4_order_65 ?_
            refine jj_iload C0 1 rfl dX4_order_66 ?_
            refine jj_if_ne C0 (by omega) dX4_order_68 (tgt := 75) (by decide) (fun c_42 => ?_) (fun c_42 => absurd c_42 (by omega))
            refine jj_iload C0 0 rfl dX4_order_75 ?_
            refine jj_if_ne C0 (by omega) dX4_order_77 (tgt := 84) (by decide) (fun c_43 => absurd c_43 (by omega)) (fun c_43 => ?_)
            refine jj_iconst C0 dX4_order_80 ?_
            refine jj_goto C0 (tgt := 98) dX4_order_81 (by decide) ?_
            refine jj_put C0 (ci := 5) (v := .int (iI 2)) (ty := .int) hin_X4 tyX4 tyX4_ok nmX4 (0) (rfl) rfl 0 (by decide) (hw _ hU_786) (fun _ h9 => h9) rfl (by decide +kernel) (rfl) rfl (Nat.le_of_ble_eq_true rfl) (ws' := wM ad cI cJ cZ 2 td pr up dn dv n K St Ex Am Ov Bi As BL AL He Co Ca mo sh co sd Cz Ab be ++ E) (rfl) dX4_order_98 ?_
            refine jj_aload_n C0 2 rfl dX4_order_101 ?_
            refine jj_get C0 (ci := 5) (v := .int (iI 2)) hin_X4 (0) (rfl) rfl 0 (by decide) (hw _ hU_786) (fun _ h9 => h9) rfl dX4_order_102 ?_
            refine jj_if_le C0 (by omega) dX4_order_105 (tgt := 110) (by decide) (fun c_44 => absurd c_44 (by omega)) (fun c_44 => ?_)
            refine jj_iconst C0 dX4_order_108 ?_
            obtain rfl : kk = 2 := by omega
            exact jj_iret C0 hr 0 (trivial) (rfl) (rfl) (by decide) (by decide) dX4_order_109
          · refine jj_iconst C0 dX4_order_58 ?_
            refine jj_goto C0 (tgt := 63) dX4_order_59 (by decide) ?_
            refine jj_istore C0 (lv' := [(6, .int (iI 1)), (5, .int (iI 1)), (0, .ref (ad 0)), (1, .int (iI w)), (2, .int (iI z)), (3, .int (iI x)), (4, .int (iI y))]) (by decide) rfl dX4_order_63 ?_
            refine jj_aload_n C0 2 rfl dX4_order_65 ?_
            refine jj_iload C0 1 rfl dX4_order_66 ?_
            refine jj_if_ne C0 (by omega) dX4_order_68 (tgt := 75) (by decide) (fun c_45 => ?_) (fun c_45 => absurd c_45 (by omega))
            refine jj_iload C0 0 rfl dX4_order_75 ?_
            refine jj_if_ne C0 (by omega) dX4_order_77 (tgt := 84) (by decide) (fun c_46 => ?_) (fun c_46 => absurd c_46 (by omega))
            refine jj_aload_n C0 2 rfl dX4_order_84 ?_
            refine jj_get C0 (ci := 5) (v := .ref (ad 6)) hin_X4 (0) (rfl) rfl 11 (by decide) (hw _ hU_797) (fun _ h9 => h9) rfl dX4_order_85 ?_
            refine jj_iload_n C0 4 rfl dX4_order_88 ?_
            refine jj_zald C0 (q0 := 6) (t0 := 2) (f := Ov) (rfl) rfl (k := z.toNat) (by omega) (by omega) (by decide) dX4_order_89 ?_
            have hb_Ov_901 := hOv z.toNat
            refine jj_if_eq C0 (by omega) dX4_order_90 (tgt := 97) (by decide) (fun c_47 => ?_) (fun c_47 => ?_)
            · refine jj_iconst C0 dX4_order_97 ?_
              refine jj_put C0 (ci := 5) (v := .int (iI 0)) (ty := .int) hin_X4 tyX4 tyX4_ok nmX4 (0) (rfl) rfl 0 (by decide) (hw _ hU_786) (fun _ h9 => h9) rfl (by decide +kernel) (rfl) rfl (Nat.le_of_ble_eq_true rfl) (ws' := wM ad cI cJ cZ 0 td pr up dn dv n K St Ex Am Ov Bi As BL AL He Co Ca mo sh co sd Cz Ab be ++ E) (rfl) dX4_order_98 ?_
              refine jj_aload_n C0 2 rfl dX4_order_101 ?_
              refine jj_get C0 (ci := 5) (v := .int (iI 0)) hin_X4 (0) (rfl) rfl 0 (by decide) (hw _ hU_786) (fun _ h9 => h9) rfl dX4_order_102 ?_
              refine jj_if_le C0 (by omega) dX4_order_105 (tgt := 110) (by decide) (fun c_48 => ?_) (fun c_48 => absurd c_48 (by omega))
              exfalso
              omega
            · refine jj_iconst C0 dX4_order_93 ?_
              refine jj_goto C0 (tgt := 98) dX4_order_94 (by decide) ?_
              refine jj_put C0 (ci := 5) (v := .int (iI 3)) (ty := .int) hin_X4 tyX4 tyX4_ok nmX4 (0) (rfl) rfl 0 (by decide) (hw _ hU_786) (fun _ h9 => h9) rfl (by decide +kernel) (rfl) rfl (Nat.le_of_ble_eq_true rfl) (ws' := wM ad cI cJ cZ 3 td pr up dn dv n K St Ex Am Ov Bi As BL AL He Co Ca mo sh co sd Cz Ab be ++ E) (rfl) dX4_order_98 ?_
              refine jj_aload_n C0 2 rfl dX4_order_101 ?_
              refine jj_get C0 (ci := 5) (v := .int (iI 3)) hin_X4 (0) (rfl) rfl 0 (by decide) (hw _ hU_786) (fun _ h9 => h9) rfl dX4_order_102 ?_
              refine jj_if_le C0 (by omega) dX4_order_105 (tgt := 110) (by decide) (fun c_49 => absurd c_49 (by omega)) (fun c_49 => ?_)
              refine jj_iconst C0 dX4_order_108 ?_
              obtain rfl : kk = 3 := by omega
              exact jj_iret C0 hr 0 (trivial) (rfl) (rfl) (by decide) (by decide) dX4_order_109
end MM5
