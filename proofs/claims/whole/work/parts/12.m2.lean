section MM2
variable {EV : (Nat → Prop) → State → Heap → Prop} {l : Launch} {dC : Nat → ClassId} {dI : Nat → Nat → Nat} {cI cJ cZ cO : ClassId} {E : va_W} {ad : Nat → Nat} {ws : va_W} {th : Int} {td : Nat} {pr up dn : Int} {dv : Nat → Int} {n : Nat} {K St Ex Am Ov Bi As BL AL He Co Ca : Nat → Int} {mo sh co sd : Int} {Cz Ab : Nat → Int} {be : Int}
set_option maxHeartbeats 4000000 in
set_option maxRecDepth 100000 in
theorem cc_X4_isContract1 (hEV : jj_EV EV) {c : Nat} (hcn : c < n) (hn : n ≤ 12) : jj_Mi EV (dC, dI) vwCl [(cI, .int), (cJ, .long), (cZ, .boolean), (cO, .object "java/lang/Object")] l yX4_isContract (Cond.code yX4_isContract cX4_isContract 2 (some .boolean) :: lw_U) ({ frames := 1, cells := 0, slots := 0, locals := 25 } : Room) [.ref (ad 0), .int (iI (c : Int))] (wM ad cI cJ cZ th td pr up dn dv n K St Ex Am Ov Bi As BL AL He Co Ca mo sh co sd Cz Ab be ++ E) (S := Unit) (fun _ => 1) (fun _ => True) (fun _ => wM ad cI cJ cZ th td pr up dn dv n K St Ex Am Ov Bi As BL AL He Co Ca mo sh co sd Cz Ab be ++ E) := by
  refine jj_start (cc := cX4_isContract) (nL := 2) (ret := (some .boolean)) (lv := [(0, .ref (ad 0)), (1, .int (iI (c : Int)))]) (fun A => jj_Qi _ _ _ _ _ _ A) hEV (by decide) rfl (Nat.le_of_ble_eq_true rfl) rfl ?_
  intro p9 e9 s9 m9 a9 b9 me9 c9 A9 C1 hr hin
  have C0 : jj_C p9 s9 m9 a9 me9 c9 (dC, dI) vwCl A9 2 cX4_isContract "StrikehallModel" lw_U _ EV := jj_toU C1
  have hw := C0.2.2.2.2.1
  refine jj_iload_n C0 1 rfl dX4_isContract_0 ?_
  refine jj_i2l C0 (by omega) dX4_isContract_1 ?_
  refine jj_lconst C0 (z := 0) (by decide) dX4_isContract_2 ?_
  refine jj_aload_n C0 0 rfl dX4_isContract_3 ?_
  refine jj_get C0 (ci := 5) (v := .int (iI (n : Int))) hin_X4 (0) (rfl) rfl 6 (by decide) (hw _ hU_792) (fun _ h9 => h9) rfl dX4_isContract_4 ?_
  refine jj_iconst C0 dX4_isContract_7 ?_
  refine jj_isub C0 dX4_isContract_8 ?_
  refine jj_i2l C0 (by omega) dX4_isContract_9 ?_
  refine jj_callSi C0 (cc_X4_in1 hEV (v := (c : Int)) (lo := 0) (hi := ((n : Int) - 1)) (by omega) (by omega) (by omega) (by omega)) (cwS 3 hw (lw_gS hU_874 hU_875 hU_66 hU_876) rfl rfl rfl (by decide +kernel) ⟨Nat.le_of_ble_eq_true rfl, Nat.le_of_ble_eq_true rfl⟩) rfl rfl (Nat.le_of_ble_eq_true rfl) ⟨by decide, by decide⟩ rfl rfl dX4_isContract_10 ?_
  intro _ hu
  show jj_W _ _ _ _ _ _ _ _ _ _ _ _ _ _ _ _ _ 13 _ [.int (iI 1)] (wM ad cI cJ cZ th td pr up dn dv n K St Ex Am Ov Bi As BL AL He Co Ca mo sh co sd Cz Ab be ++ E)
  exact jj_zret C0 hr () (trivial) (rfl) (by omega) (rfl) (by decide) (by decide) dX4_isContract_13
set_option maxHeartbeats 4000000 in
set_option maxRecDepth 100000 in
theorem cc_X4_isHolder1 (hEV : jj_EV EV) {z : Int} (hz : -1 ≤ z ∧ z ≤ 5) : jj_Mi EV (dC, dI) vwCl [(cI, .int), (cJ, .long), (cZ, .boolean), (cO, .object "java/lang/Object")] l yX4_isHolder (Cond.code yX4_isHolder cX4_isHolder 1 (some .boolean) :: lw_U) ({ frames := 1, cells := 0, slots := 0, locals := 25 } : Room) [.int (iI z)] (ws) (S := Unit) (fun _ => 1) (fun _ => True) (fun _ => ws) := by
  refine jj_start (cc := cX4_isHolder) (nL := 1) (ret := (some .boolean)) (lv := [(0, .int (iI z))]) (fun A => jj_Qi _ _ _ _ _ _ A) hEV (by decide) rfl (Nat.le_of_ble_eq_true rfl) rfl ?_
  intro p9 e9 s9 m9 a9 b9 me9 c9 A9 C1 hr hin
  have C0 : jj_C p9 s9 m9 a9 me9 c9 (dC, dI) vwCl A9 1 cX4_isHolder "StrikehallModel" lw_U _ EV := jj_toU C1
  have hw := C0.2.2.2.2.1
  refine jj_iload_n C0 0 rfl dX4_isHolder_0 ?_
  refine jj_i2l C0 (by omega) dX4_isHolder_1 ?_
  refine jj_ldc2 C0 (z := -1) (by decide) (hw _ hU_988) dX4_isHolder_2 ?_
  refine jj_ldc2 C0 (z := 5) (by decide) (hw _ hU_960) dX4_isHolder_5 ?_
  refine jj_callSi C0 (cc_X4_in1 hEV (v := z) (lo := (-1)) (hi := 5) (by omega) (by omega) (by omega) (by omega)) (cwS 3 hw (lw_gS hU_874 hU_875 hU_66 hU_876) rfl rfl rfl (by decide +kernel) ⟨Nat.le_of_ble_eq_true rfl, Nat.le_of_ble_eq_true rfl⟩) rfl rfl (Nat.le_of_ble_eq_true rfl) ⟨by decide, by decide⟩ rfl rfl dX4_isHolder_8 ?_
  intro _ hu
  show jj_W _ _ _ _ _ _ _ _ _ _ _ _ _ _ _ _ _ 11 _ [.int (iI 1)] (ws)
  exact jj_zret C0 hr () (trivial) (rfl) (by omega) (rfl) (by decide) (by decide) dX4_isHolder_11
set_option maxHeartbeats 4000000 in
set_option maxRecDepth 100000 in
theorem cc_X4_thrown (hEV : jj_EV EV)   : jj_Mi EV (dC, dI) vwCl [(cI, .int), (cJ, .long), (cZ, .boolean), (cO, .object "java/lang/Object")] l yX4_thrown (Cond.code yX4_thrown cX4_thrown 1 (some .int) :: lw_U) ({ frames := 0, cells := 0, slots := 0, locals := 0 } : Room) [.ref (ad 0)] (wM ad cI cJ cZ th td pr up dn dv n K St Ex Am Ov Bi As BL AL He Co Ca mo sh co sd Cz Ab be ++ E) (S := Unit) (fun _ => th) (fun _ => True) (fun _ => wM ad cI cJ cZ th td pr up dn dv n K St Ex Am Ov Bi As BL AL He Co Ca mo sh co sd Cz Ab be ++ E) := by
  refine jj_start (cc := cX4_thrown) (nL := 1) (ret := (some .int)) (lv := [(0, .ref (ad 0))]) (fun A => jj_Qi _ _ _ _ _ _ A) hEV (by decide) rfl (Nat.le_of_ble_eq_true rfl) rfl ?_
  intro p9 e9 s9 m9 a9 b9 me9 c9 A9 C1 hr hin
  have C0 : jj_C p9 s9 m9 a9 me9 c9 (dC, dI) vwCl A9 1 cX4_thrown "StrikehallModel" lw_U _ EV := jj_toU C1
  have hw := C0.2.2.2.2.1
  refine jj_aload_n C0 0 rfl dX4_thrown_0 ?_
  refine jj_get C0 (ci := 5) (v := .int (iI th)) hin_X4 (0) (rfl) rfl 0 (by decide) (hw _ hU_786) (fun _ h9 => h9) rfl dX4_thrown_1 ?_
  exact jj_iret C0 hr () (trivial) (rfl) (rfl) (by decide) (by decide) dX4_thrown_4
set_option maxHeartbeats 4000000 in
set_option maxRecDepth 100000 in
theorem cc_X4_steps (hEV : jj_EV EV) {x y : Int} (hx : 1 ≤ x ∧ x ≤ 10) (hy : 1 ≤ y ∧ y ≤ 10) (hovs : ∀ c, c < n → (Ov c = 1 ∧ Ex c < (td : Int)) ∨ (Ov c = 0 ∧ (td : Int) ≤ Ex c)) (hexs : ∀ c, c < n → Ex c ≤ (td : Int) + 10 ∧ Ex c ≤ 200) (hn : n ≤ 12) (htd : td ≤ 200) (hpr : 0 ≤ pr ∧ pr ≤ 20000) (hup : 1 ≤ up ∧ up ≤ 10) (hdn : 1 ≤ dn ∧ dn ≤ 10) (hdv : ∀ j, 0 ≤ dv j ∧ dv j ≤ 1000) (hK : ∀ j, 0 ≤ K j ∧ K j ≤ 1) (hSt : ∀ j, 0 ≤ St j ∧ St j ≤ 20000) (hEx : ∀ j, 0 ≤ Ex j ∧ Ex j ≤ 200) (hAm : ∀ j, 0 ≤ Am j ∧ Am j ≤ 1) (hOv : ∀ j, 0 ≤ Ov j ∧ Ov j ≤ 1) (hHe : ∀ j, -1000000 ≤ He j ∧ He j ≤ 1000000) (hsh : -100000 ≤ sh ∧ sh ≤ 100000) : jj_Mv EV (dC, dI) vwCl [(cI, .int), (cJ, .long), (cZ, .boolean), (cO, .object "java/lang/Object")] l yX4_steps (Cond.code yX4_steps cX4_steps 5 none :: lw_U) ({ frames := 4, cells := 0, slots := 0, locals := 102 } : Room) [.ref (ad 0), .int (iI x), .int (iI y)] (wM ad cI cJ cZ th td pr up dn dv n K St Ex Am Ov Bi As BL AL He Co Ca mo sh co sd Cz Ab be ++ E) (S := (Nat → Int) × Int)  (fun ⟨ab, b⟩ => True) (fun ⟨ab, b⟩ => wM ad cI cJ cZ 0 td pr x y dv n K St Ex Am Ov Bi As BL AL He Co Ca mo sh co sd (va_up Cz 5 ((Cz 5) + ((f_W x y dv td n K St Ex Am He Ca sh pr) - (f_W up dn dv td n K St Ex Am He Ca sh pr)))) ab b ++ E) := by
  refine jj_start (cc := cX4_steps) (nL := 5) (ret := none) (lv := [(0, .ref (ad 0)), (1, .int (iI x)), (2, .int (iI y))]) (fun A => jj_Qv _ _ _ _ _ A) hEV (by decide) rfl (Nat.le_of_ble_eq_true rfl) rfl ?_
  intro p9 e9 s9 m9 a9 b9 me9 c9 A9 C1 hr hin
  have C0 : jj_C p9 s9 m9 a9 me9 c9 (dC, dI) vwCl A9 5 cX4_steps "StrikehallModel" lw_U _ EV := jj_toU C1
  have hw := C0.2.2.2.2.1
  refine jj_aload_n C0 0 rfl dX4_steps_0 ?_
  refine jj_iload_n C0 1 rfl dX4_steps_1 ?_
  refine jj_i2l C0 (by omega) dX4_steps_2 ?_
  refine jj_lconst C0 (z := 1) (by decide) dX4_steps_3 ?_
  refine jj_ldc2 C0 (z := 10) (by decide) (hw _ hU_873) dX4_steps_4 ?_
  refine jj_callSi C0 (cc_X4_in1 hEV (v := x) (lo := 1) (hi := 10) (by omega) (by omega) (by omega) (by omega)) (cwS 3 hw (lw_gS hU_874 hU_875 hU_66 hU_876) rfl rfl rfl (by decide +kernel) ⟨Nat.le_of_ble_eq_true rfl, Nat.le_of_ble_eq_true rfl⟩) rfl rfl (Nat.le_of_ble_eq_true rfl) ⟨by decide, by decide⟩ rfl rfl dX4_steps_7 ?_
  intro _ hu
  show jj_W _ _ _ _ _ _ _ _ _ _ _ _ _ _ _ _ _ 10 _ [.int (iI 1), .ref (ad 0)] (wM ad cI cJ cZ th td pr up dn dv n K St Ex Am Ov Bi As BL AL He Co Ca mo sh co sd Cz Ab be ++ E)
  refine jj_if_eq C0 (by omega) dX4_steps_10 (tgt := 29) (by decide) (fun c_1 => absurd c_1 (by omega)) (fun c_1 => ?_)
  refine jj_iload_n C0 2 rfl dX4_steps_13 ?_
  refine jj_i2l C0 (by omega) dX4_steps_14 ?_
  refine jj_lconst C0 (z := 1) (by decide) dX4_steps_15 ?_
  refine jj_ldc2 C0 (z := 10) (by decide) (hw _ hU_873) dX4_steps_16 ?_
  refine jj_callSi C0 (cc_X4_in1 hEV (v := y) (lo := 1) (hi := 10) (by omega) (by omega) (by omega) (by omega)) (cwS 3 hw (lw_gS hU_874 hU_875 hU_66 hU_876) rfl rfl rfl (by decide +kernel) ⟨Nat.le_of_ble_eq_true rfl, Nat.le_of_ble_eq_true rfl⟩) rfl rfl (Nat.le_of_ble_eq_true rfl) ⟨by decide, by decide⟩ rfl rfl dX4_steps_19 ?_
  intro _ hu
  show jj_W _ _ _ _ _ _ _ _ _ _ _ _ _ _ _ _ _ 22 _ [.int (iI 1), .ref (ad 0)] (wM ad cI cJ cZ th td pr up dn dv n K St Ex Am Ov Bi As BL AL He Co Ca mo sh co sd Cz Ab be ++ E)
  refine jj_if_eq C0 (by omega) dX4_steps_22 (tgt := 29) (by decide) (fun c_2 => absurd c_2 (by omega)) (fun c_2 => ?_)
  refine jj_iconst C0 dX4_steps_25 ?_
  refine jj_goto C0 (tgt := 30) dX4_steps_26 (by decide) ?_
  refine jj_put C0 (ci := 5) (v := .int (iI 0)) (ty := .int) hin_X4 tyX4 tyX4_ok nmX4 (0) (rfl) rfl 0 (by decide) (hw _ hU_786) (fun _ h9 => h9) rfl (by decide +kernel) (rfl) rfl (Nat.le_of_ble_eq_true rfl) (ws' := wM ad cI cJ cZ 0 td pr up dn dv n K St Ex Am Ov Bi As BL AL He Co Ca mo sh co sd Cz Ab be ++ E) (rfl) dX4_steps_30 ?_
  refine jj_aload_n C0 0 rfl dX4_steps_33 ?_
  refine jj_get C0 (ci := 5) (v := .int (iI 0)) hin_X4 (0) (rfl) rfl 0 (by decide) (hw _ hU_786) (fun _ h9 => h9) rfl dX4_steps_34 ?_
  refine jj_if_ne C0 (by omega) dX4_steps_37 (tgt := 78) (by decide) (fun c_3 => absurd c_3 (by omega)) (fun c_3 => ?_)
  refine jj_aload_n C0 0 rfl dX4_steps_40 ?_
  refine jj_aload_n C0 0 rfl dX4_steps_41 ?_
  refine jj_get C0 (ci := 5) (v := .int (iI pr)) hin_X4 (0) (rfl) rfl 2 (by decide) (hw _ hU_788) (fun _ h9 => h9) rfl dX4_steps_42 ?_
  refine jj_callVl C0 (cc_X4_worthAt hEV (fr := pr) (fun c hc => Or.inr (hovs c hc)) (by first | exact hexs | omega) (by first | exact hn | omega) (by first | exact htd | omega) (by omega) (by first | exact hup | omega) (by first | exact hdn | omega) (by first | exact hdv | omega) (by first | exact hK | omega) (by first | exact hSt | omega) (by first | exact hEx | omega) (by first | exact hAm | omega) (by first | exact hOv | omega) (by first | exact hHe | omega) (by first | exact hsh | omega)) (cwV 1 hw (lw_gV hU_877 hU_879 hU_42 hU_66 hU_880) rfl rfl rfl (by decide +kernel) ⟨Nat.le_of_ble_eq_true rfl, Nat.le_of_ble_eq_true rfl⟩) (ci := 5) (q0 := 0) rfl (rfl) rfl rfl (Nat.le_of_ble_eq_true rfl) ⟨by decide, by decide⟩ rfl rfl dX4_steps_45 ?_
  intro u hu
  obtain ⟨ab_4, b_4⟩ := u
  show jj_W _ _ _ _ _ _ _ _ _ _ _ _ _ _ _ _ _ 48 _ [.long (lI (f_W up dn dv td n K St Ex Am He Ca sh pr))] (wM ad cI cJ cZ 0 td pr up dn dv n K St Ex Am Ov Bi As BL AL He Co Ca mo sh co sd Cz ab_4 b_4 ++ E)
  refine jj_lstore_n C0 (i := 3) rfl (lv' := [(3, .long (lI (f_W up dn dv td n K St Ex Am He Ca sh pr))), (0, .ref (ad 0)), (1, .int (iI x)), (2, .int (iI y))]) (by decide) rfl dX4_steps_48 ?_
  refine jj_aload_n C0 1 rfl dX4_steps_49 ?_
  refine jj_iload_n C0 2 rfl dX4_steps_50 ?_
  refine jj_put C0 (ci := 5) (v := .int (iI x)) (ty := .int) hin_X4 tyX4 tyX4_ok nmX4 (0) (rfl) rfl 3 (by decide) (hw _ hU_789) (fun _ h9 => h9) rfl (by decide +kernel) (rfl) rfl (Nat.le_of_ble_eq_true rfl) (ws' := wM ad cI cJ cZ 0 td pr x dn dv n K St Ex Am Ov Bi As BL AL He Co Ca mo sh co sd Cz ab_4 b_4 ++ E) (rfl) dX4_steps_51 ?_
  refine jj_aload_n C0 1 rfl dX4_steps_54 ?_
  refine jj_iload_n C0 3 rfl dX4_steps_55 ?_
  refine jj_put C0 (ci := 5) (v := .int (iI y)) (ty := .int) hin_X4 tyX4 tyX4_ok nmX4 (0) (rfl) rfl 4 (by decide) (hw _ hU_790) (fun _ h9 => h9) rfl (by decide +kernel) (rfl) rfl (Nat.le_of_ble_eq_true rfl) (ws' := wM ad cI cJ cZ 0 td pr x y dv n K St Ex Am Ov Bi As BL AL He Co Ca mo sh co sd Cz ab_4 b_4 ++ E) (rfl) dX4_steps_56 ?_
  refine jj_aload_n C0 1 rfl dX4_steps_59 ?_
  refine jj_get C0 (ci := 5) (v := .ref (ad 14)) hin_X4 (0) (rfl) rfl 23 (by decide) (hw _ hU_809) (fun _ h9 => h9) rfl dX4_steps_60 ?_
  refine jj_iconst C0 dX4_steps_63 ?_
  refine jj_dup2_11 C0 dX4_steps_64 rfl rfl ?_
  refine jj_lald C0 (q0 := 14) (t0 := 1) (f := Cz) (rfl) rfl (k := 5) (by omega) (by omega) (by decide) dX4_steps_65 ?_
  refine jj_aload_n C0 1 rfl dX4_steps_66 ?_
  refine jj_aload_n C0 1 rfl dX4_steps_67 ?_
  refine jj_get C0 (ci := 5) (v := .int (iI pr)) hin_X4 (0) (rfl) rfl 2 (by decide) (hw _ hU_788) (fun _ h9 => h9) rfl dX4_steps_68 ?_
  refine jj_callVl C0 (cc_X4_worthAt hEV (fr := pr) (fun c hc => Or.inr (hovs c hc)) (by first | exact hexs | omega) (by first | exact hn | omega) (by first | exact htd | omega) (by omega) hx hy (by first | exact hdv | omega) (by first | exact hK | omega) (by first | exact hSt | omega) (by first | exact hEx | omega) (by first | exact hAm | omega) (by first | exact hOv | omega) (by first | exact hHe | omega) (by first | exact hsh | omega)) (cwV 1 hw (lw_gV hU_877 hU_879 hU_42 hU_66 hU_880) rfl rfl rfl (by decide +kernel) ⟨Nat.le_of_ble_eq_true rfl, Nat.le_of_ble_eq_true rfl⟩) (ci := 5) (q0 := 0) rfl (rfl) rfl rfl (Nat.le_of_ble_eq_true rfl) ⟨by decide, by decide⟩ rfl rfl dX4_steps_71 ?_
  intro u hu
  obtain ⟨ab_5, b_5⟩ := u
  show jj_W _ _ _ _ _ _ _ _ _ _ _ _ _ _ _ _ _ 74 _ [.long (lI (f_W x y dv td n K St Ex Am He Ca sh pr)), .long (lI (Cz 5)), .int (iI 5), .ref (ad 14)] (wM ad cI cJ cZ 0 td pr x y dv n K St Ex Am Ov Bi As BL AL He Co Ca mo sh co sd Cz ab_5 b_5 ++ E)
  refine jj_lload_n C0 0 rfl dX4_steps_74 ?_
  refine jj_lsub C0 dX4_steps_75 ?_
  refine jj_ladd C0 dX4_steps_76 ?_
  refine jj_last C0 (q0 := 14) (t0 := 1) (f := Cz) (rfl) rfl (k := 5) (by omega) (by omega) (by decide) (ws' := wM ad cI cJ cZ 0 td pr x y dv n K St Ex Am Ov Bi As BL AL He Co Ca mo sh co sd (va_up Cz 5 ((Cz 5) + ((f_W x y dv td n K St Ex Am He Ca sh pr) - (f_W up dn dv td n K St Ex Am He Ca sh pr)))) ab_5 b_5 ++ E) (rfl) dX4_steps_77 ?_
  exact jj_vret C0 hr (ab_5, b_5) (trivial) (rfl) (by decide) (by decide) dX4_steps_78
set_option maxHeartbeats 4000000 in
set_option maxRecDepth 100000 in
theorem cb_X4_steps (hEV : jj_EV EV) {x y : Int} {kk : Int} (hx : iR x) (hy : iR y) (hbad : ¬ (1 ≤ x ∧ x ≤ 10 ∧ 1 ≤ y ∧ y ≤ 10) ∧ kk = 1) : jj_Mv EV (dC, dI) vwCl [(cI, .int), (cJ, .long), (cZ, .boolean), (cO, .object "java/lang/Object")] l yX4_steps (Cond.code yX4_steps cX4_steps 5 none :: lw_U) ({ frames := 1, cells := 0, slots := 0, locals := 25 } : Room) [.ref (ad 0), .int (iI x), .int (iI y)] (wM ad cI cJ cZ th td pr up dn dv n K St Ex Am Ov Bi As BL AL He Co Ca mo sh co sd Cz Ab be ++ E) (S := Unit)  (fun _ => True) (fun _ => wM ad cI cJ cZ kk td pr up dn dv n K St Ex Am Ov Bi As BL AL He Co Ca mo sh co sd Cz Ab be ++ E) := by
  refine jj_start (cc := cX4_steps) (nL := 5) (ret := none) (lv := [(0, .ref (ad 0)), (1, .int (iI x)), (2, .int (iI y))]) (fun A => jj_Qv _ _ _ _ _ A) hEV (by decide) rfl (Nat.le_of_ble_eq_true rfl) rfl ?_
  intro p9 e9 s9 m9 a9 b9 me9 c9 A9 C1 hr hin
  have C0 : jj_C p9 s9 m9 a9 me9 c9 (dC, dI) vwCl A9 5 cX4_steps "StrikehallModel" lw_U _ EV := jj_toU C1
  have hw := C0.2.2.2.2.1
  refine jj_aload_n C0 0 rfl dX4_steps_0 ?_
  refine jj_iload_n C0 1 rfl dX4_steps_1 ?_
  refine jj_i2l C0 (by omega) dX4_steps_2 ?_
  refine jj_lconst C0 (z := 1) (by decide) dX4_steps_3 ?_
  refine jj_ldc2 C0 (z := 10) (by decide) (hw _ hU_873) dX4_steps_4 ?_
  refine jj_callSi C0 (cc_X4_in hEV (v := x) (lo := 1) (hi := 10) (by omega) (by omega) (by omega)) (cwS 3 hw (lw_gS hU_874 hU_875 hU_66 hU_876) rfl rfl rfl (by decide +kernel) ⟨Nat.le_of_ble_eq_true rfl, Nat.le_of_ble_eq_true rfl⟩) rfl rfl (Nat.le_of_ble_eq_true rfl) ⟨by decide, by decide⟩ rfl rfl dX4_steps_7 ?_
  intro u_1 hu
  have hu_7 : (u_1 = 1 ∧ 1 ≤ x ∧ x ≤ 10) ∨ (u_1 = 0 ∧ (x < 1 ∨ 10 < x)) := hu
  show jj_W _ _ _ _ _ _ _ _ _ _ _ _ _ _ _ _ _ 10 _ [.int (iI u_1), .ref (ad 0)] (wM ad cI cJ cZ th td pr up dn dv n K St Ex Am Ov Bi As BL AL He Co Ca mo sh co sd Cz Ab be ++ E)
  refine jj_if_eq C0 (by omega) dX4_steps_10 (tgt := 29) (by decide) (fun c_2 => ?_) (fun c_2 => ?_)
  · refine jj_iconst C0 dX4_steps_29 ?_
    refine jj_put C0 (ci := 5) (v := .int (iI 1)) (ty := .int) hin_X4 tyX4 tyX4_ok nmX4 (0) (rfl) rfl 0 (by decide) (hw _ hU_786) (fun _ h9 => h9) rfl (by decide +kernel) (rfl) rfl (Nat.le_of_ble_eq_true rfl) (ws' := wM ad cI cJ cZ 1 td pr up dn dv n K St Ex Am Ov Bi As BL AL He Co Ca mo sh co sd Cz Ab be ++ E) (rfl) dX4_steps_30 ?_
    refine jj_aload_n C0 0 rfl dX4_steps_33 ?_
    refine jj_get C0 (ci := 5) (v := .int (iI 1)) hin_X4 (0) (rfl) rfl 0 (by decide) (hw _ hU_786) (fun _ h9 => h9) rfl dX4_steps_34 ?_
    refine jj_if_ne C0 (by omega) dX4_steps_37 (tgt := 78) (by decide) (fun c_3 => ?_) (fun c_3 => absurd c_3 (by omega))
    obtain rfl : kk = 1 := by omega
    exact jj_vret C0 hr () (trivial) (rfl) (by decide) (by decide) dX4_steps_78
  · refine jj_iload_n C0 2 rfl dX4_steps_13 ?_
    refine jj_i2l C0 (by omega) dX4_steps_14 ?_
    refine jj_lconst C0 (z := 1) (by decide) dX4_steps_15 ?_
    refine jj_ldc2 C0 (z := 10) (by decide) (hw _ hU_873) dX4_steps_16 ?_
    refine jj_callSi C0 (cc_X4_in hEV (v := y) (lo := 1) (hi := 10) (by omega) (by omega) (by omega)) (cwS 3 hw (lw_gS hU_874 hU_875 hU_66 hU_876) rfl rfl rfl (by decide +kernel) ⟨Nat.le_of_ble_eq_true rfl, Nat.le_of_ble_eq_true rfl⟩) rfl rfl (Nat.le_of_ble_eq_true rfl) ⟨by decide, by decide⟩ rfl rfl dX4_steps_19 ?_
    intro u_4 hu
    have hu_19 : (u_4 = 1 ∧ 1 ≤ y ∧ y ≤ 10) ∨ (u_4 = 0 ∧ (y < 1 ∨ 10 < y)) := hu
    show jj_W _ _ _ _ _ _ _ _ _ _ _ _ _ _ _ _ _ 22 _ [.int (iI u_4), .ref (ad 0)] (wM ad cI cJ cZ th td pr up dn dv n K St Ex Am Ov Bi As BL AL He Co Ca mo sh co sd Cz Ab be ++ E)
    refine jj_if_eq C0 (by omega) dX4_steps_22 (tgt := 29) (by decide) (fun c_5 => ?_) (fun c_5 => ?_)
    · refine jj_iconst C0 dX4_steps_29 ?_
      refine jj_put C0 (ci := 5) (v := .int (iI 1)) (ty := .int) hin_X4 tyX4 tyX4_ok nmX4 (0) (rfl) rfl 0 (by decide) (hw _ hU_786) (fun _ h9 => h9) rfl (by decide +kernel) (rfl) rfl (Nat.le_of_ble_eq_true rfl) (ws' := wM ad cI cJ cZ 1 td pr up dn dv n K St Ex Am Ov Bi As BL AL He Co Ca mo sh co sd Cz Ab be ++ E) (rfl) dX4_steps_30 ?_
      refine jj_aload_n C0 0 rfl dX4_steps_33 ?_
      refine jj_get C0 (ci := 5) (v := .int (iI 1)) hin_X4 (0) (rfl) rfl 0 (by decide) (hw _ hU_786) (fun _ h9 => h9) rfl dX4_steps_34 ?_
      refine jj_if_ne C0 (by omega) dX4_steps_37 (tgt := 78) (by decide) (fun c_6 => ?_) (fun c_6 => absurd c_6 (by omega))
      obtain rfl : kk = 1 := by omega
      exact jj_vret C0 hr () (trivial) (rfl) (by decide) (by decide) dX4_steps_78
    · refine jj_iconst C0 dX4_steps_25 ?_
      refine jj_goto C0 (tgt := 30) dX4_steps_26 (by decide) ?_
      refine jj_put C0 (ci := 5) (v := .int (iI 0)) (ty := .int) hin_X4 tyX4 tyX4_ok nmX4 (0) (rfl) rfl 0 (by decide) (hw _ hU_786) (fun _ h9 => h9) rfl (by decide +kernel) (rfl) rfl (Nat.le_of_ble_eq_true rfl) (ws' := wM ad cI cJ cZ 0 td pr up dn dv n K St Ex Am Ov Bi As BL AL He Co Ca mo sh co sd Cz Ab be ++ E) (rfl) dX4_steps_30 ?_
      refine jj_aload_n C0 0 rfl dX4_steps_33 ?_
      refine jj_get C0 (ci := 5) (v := .int (iI 0)) hin_X4 (0) (rfl) rfl 0 (by decide) (hw _ hU_786) (fun _ h9 => h9) rfl dX4_steps_34 ?_
      refine jj_if_ne C0 (by omega) dX4_steps_37 (tgt := 78) (by decide) (fun c_7 => absurd c_7 (by omega)) (fun c_7 => ?_)
      exfalso
      omega
set_option maxHeartbeats 4000000 in
set_option maxRecDepth 100000 in
theorem cc_X4_move (hEV : jj_EV EV) {x : Int} (hx : 0 ≤ x ∧ x ≤ 20000) (hovs : ∀ c, c < n → (Ov c = 1 ∧ Ex c < (td : Int)) ∨ (Ov c = 0 ∧ (td : Int) ≤ Ex c)) (hexs : ∀ c, c < n → Ex c ≤ (td : Int) + 10 ∧ Ex c ≤ 200) (hn : n ≤ 12) (htd : td ≤ 200) (hpr : 0 ≤ pr ∧ pr ≤ 20000) (hup : 1 ≤ up ∧ up ≤ 10) (hdn : 1 ≤ dn ∧ dn ≤ 10) (hdv : ∀ j, 0 ≤ dv j ∧ dv j ≤ 1000) (hK : ∀ j, 0 ≤ K j ∧ K j ≤ 1) (hSt : ∀ j, 0 ≤ St j ∧ St j ≤ 20000) (hEx : ∀ j, 0 ≤ Ex j ∧ Ex j ≤ 200) (hAm : ∀ j, 0 ≤ Am j ∧ Am j ≤ 1) (hOv : ∀ j, 0 ≤ Ov j ∧ Ov j ≤ 1) (hHe : ∀ j, -1000000 ≤ He j ∧ He j ≤ 1000000) (hsh : -100000 ≤ sh ∧ sh ≤ 100000) : jj_Ml EV (dC, dI) vwCl [(cI, .int), (cJ, .long), (cZ, .boolean), (cO, .object "java/lang/Object")] l yX4_move (Cond.code yX4_move cX4_move 4 (some .long) :: lw_U) ({ frames := 4, cells := 0, slots := 0, locals := 102 } : Room) [.ref (ad 0), .int (iI x)] (wM ad cI cJ cZ th td pr up dn dv n K St Ex Am Ov Bi As BL AL He Co Ca mo sh co sd Cz Ab be ++ E) (S := (Nat → Int) × Int) (fun ⟨ab, b⟩ => ((f_W up dn dv td n K St Ex Am He Ca sh x) - (f_W up dn dv td n K St Ex Am He Ca sh pr))) (fun ⟨ab, b⟩ => True) (fun ⟨ab, b⟩ => wM ad cI cJ cZ 0 td x up dn dv n K St Ex Am Ov Bi As BL AL He Co Ca mo sh co sd (va_up Cz 1 ((Cz 1) + ((f_W up dn dv td n K St Ex Am He Ca sh x) - (f_W up dn dv td n K St Ex Am He Ca sh pr)))) ab b ++ E) := by
  refine jj_start (cc := cX4_move) (nL := 4) (ret := (some .long)) (lv := [(0, .ref (ad 0)), (1, .int (iI x))]) (fun A => jj_Ql _ _ _ _ _ _ A) hEV (by decide) rfl (Nat.le_of_ble_eq_true rfl) rfl ?_
  intro p9 e9 s9 m9 a9 b9 me9 c9 A9 C1 hr hin
  have C0 : jj_C p9 s9 m9 a9 me9 c9 (dC, dI) vwCl A9 4 cX4_move "StrikehallModel" lw_U _ EV := jj_toU C1
  have hw := C0.2.2.2.2.1
  refine jj_aload_n C0 0 rfl dX4_move_0 ?_
  refine jj_iload_n C0 1 rfl dX4_move_1 ?_
  refine jj_i2l C0 (by omega) dX4_move_2 ?_
  refine jj_lconst C0 (z := 0) (by decide) dX4_move_3 ?_
  refine jj_ldc2 C0 (z := 20000) (by decide) (hw _ hU_905) dX4_move_4 ?_
  refine jj_callSi C0 (cc_X4_in1 hEV (v := x) (lo := 0) (hi := 20000) (by omega) (by omega) (by omega) (by omega)) (cwS 3 hw (lw_gS hU_874 hU_875 hU_66 hU_876) rfl rfl rfl (by decide +kernel) ⟨Nat.le_of_ble_eq_true rfl, Nat.le_of_ble_eq_true rfl⟩) rfl rfl (Nat.le_of_ble_eq_true rfl) ⟨by decide, by decide⟩ rfl rfl dX4_move_7 ?_
  intro _ hu
  show jj_W _ _ _ _ _ _ _ _ _ _ _ _ _ _ _ _ _ 10 _ [.int (iI 1), .ref (ad 0)] (wM ad cI cJ cZ th td pr up dn dv n K St Ex Am Ov Bi As BL AL He Co Ca mo sh co sd Cz Ab be ++ E)
  refine jj_if_eq C0 (by omega) dX4_move_10 (tgt := 17) (by decide) (fun c_1 => absurd c_1 (by omega)) (fun c_1 => ?_)
  refine jj_iconst C0 dX4_move_13 ?_
  refine jj_goto C0 (tgt := 18) dX4_move_14 (by decide) ?_
  refine jj_put C0 (ci := 5) (v := .int (iI 0)) (ty := .int) hin_X4 tyX4 tyX4_ok nmX4 (0) (rfl) rfl 0 (by decide) (hw _ hU_786) (fun _ h9 => h9) rfl (by decide +kernel) (rfl) rfl (Nat.le_of_ble_eq_true rfl) (ws' := wM ad cI cJ cZ 0 td pr up dn dv n K St Ex Am Ov Bi As BL AL He Co Ca mo sh co sd Cz Ab be ++ E) (rfl) dX4_move_18 ?_
  refine jj_aload_n C0 0 rfl dX4_move_21 ?_
  refine jj_get C0 (ci := 5) (v := .int (iI 0)) hin_X4 (0) (rfl) rfl 0 (by decide) (hw _ hU_786) (fun _ h9 => h9) rfl dX4_move_22 ?_
  refine jj_if_le C0 (by omega) dX4_move_25 (tgt := 30) (by decide) (fun c_2 => ?_) (fun c_2 => absurd c_2 (by omega))
  refine jj_aload_n C0 0 rfl dX4_move_30 ?_
  refine jj_iload_n C0 1 rfl dX4_move_31 ?_
  refine jj_callVl C0 (cc_X4_worthAt hEV (fr := x) (fun c hc => Or.inr (hovs c hc)) (by first | exact hexs | omega) (by first | exact hn | omega) (by first | exact htd | omega) (by omega) (by first | exact hup | omega) (by first | exact hdn | omega) (by first | exact hdv | omega) (by first | exact hK | omega) (by first | exact hSt | omega) (by first | exact hEx | omega) (by first | exact hAm | omega) (by first | exact hOv | omega) (by first | exact hHe | omega) (by first | exact hsh | omega)) (cwV 1 hw (lw_gV hU_877 hU_879 hU_42 hU_66 hU_880) rfl rfl rfl (by decide +kernel) ⟨Nat.le_of_ble_eq_true rfl, Nat.le_of_ble_eq_true rfl⟩) (ci := 5) (q0 := 0) rfl (rfl) rfl rfl (Nat.le_of_ble_eq_true rfl) ⟨by decide, by decide⟩ rfl rfl dX4_move_32 ?_
  intro u hu
  obtain ⟨ab_3, b_3⟩ := u
  show jj_W _ _ _ _ _ _ _ _ _ _ _ _ _ _ _ _ _ 35 _ [.long (lI (f_W up dn dv td n K St Ex Am He Ca sh x))] (wM ad cI cJ cZ 0 td pr up dn dv n K St Ex Am Ov Bi As BL AL He Co Ca mo sh co sd Cz ab_3 b_3 ++ E)
  refine jj_aload_n C0 0 rfl dX4_move_35 ?_
  refine jj_aload_n C0 0 rfl dX4_move_36 ?_
  refine jj_get C0 (ci := 5) (v := .int (iI pr)) hin_X4 (0) (rfl) rfl 2 (by decide) (hw _ hU_788) (fun _ h9 => h9) rfl dX4_move_37 ?_
  refine jj_callVl C0 (cc_X4_worthAt hEV (fr := pr) (fun c hc => Or.inr (hovs c hc)) (by first | exact hexs | omega) (by first | exact hn | omega) (by first | exact htd | omega) (by omega) (by first | exact hup | omega) (by first | exact hdn | omega) (by first | exact hdv | omega) (by first | exact hK | omega) (by first | exact hSt | omega) (by first | exact hEx | omega) (by first | exact hAm | omega) (by first | exact hOv | omega) (by first | exact hHe | omega) (by first | exact hsh | omega)) (cwV 1 hw (lw_gV hU_877 hU_879 hU_42 hU_66 hU_880) rfl rfl rfl (by decide +kernel) ⟨Nat.le_of_ble_eq_true rfl, Nat.le_of_ble_eq_true rfl⟩) (ci := 5) (q0 := 0) rfl (rfl) rfl rfl (Nat.le_of_ble_eq_true rfl) ⟨by decide, by decide⟩ rfl rfl dX4_move_40 ?_
  intro u hu
  obtain ⟨ab_4, b_4⟩ := u
  show jj_W _ _ _ _ _ _ _ _ _ _ _ _ _ _ _ _ _ 43 _ [.long (lI (f_W up dn dv td n K St Ex Am He Ca sh pr)), .long (lI (f_W up dn dv td n K St Ex Am He Ca sh x))] (wM ad cI cJ cZ 0 td pr up dn dv n K St Ex Am Ov Bi As BL AL He Co Ca mo sh co sd Cz ab_4 b_4 ++ E)
  refine jj_lsub C0 dX4_move_43 ?_
  refine jj_lstore_n C0 (i := 2) rfl (lv' := [(2, .long (lI ((f_W up dn dv td n K St Ex Am He Ca sh x) - (f_W up dn dv td n K St Ex Am He Ca sh pr)))), (0, .ref (ad 0)), (1, .int (iI x))]) (by decide) rfl dX4_move_44 ?_
  refine jj_aload_n C0 1 rfl dX4_move_45 ?_
  refine jj_iload_n C0 2 rfl dX4_move_46 ?_
  refine jj_put C0 (ci := 5) (v := .int (iI x)) (ty := .int) hin_X4 tyX4 tyX4_ok nmX4 (0) (rfl) rfl 2 (by decide) (hw _ hU_788) (fun _ h9 => h9) rfl (by decide +kernel) (rfl) rfl (Nat.le_of_ble_eq_true rfl) (ws' := wM ad cI cJ cZ 0 td x up dn dv n K St Ex Am Ov Bi As BL AL He Co Ca mo sh co sd Cz ab_4 b_4 ++ E) (rfl) dX4_move_47 ?_
  refine jj_aload_n C0 1 rfl dX4_move_50 ?_
  refine jj_get C0 (ci := 5) (v := .ref (ad 14)) hin_X4 (0) (rfl) rfl 23 (by decide) (hw _ hU_809) (fun _ h9 => h9) rfl dX4_move_51 ?_
  refine jj_iconst C0 dX4_move_54 ?_
  refine jj_dup2_11 C0 dX4_move_55 rfl rfl ?_
  refine jj_lald C0 (q0 := 14) (t0 := 1) (f := Cz) (rfl) rfl (k := 1) (by omega) (by omega) (by decide) dX4_move_56 ?_
  refine jj_lload_n C0 0 rfl dX4_move_57 ?_
  refine jj_ladd C0 dX4_move_58 ?_
  refine jj_last C0 (q0 := 14) (t0 := 1) (f := Cz) (rfl) rfl (k := 1) (by omega) (by omega) (by decide) (ws' := wM ad cI cJ cZ 0 td x up dn dv n K St Ex Am Ov Bi As BL AL He Co Ca mo sh co sd (va_up Cz 1 ((Cz 1) + ((f_W up dn dv td n K St Ex Am He Ca sh x) - (f_W up dn dv td n K St Ex Am He Ca sh pr)))) ab_4 b_4 ++ E) (rfl) dX4_move_59 ?_
  refine jj_lload_n C0 0 rfl dX4_move_60 ?_
  exact jj_lret C0 hr (ab_4, b_4) (trivial) (rfl) (rfl) (by decide) (by decide) dX4_move_61
set_option maxHeartbeats 4000000 in
set_option maxRecDepth 100000 in
theorem cb_X4_move (hEV : jj_EV EV) {x : Int} {kk : Int} (hx : iR x) (hbad : ¬ (0 ≤ x ∧ x ≤ 20000) ∧ kk = 1) : jj_Ml EV (dC, dI) vwCl [(cI, .int), (cJ, .long), (cZ, .boolean), (cO, .object "java/lang/Object")] l yX4_move (Cond.code yX4_move cX4_move 4 (some .long) :: lw_U) ({ frames := 1, cells := 0, slots := 0, locals := 25 } : Room) [.ref (ad 0), .int (iI x)] (wM ad cI cJ cZ th td pr up dn dv n K St Ex Am Ov Bi As BL AL He Co Ca mo sh co sd Cz Ab be ++ E) (S := Int) (fun u => u) (fun u => True) (fun u => wM ad cI cJ cZ kk td pr up dn dv n K St Ex Am Ov Bi As BL AL He Co Ca mo sh co sd Cz Ab be ++ E) := by
  refine jj_start (cc := cX4_move) (nL := 4) (ret := (some .long)) (lv := [(0, .ref (ad 0)), (1, .int (iI x))]) (fun A => jj_Ql _ _ _ _ _ _ A) hEV (by decide) rfl (Nat.le_of_ble_eq_true rfl) rfl ?_
  intro p9 e9 s9 m9 a9 b9 me9 c9 A9 C1 hr hin
  have C0 : jj_C p9 s9 m9 a9 me9 c9 (dC, dI) vwCl A9 4 cX4_move "StrikehallModel" lw_U _ EV := jj_toU C1
  have hw := C0.2.2.2.2.1
  refine jj_aload_n C0 0 rfl dX4_move_0 ?_
  refine jj_iload_n C0 1 rfl dX4_move_1 ?_
  refine jj_i2l C0 (by omega) dX4_move_2 ?_
  refine jj_lconst C0 (z := 0) (by decide) dX4_move_3 ?_
  refine jj_ldc2 C0 (z := 20000) (by decide) (hw _ hU_905) dX4_move_4 ?_
  refine jj_callSi C0 (cc_X4_in hEV (v := x) (lo := 0) (hi := 20000) (by omega) (by omega) (by omega)) (cwS 3 hw (lw_gS hU_874 hU_875 hU_66 hU_876) rfl rfl rfl (by decide +kernel) ⟨Nat.le_of_ble_eq_true rfl, Nat.le_of_ble_eq_true rfl⟩) rfl rfl (Nat.le_of_ble_eq_true rfl) ⟨by decide, by decide⟩ rfl rfl dX4_move_7 ?_
  intro u_1 hu
  have hu_7 : (u_1 = 1 ∧ 0 ≤ x ∧ x ≤ 20000) ∨ (u_1 = 0 ∧ (x < 0 ∨ 20000 < x)) := hu
  show jj_W _ _ _ _ _ _ _ _ _ _ _ _ _ _ _ _ _ 10 _ [.int (iI u_1), .ref (ad 0)] (wM ad cI cJ cZ th td pr up dn dv n K St Ex Am Ov Bi As BL AL He Co Ca mo sh co sd Cz Ab be ++ E)
  refine jj_if_eq C0 (by omega) dX4_move_10 (tgt := 17) (by decide) (fun c_2 => ?_) (fun c_2 => ?_)
  · refine jj_iconst C0 dX4_move_17 ?_
    refine jj_put C0 (ci := 5) (v := .int (iI 1)) (ty := .int) hin_X4 tyX4 tyX4_ok nmX4 (0) (rfl) rfl 0 (by decide) (hw _ hU_786) (fun _ h9 => h9) rfl (by decide +kernel) (rfl) rfl (Nat.le_of_ble_eq_true rfl) (ws' := wM ad cI cJ cZ 1 td pr up dn dv n K St Ex Am Ov Bi As BL AL He Co Ca mo sh co sd Cz Ab be ++ E) (rfl) dX4_move_18 ?_
    refine jj_aload_n C0 0 rfl dX4_move_21 ?_
    refine jj_get C0 (ci := 5) (v := .int (iI 1)) hin_X4 (0) (rfl) rfl 0 (by decide) (hw _ hU_786) (fun _ h9 => h9) rfl dX4_move_22 ?_
    refine jj_if_le C0 (by omega) dX4_move_25 (tgt := 30) (by decide) (fun c_3 => absurd c_3 (by omega)) (fun c_3 => ?_)
    refine jj_lconst C0 (z := 0) (by decide) dX4_move_28 ?_
    obtain rfl : kk = 1 := by omega
    exact jj_lret C0 hr 0 (trivial) (rfl) (rfl) (by decide) (by decide) dX4_move_29
  · refine jj_iconst C0 dX4_move_13 ?_
    refine jj_goto C0 (tgt := 18) dX4_move_14 (by decide) ?_
    refine jj_put C0 (ci := 5) (v := .int (iI 0)) (ty := .int) hin_X4 tyX4 tyX4_ok nmX4 (0) (rfl) rfl 0 (by decide) (hw _ hU_786) (fun _ h9 => h9) rfl (by decide +kernel) (rfl) rfl (Nat.le_of_ble_eq_true rfl) (ws' := wM ad cI cJ cZ 0 td pr up dn dv n K St Ex Am Ov Bi As BL AL He Co Ca mo sh co sd Cz Ab be ++ E) (rfl) dX4_move_18 ?_
    refine jj_aload_n C0 0 rfl dX4_move_21 ?_
    refine jj_get C0 (ci := 5) (v := .int (iI 0)) hin_X4 (0) (rfl) rfl 0 (by decide) (hw _ hU_786) (fun _ h9 => h9) rfl dX4_move_22 ?_
    refine jj_if_le C0 (by omega) dX4_move_25 (tgt := 30) (by decide) (fun c_4 => ?_) (fun c_4 => absurd c_4 (by omega))
    exfalso
    omega
set_option maxHeartbeats 4000000 in
set_option maxRecDepth 100000 in
theorem cc_X4_dividend (hEV : jj_EV EV) {d : Nat} {y : Int} (hd : td + 1 ≤ d ∧ d ≤ 200) (hy : 0 ≤ y ∧ y ≤ 1000) (hovs : ∀ c, c < n → (Ov c = 1 ∧ Ex c < (td : Int)) ∨ (Ov c = 0 ∧ (td : Int) ≤ Ex c)) (hexs : ∀ c, c < n → Ex c ≤ (td : Int) + 10 ∧ Ex c ≤ 200) (hn : n ≤ 12) (htd : td ≤ 200) (hpr : 0 ≤ pr ∧ pr ≤ 20000) (hup : 1 ≤ up ∧ up ≤ 10) (hdn : 1 ≤ dn ∧ dn ≤ 10) (hdv : ∀ j, 0 ≤ dv j ∧ dv j ≤ 1000) (hK : ∀ j, 0 ≤ K j ∧ K j ≤ 1) (hSt : ∀ j, 0 ≤ St j ∧ St j ≤ 20000) (hEx : ∀ j, 0 ≤ Ex j ∧ Ex j ≤ 200) (hAm : ∀ j, 0 ≤ Am j ∧ Am j ≤ 1) (hOv : ∀ j, 0 ≤ Ov j ∧ Ov j ≤ 1) (hHe : ∀ j, -1000000 ≤ He j ∧ He j ≤ 1000000) (hsh : -100000 ≤ sh ∧ sh ≤ 100000) : jj_Mi EV (dC, dI) vwCl [(cI, .int), (cJ, .long), (cZ, .boolean), (cO, .object "java/lang/Object")] l yX4_dividend (Cond.code yX4_dividend cX4_dividend 6 (some .int) :: lw_U) ({ frames := 4, cells := 0, slots := 0, locals := 102 } : Room) [.ref (ad 0), .int (iI (d : Int)), .int (iI y)] (wM ad cI cJ cZ th td pr up dn dv n K St Ex Am Ov Bi As BL AL He Co Ca mo sh co sd Cz Ab be ++ E) (S := (Nat → Int) × Int) (fun ⟨ab, b⟩ => (dv d)) (fun ⟨ab, b⟩ => True) (fun ⟨ab, b⟩ => wM ad cI cJ cZ 0 td pr up dn (va_up dv d y) n K St Ex Am Ov Bi As BL AL He Co Ca mo sh co sd (va_up Cz 5 ((Cz 5) + ((f_W up dn (va_up dv d y) td n K St Ex Am He Ca sh pr) - (f_W up dn dv td n K St Ex Am He Ca sh pr)))) ab b ++ E) := by
  refine jj_start (cc := cX4_dividend) (nL := 6) (ret := (some .int)) (lv := [(0, .ref (ad 0)), (1, .int (iI (d : Int))), (2, .int (iI y))]) (fun A => jj_Qi _ _ _ _ _ _ A) hEV (by decide) rfl (Nat.le_of_ble_eq_true rfl) rfl ?_
  intro p9 e9 s9 m9 a9 b9 me9 c9 A9 C1 hr hin
  have C0 : jj_C p9 s9 m9 a9 me9 c9 (dC, dI) vwCl A9 6 cX4_dividend "StrikehallModel" lw_U _ EV := jj_toU C1
  have hw := C0.2.2.2.2.1
  refine jj_aload_n C0 0 rfl dX4_dividend_0 ?_
  refine jj_iload_n C0 1 rfl dX4_dividend_1 ?_
  refine jj_i2l C0 (by omega) dX4_dividend_2 ?_
  refine jj_aload_n C0 0 rfl dX4_dividend_3 ?_
  refine jj_get C0 (ci := 5) (v := .int (iI (td : Int))) hin_X4 (0) (rfl) rfl 1 (by decide) (hw _ hU_787) (fun _ h9 => h9) rfl dX4_dividend_4 ?_
  refine jj_iconst C0 dX4_dividend_7 ?_
  refine jj_iadd C0 dX4_dividend_8 ?_
  refine jj_i2l C0 (by omega) dX4_dividend_9 ?_
  refine jj_ldc2 C0 (z := 200) (by decide) (hw _ hU_910) dX4_dividend_10 ?_
  refine jj_callSi C0 (cc_X4_in1 hEV (v := (d : Int)) (lo := ((td : Int) + 1)) (hi := 200) (by omega) (by omega) (by omega) (by omega)) (cwS 3 hw (lw_gS hU_874 hU_875 hU_66 hU_876) rfl rfl rfl (by decide +kernel) ⟨Nat.le_of_ble_eq_true rfl, Nat.le_of_ble_eq_true rfl⟩) rfl rfl (Nat.le_of_ble_eq_true rfl) ⟨by decide, by decide⟩ rfl rfl dX4_dividend_13 ?_
  intro _ hu
  show jj_W _ _ _ _ _ _ _ _ _ _ _ _ _ _ _ _ _ 16 _ [.int (iI 1), .ref (ad 0)] (wM ad cI cJ cZ th td pr up dn dv n K St Ex Am Ov Bi As BL AL He Co Ca mo sh co sd Cz Ab be ++ E)
  refine jj_if_eq C0 (by omega) dX4_dividend_16 (tgt := 35) (by decide) (fun c_1 => absurd c_1 (by omega)) (fun c_1 => ?_)
  refine jj_iload_n C0 2 rfl dX4_dividend_19 ?_
  refine jj_i2l C0 (by omega) dX4_dividend_20 ?_
  refine jj_lconst C0 (z := 0) (by decide) dX4_dividend_21 ?_
  refine jj_ldc2 C0 (z := 1000) (by decide) (hw _ hU_881) dX4_dividend_22 ?_
  refine jj_callSi C0 (cc_X4_in1 hEV (v := y) (lo := 0) (hi := 1000) (by omega) (by omega) (by omega) (by omega)) (cwS 3 hw (lw_gS hU_874 hU_875 hU_66 hU_876) rfl rfl rfl (by decide +kernel) ⟨Nat.le_of_ble_eq_true rfl, Nat.le_of_ble_eq_true rfl⟩) rfl rfl (Nat.le_of_ble_eq_true rfl) ⟨by decide, by decide⟩ rfl rfl dX4_dividend_25 ?_
  intro _ hu
  show jj_W _ _ _ _ _ _ _ _ _ _ _ _ _ _ _ _ _ 28 _ [.int (iI 1), .ref (ad 0)] (wM ad cI cJ cZ th td pr up dn dv n K St Ex Am Ov Bi As BL AL He Co Ca mo sh co sd Cz Ab be ++ E)
  refine jj_if_eq C0 (by omega) dX4_dividend_28 (tgt := 35) (by decide) (fun c_2 => absurd c_2 (by omega)) (fun c_2 => ?_)
  refine jj_iconst C0 dX4_dividend_31 ?_
  refine jj_goto C0 (tgt := 36) dX4_dividend_32 (by decide) ?_
  refine jj_put C0 (ci := 5) (v := .int (iI 0)) (ty := .int) hin_X4 tyX4 tyX4_ok nmX4 (0) (rfl) rfl 0 (by decide) (hw _ hU_786) (fun _ h9 => h9) rfl (by decide +kernel) (rfl) rfl (Nat.le_of_ble_eq_true rfl) (ws' := wM ad cI cJ cZ 0 td pr up dn dv n K St Ex Am Ov Bi As BL AL He Co Ca mo sh co sd Cz Ab be ++ E) (rfl) dX4_dividend_36 ?_
  refine jj_aload_n C0 0 rfl dX4_dividend_39 ?_
  refine jj_get C0 (ci := 5) (v := .int (iI 0)) hin_X4 (0) (rfl) rfl 0 (by decide) (hw _ hU_786) (fun _ h9 => h9) rfl dX4_dividend_40 ?_
  refine jj_if_le C0 (by omega) dX4_dividend_43 (tgt := 48) (by decide) (fun c_3 => ?_) (fun c_3 => absurd c_3 (by omega))
  refine jj_aload_n C0 0 rfl dX4_dividend_48 ?_
  refine jj_aload_n C0 0 rfl dX4_dividend_49 ?_
  refine jj_get C0 (ci := 5) (v := .int (iI pr)) hin_X4 (0) (rfl) rfl 2 (by decide) (hw _ hU_788) (fun _ h9 => h9) rfl dX4_dividend_50 ?_
  refine jj_callVl C0 (cc_X4_worthAt hEV (fr := pr) (fun c hc => Or.inr (hovs c hc)) (by first | exact hexs | omega) (by first | exact hn | omega) (by first | exact htd | omega) (by omega) (by first | exact hup | omega) (by first | exact hdn | omega) (by first | exact hdv | omega) (by first | exact hK | omega) (by first | exact hSt | omega) (by first | exact hEx | omega) (by first | exact hAm | omega) (by first | exact hOv | omega) (by first | exact hHe | omega) (by first | exact hsh | omega)) (cwV 1 hw (lw_gV hU_877 hU_879 hU_42 hU_66 hU_880) rfl rfl rfl (by decide +kernel) ⟨Nat.le_of_ble_eq_true rfl, Nat.le_of_ble_eq_true rfl⟩) (ci := 5) (q0 := 0) rfl (rfl) rfl rfl (Nat.le_of_ble_eq_true rfl) ⟨by decide, by decide⟩ rfl rfl dX4_dividend_53 ?_
  intro u hu
  obtain ⟨ab_4, b_4⟩ := u
  show jj_W _ _ _ _ _ _ _ _ _ _ _ _ _ _ _ _ _ 56 _ [.long (lI (f_W up dn dv td n K St Ex Am He Ca sh pr))] (wM ad cI cJ cZ 0 td pr up dn dv n K St Ex Am Ov Bi As BL AL He Co Ca mo sh co sd Cz ab_4 b_4 ++ E)
  refine jj_lstore_n C0 (i := 3) rfl (lv' := [(3, .long (lI (f_W up dn dv td n K St Ex Am He Ca sh pr))), (0, .ref (ad 0)), (1, .int (iI (d : Int))), (2, .int (iI y))]) (by decide) rfl dX4_dividend_56 ?_
  refine jj_aload_n C0 1 rfl dX4_dividend_57 ?_
  refine jj_get C0 (ci := 5) (v := .ref (ad 1)) hin_X4 (0) (rfl) rfl 5 (by decide) (hw _ hU_791) (fun _ h9 => h9) rfl dX4_dividend_58 ?_
  refine jj_iload_n C0 2 rfl dX4_dividend_61 ?_
  refine jj_iald C0 (q0 := 1) (t0 := 0) (f := dv) (rfl) rfl (k := d) (by omega) (by omega) (by decide) dX4_dividend_62 ?_
  have hb_dv_80545 := hdv d
  refine jj_istore C0 (lv' := [(5, .int (iI (dv d))), (3, .long (lI (f_W up dn dv td n K St Ex Am He Ca sh pr))), (0, .ref (ad 0)), (1, .int (iI (d : Int))), (2, .int (iI y))]) (by decide) rfl dX4_dividend_63 ?_
  refine jj_aload_n C0 2 rfl dX4_dividend_65 ?_
  refine jj_get C0 (ci := 5) (v := .ref (ad 1)) hin_X4 (0) (rfl) rfl 5 (by decide) (hw _ hU_791) (fun _ h9 => h9) rfl dX4_dividend_66 ?_
  refine jj_iload_n C0 3 rfl dX4_dividend_69 ?_
  refine jj_iload_n C0 4 rfl dX4_dividend_70 ?_
  refine jj_iast C0 (q0 := 1) (t0 := 0) (f := dv) (rfl) rfl (k := d) (by omega) (by omega) (by decide) (ws' := wM ad cI cJ cZ 0 td pr up dn (va_up dv d y) n K St Ex Am Ov Bi As BL AL He Co Ca mo sh co sd Cz ab_4 b_4 ++ E) (rfl) dX4_dividend_71 ?_
  refine jj_aload_n C0 2 rfl dX4_dividend_72 ?_
  refine jj_get C0 (ci := 5) (v := .ref (ad 14)) hin_X4 (0) (rfl) rfl 23 (by decide) (hw _ hU_809) (fun _ h9 => h9) rfl dX4_dividend_73 ?_
  refine jj_iconst C0 dX4_dividend_76 ?_
  refine jj_dup2_11 C0 dX4_dividend_77 rfl rfl ?_
  refine jj_lald C0 (q0 := 14) (t0 := 1) (f := Cz) (rfl) rfl (k := 5) (by omega) (by omega) (by decide) dX4_dividend_78 ?_
  refine jj_aload_n C0 2 rfl dX4_dividend_79 ?_
  refine jj_aload_n C0 2 rfl dX4_dividend_80 ?_
  refine jj_get C0 (ci := 5) (v := .int (iI pr)) hin_X4 (0) (rfl) rfl 2 (by decide) (hw _ hU_788) (fun _ h9 => h9) rfl dX4_dividend_81 ?_
  refine jj_callVl C0 (cc_X4_worthAt hEV (fr := pr) (fun c hc => Or.inr (hovs c hc)) (by first | exact hexs | omega) (by first | exact hn | omega) (by first | exact htd | omega) (by omega) (by first | exact hup | omega) (by first | exact hdn | omega) (up_bd hdv hy) (by first | exact hK | omega) (by first | exact hSt | omega) (by first | exact hEx | omega) (by first | exact hAm | omega) (by first | exact hOv | omega) (by first | exact hHe | omega) (by first | exact hsh | omega)) (cwV 1 hw (lw_gV hU_877 hU_879 hU_42 hU_66 hU_880) rfl rfl rfl (by decide +kernel) ⟨Nat.le_of_ble_eq_true rfl, Nat.le_of_ble_eq_true rfl⟩) (ci := 5) (q0 := 0) rfl (rfl) rfl rfl (Nat.le_of_ble_eq_true rfl) ⟨by decide, by decide⟩ rfl rfl dX4_dividend_84 ?_
  intro u hu
  obtain ⟨ab_5, b_5⟩ := u
  show jj_W _ _ _ _ _ _ _ _ _ _ _ _ _ _ _ _ _ 87 _ [.long (lI (f_W up dn (va_up dv d y) td n K St Ex Am He Ca sh pr)), .long (lI (Cz 5)), .int (iI 5), .ref (ad 14)] (wM ad cI cJ cZ 0 td pr up dn (va_up dv d y) n K St Ex Am Ov Bi As BL AL He Co Ca mo sh co sd Cz ab_5 b_5 ++ E)
  refine jj_lload_n C0 1 rfl dX4_dividend_87 ?_
  refine jj_lsub C0 dX4_dividend_88 ?_
  refine jj_ladd C0 dX4_dividend_89 ?_
  refine jj_last C0 (q0 := 14) (t0 := 1) (f := Cz) (rfl) rfl (k := 5) (by omega) (by omega) (by decide) (ws' := wM ad cI cJ cZ 0 td pr up dn (va_up dv d y) n K St Ex Am Ov Bi As BL AL He Co Ca mo sh co sd (va_up Cz 5 ((Cz 5) + ((f_W up dn (va_up dv d y) td n K St Ex Am He Ca sh pr) - (f_W up dn dv td n K St Ex Am He Ca sh pr)))) ab_5 b_5 ++ E) (rfl) dX4_dividend_90 ?_
  refine jj_iload C0 0 rfl dX4_dividend_91 ?_
  exact jj_iret C0 hr (ab_5, b_5) (trivial) (rfl) (rfl) (by decide) (by decide) dX4_dividend_93
set_option maxHeartbeats 4000000 in
set_option maxRecDepth 100000 in
theorem cb_X4_dividend (hEV : jj_EV EV) {x y : Int} {kk : Int} (hx : iR x) (hy : iR y) (htd : td ≤ 200) (hbad : ¬ ((td : Int) + 1 ≤ x ∧ x ≤ 200 ∧ 0 ≤ y ∧ y ≤ 1000) ∧ kk = 1) : jj_Mi EV (dC, dI) vwCl [(cI, .int), (cJ, .long), (cZ, .boolean), (cO, .object "java/lang/Object")] l yX4_dividend (Cond.code yX4_dividend cX4_dividend 6 (some .int) :: lw_U) ({ frames := 1, cells := 0, slots := 0, locals := 25 } : Room) [.ref (ad 0), .int (iI x), .int (iI y)] (wM ad cI cJ cZ th td pr up dn dv n K St Ex Am Ov Bi As BL AL He Co Ca mo sh co sd Cz Ab be ++ E) (S := Int) (fun u => u) (fun u => True) (fun u => wM ad cI cJ cZ kk td pr up dn dv n K St Ex Am Ov Bi As BL AL He Co Ca mo sh co sd Cz Ab be ++ E) := by
  refine jj_start (cc := cX4_dividend) (nL := 6) (ret := (some .int)) (lv := [(0, .ref (ad 0)), (1, .int (iI x)), (2, .int (iI y))]) (fun A => jj_Qi _ _ _ _ _ _ A) hEV (by decide) rfl (Nat.le_of_ble_eq_true rfl) rfl ?_
  intro p9 e9 s9 m9 a9 b9 me9 c9 A9 C1 hr hin
  have C0 : jj_C p9 s9 m9 a9 me9 c9 (dC, dI) vwCl A9 6 cX4_dividend "StrikehallModel" lw_U _ EV := jj_toU C1
  have hw := C0.2.2.2.2.1
  refine jj_aload_n C0 0 rfl dX4_dividend_0 ?_
  refine jj_iload_n C0 1 rfl dX4_dividend_1 ?_
  refine jj_i2l C0 (by omega) dX4_dividend_2 ?_
  refine jj_aload_n C0 0 rfl dX4_dividend_3 ?_
  refine jj_get C0 (ci := 5) (v := .int (iI (td : Int))) hin_X4 (0) (rfl) rfl 1 (by decide) (hw _ hU_787) (fun _ h9 => h9) rfl dX4_dividend_4 ?_
  refine jj_iconst C0 dX4_dividend_7 ?_
  refine jj_iadd C0 dX4_dividend_8 ?_
  refine jj_i2l C0 (by omega) dX4_dividend_9 ?_
  refine jj_ldc2 C0 (z := 200) (by decide) (hw _ hU_910) dX4_dividend_10 ?_
  refine jj_callSi C0 (cc_X4_in hEV (v := x) (lo := ((td : Int) + 1)) (hi := 200) (by omega) (by omega) (by omega)) (cwS 3 hw (lw_gS hU_874 hU_875 hU_66 hU_876) rfl rfl rfl (by decide +kernel) ⟨Nat.le_of_ble_eq_true rfl, Nat.le_of_ble_eq_true rfl⟩) rfl rfl (Nat.le_of_ble_eq_true rfl) ⟨by decide, by decide⟩ rfl rfl dX4_dividend_13 ?_
  intro u_1 hu
  have hu_13 : (u_1 = 1 ∧ ((td : Int) + 1) ≤ x ∧ x ≤ 200) ∨ (u_1 = 0 ∧ (x < ((td : Int) + 1) ∨ 200 < x)) := hu
  show jj_W _ _ _ _ _ _ _ _ _ _ _ _ _ _ _ _ _ 16 _ [.int (iI u_1), .ref (ad 0)] (wM ad cI cJ cZ th td pr up dn dv n K St Ex Am Ov Bi As BL AL He Co Ca mo sh co sd Cz Ab be ++ E)
  refine jj_if_eq C0 (by omega) dX4_dividend_16 (tgt := 35) (by decide) (fun c_2 => ?_) (fun c_2 => ?_)
  · refine jj_iconst C0 dX4_dividend_35 ?_
    refine jj_put C0 (ci := 5) (v := .int (iI 1)) (ty := .int) hin_X4 tyX4 tyX4_ok nmX4 (0) (rfl) rfl 0 (by decide) (hw _ hU_786) (fun _ h9 => h9) rfl (by decide +kernel) (rfl) rfl (Nat.le_of_ble_eq_true rfl) (ws' := wM ad cI cJ cZ 1 td pr up dn dv n K St Ex Am Ov Bi As BL AL He Co Ca mo sh co sd Cz Ab be ++ E) (rfl) dX4_dividend_36 ?_
    refine jj_aload_n C0 0 rfl dX4_dividend_39 ?_
    refine jj_get C0 (ci := 5) (v := .int (iI 1)) hin_X4 (0) (rfl) rfl 0 (by decide) (hw _ hU_786) (fun _ h9 => h9) rfl dX4_dividend_40 ?_
    refine jj_if_le C0 (by omega) dX4_dividend_43 (tgt := 48) (by decide) (fun c_3 => absurd c_3 (by omega)) (fun c_3 => ?_)
    refine jj_iconst C0 dX4_dividend_46 ?_
    obtain rfl : kk = 1 := by omega
    exact jj_iret C0 hr 0 (trivial) (rfl) (rfl) (by decide) (by decide) dX4_dividend_47
  · refine jj_iload_n C0 2 rfl dX4_dividend_19 ?_
    refine jj_i2l C0 (by omega) dX4_dividend_20 ?_
    refine jj_lconst C0 (z := 0) (by decide) dX4_dividend_21 ?_
    refine jj_ldc2 C0 (z := 1000) (by decide) (hw _ hU_881) dX4_dividend_22 ?_
    refine jj_callSi C0 (cc_X4_in hEV (v := y) (lo := 0) (hi := 1000) (by omega) (by omega) (by omega)) (cwS 3 hw (lw_gS hU_874 hU_875 hU_66 hU_876) rfl rfl rfl (by decide +kernel) ⟨Nat.le_of_ble_eq_true rfl, Nat.le_of_ble_eq_true rfl⟩) rfl rfl (Nat.le_of_ble_eq_true rfl) ⟨by decide, by decide⟩ rfl rfl dX4_dividend_25 ?_
    intro u_4 hu
    have hu_25 : (u_4 = 1 ∧ 0 ≤ y ∧ y ≤ 1000) ∨ (u_4 = 0 ∧ (y < 0 ∨ 1000 < y)) := hu
    show jj_W _ _ _ _ _ _ _ _ _ _ _ _ _ _ _ _ _ 28 _ [.int (iI u_4), .ref (ad 0)] (wM ad cI cJ cZ th td pr up dn dv n K St Ex Am Ov Bi As BL AL He Co Ca mo sh co sd Cz Ab be ++ E)
    refine jj_if_eq C0 (by omega) dX4_dividend_28 (tgt := 35) (by decide) (fun c_5 => ?_) (fun c_5 => ?_)
    · refine jj_iconst C0 dX4_dividend_35 ?_
      refine jj_put C0 (ci := 5) (v := .int (iI 1)) (ty := .int) hin_X4 tyX4 tyX4_ok nmX4 (0) (rfl) rfl 0 (by decide) (hw _ hU_786) (fun _ h9 => h9) rfl (by decide +kernel) (rfl) rfl (Nat.le_of_ble_eq_true rfl) (ws' := wM ad cI cJ cZ 1 td pr up dn dv n K St Ex Am Ov Bi As BL AL He Co Ca mo sh co sd Cz Ab be ++ E) (rfl) dX4_dividend_36 ?_
      refine jj_aload_n C0 0 rfl dX4_dividend_39 ?_
      refine jj_get C0 (ci := 5) (v := .int (iI 1)) hin_X4 (0) (rfl) rfl 0 (by decide) (hw _ hU_786) (fun _ h9 => h9) rfl dX4_dividend_40 ?_
      refine jj_if_le C0 (by omega) dX4_dividend_43 (tgt := 48) (by decide) (fun c_6 => absurd c_6 (by omega)) (fun c_6 => ?_)
      refine jj_iconst C0 dX4_dividend_46 ?_
      obtain rfl : kk = 1 := by omega
      exact jj_iret C0 hr 0 (trivial) (rfl) (rfl) (by decide) (by decide) dX4_dividend_47
    · refine jj_iconst C0 dX4_dividend_31 ?_
      refine jj_goto C0 (tgt := 36) dX4_dividend_32 (by decide) ?_
      refine jj_put C0 (ci := 5) (v := .int (iI 0)) (ty := .int) hin_X4 tyX4 tyX4_ok nmX4 (0) (rfl) rfl 0 (by decide) (hw _ hU_786) (fun _ h9 => h9) rfl (by decide +kernel) (rfl) rfl (Nat.le_of_ble_eq_true rfl) (ws' := wM ad cI cJ cZ 0 td pr up dn dv n K St Ex Am Ov Bi As BL AL He Co Ca mo sh co sd Cz Ab be ++ E) (rfl) dX4_dividend_36 ?_
      refine jj_aload_n C0 0 rfl dX4_dividend_39 ?_
      refine jj_get C0 (ci := 5) (v := .int (iI 0)) hin_X4 (0) (rfl) rfl 0 (by decide) (hw _ hU_786) (fun _ h9 => h9) rfl dX4_dividend_40 ?_
      refine jj_if_le C0 (by omega) dX4_dividend_43 (tgt := 48) (by decide) (fun c_7 => ?_) (fun c_7 => absurd c_7 (by omega))
      exfalso
      omega
set_option maxHeartbeats 4000000 in
set_option maxRecDepth 100000 in
theorem cc_X4_contract (hEV : jj_EV EV) {x y z v : Int} (hx : 0 ≤ x ∧ x ≤ 1) (hy : 0 ≤ y ∧ y ≤ 20000) (hz : (td : Int) ≤ z ∧ z ≤ (td : Int) + 10 ∧ z ≤ 200) (hv : v = 0 ∨ v = 1) (hnn : n < 12) (htd : td ≤ 200) : jj_Mi EV (dC, dI) vwCl [(cI, .int), (cJ, .long), (cZ, .boolean), (cO, .object "java/lang/Object")] l yX4_contract (Cond.code yX4_contract cX4_contract 6 (some .int) :: lw_U) ({ frames := 1, cells := 0, slots := 0, locals := 25 } : Room) [.ref (ad 0), .int (iI x), .int (iI y), .int (iI z), .int (iI v)] (wM ad cI cJ cZ th td pr up dn dv n K St Ex Am Ov Bi As BL AL He Co Ca mo sh co sd Cz Ab be ++ E) (S := Unit) (fun _ => (n : Int)) (fun _ => True) (fun _ => wM ad cI cJ cZ 0 td pr up dn dv (n + 1) (va_up K n x) (va_up St n y) (va_up Ex n z) (va_up Am n v) Ov Bi As BL AL He Co Ca mo sh co sd Cz Ab be ++ E) := by
  refine jj_start (cc := cX4_contract) (nL := 6) (ret := (some .int)) (lv := [(0, .ref (ad 0)), (1, .int (iI x)), (2, .int (iI y)), (3, .int (iI z)), (4, .int (iI v))]) (fun A => jj_Qi _ _ _ _ _ _ A) hEV (by decide) rfl (Nat.le_of_ble_eq_true rfl) rfl ?_
  intro p9 e9 s9 m9 a9 b9 me9 c9 A9 C1 hr hin
  have C0 : jj_C p9 s9 m9 a9 me9 c9 (dC, dI) vwCl A9 6 cX4_contract "StrikehallModel" lw_U _ EV := jj_toU C1
  have hw := C0.2.2.2.2.1
  refine jj_iload_n C0 1 rfl dX4_contract_0 ?_
  refine jj_i2l C0 (by omega) dX4_contract_1 ?_
  refine jj_lconst C0 (z := 0) (by decide) dX4_contract_2 ?_
  refine jj_lconst C0 (z := 1) (by decide) dX4_contract_3 ?_
  refine jj_callSi C0 (cc_X4_in1 hEV (v := x) (lo := 0) (hi := 1) (by omega) (by omega) (by omega) (by omega)) (cwS 3 hw (lw_gS hU_874 hU_875 hU_66 hU_876) rfl rfl rfl (by decide +kernel) ⟨Nat.le_of_ble_eq_true rfl, Nat.le_of_ble_eq_true rfl⟩) rfl rfl (Nat.le_of_ble_eq_true rfl) ⟨by decide, by decide⟩ rfl rfl dX4_contract_4 ?_
  intro _ hu
  show jj_W _ _ _ _ _ _ _ _ _ _ _ _ _ _ _ _ _ 7 _ [.int (iI 1)] (wM ad cI cJ cZ th td pr up dn dv n K St Ex Am Ov Bi As BL AL He Co Ca mo sh co sd Cz Ab be ++ E)
  refine jj_if_eq C0 (by omega) dX4_contract_7 (tgt := 54) (by decide) (fun c_1 => absurd c_1 (by omega)) (fun c_1 => ?_)
  refine jj_iload_n C0 2 rfl dX4_contract_10 ?_
  refine jj_i2l C0 (by omega) dX4_contract_11 ?_
  refine jj_lconst C0 (z := 0) (by decide) dX4_contract_12 ?_
  refine jj_ldc2 C0 (z := 20000) (by decide) (hw _ hU_905) dX4_contract_13 ?_
  refine jj_callSi C0 (cc_X4_in1 hEV (v := y) (lo := 0) (hi := 20000) (by omega) (by omega) (by omega) (by omega)) (cwS 3 hw (lw_gS hU_874 hU_875 hU_66 hU_876) rfl rfl rfl (by decide +kernel) ⟨Nat.le_of_ble_eq_true rfl, Nat.le_of_ble_eq_true rfl⟩) rfl rfl (Nat.le_of_ble_eq_true rfl) ⟨by decide, by decide⟩ rfl rfl dX4_contract_16 ?_
  intro _ hu
  show jj_W _ _ _ _ _ _ _ _ _ _ _ _ _ _ _ _ _ 19 _ [.int (iI 1)] (wM ad cI cJ cZ th td pr up dn dv n K St Ex Am Ov Bi As BL AL He Co Ca mo sh co sd Cz Ab be ++ E)
  refine jj_if_eq C0 (by omega) dX4_contract_19 (tgt := 54) (by decide) (fun c_2 => absurd c_2 (by omega)) (fun c_2 => ?_)
  refine jj_iload_n C0 3 rfl dX4_contract_22 ?_
  refine jj_i2l C0 (by omega) dX4_contract_23 ?_
  refine jj_aload_n C0 0 rfl dX4_contract_24 ?_
  refine jj_get C0 (ci := 5) (v := .int (iI (td : Int))) hin_X4 (0) (rfl) rfl 1 (by decide) (hw _ hU_787) (fun _ h9 => h9) rfl dX4_contract_25 ?_
  refine jj_i2l C0 (by omega) dX4_contract_28 ?_
  refine jj_aload_n C0 0 rfl dX4_contract_29 ?_
  refine jj_get C0 (ci := 5) (v := .int (iI (td : Int))) hin_X4 (0) (rfl) rfl 1 (by decide) (hw _ hU_787) (fun _ h9 => h9) rfl dX4_contract_30 ?_
  refine jj_bipush C0 dX4_contract_33 (by decide) ?_
  refine jj_iadd C0 dX4_contract_35 ?_
  refine jj_i2l C0 (by omega) dX4_contract_36 ?_
  refine jj_callSi C0 (cc_X4_in1 hEV (v := z) (lo := (td : Int)) (hi := ((td : Int) + 10)) (by omega) (by omega) (by omega) (by omega)) (cwS 3 hw (lw_gS hU_874 hU_875 hU_66 hU_876) rfl rfl rfl (by decide +kernel) ⟨Nat.le_of_ble_eq_true rfl, Nat.le_of_ble_eq_true rfl⟩) rfl rfl (Nat.le_of_ble_eq_true rfl) ⟨by decide, by decide⟩ rfl rfl dX4_contract_37 ?_
  intro _ hu
  show jj_W _ _ _ _ _ _ _ _ _ _ _ _ _ _ _ _ _ 40 _ [.int (iI 1)] (wM ad cI cJ cZ th td pr up dn dv n K St Ex Am Ov Bi As BL AL He Co Ca mo sh co sd Cz Ab be ++ E)
  refine jj_if_eq C0 (by omega) dX4_contract_40 (tgt := 54) (by decide) (fun c_3 => absurd c_3 (by omega)) (fun c_3 => ?_)
  refine jj_iload_n C0 3 rfl dX4_contract_43 ?_
  refine jj_sipush C0 dX4_contract_44 (by decide) ?_
  refine jj_icmp_gt C0 (by omega) (by omega) dX4_contract_47 (tgt := 54) (by decide) (fun c_4 => absurd c_4 (by omega)) (fun c_4 => ?_)
  refine jj_iconst C0 dX4_contract_50 ?_
  refine jj_goto C0 (tgt := 55) dX4_contract_51 (by decide) ?_
  refine jj_istore C0 (lv' := [(5, .int (iI 1)), (0, .ref (ad 0)), (1, .int (iI x)), (2, .int (iI y)), (3, .int (iI z)), (4, .int (iI v))]) (by decide) rfl dX4_contract_55 ?_
  refine jj_aload_n C0 1 rfl dX4_contract_57 ?_
  refine jj_iload C0 0 rfl dX4_contract_58 ?_
  refine jj_if_ne C0 (by omega) dX4_contract_60 (tgt := 67) (by decide) (fun c_5 => ?_) (fun c_5 => absurd c_5 (by omega))
  refine jj_aload_n C0 1 rfl dX4_contract_67 ?_
  refine jj_get C0 (ci := 5) (v := .int (iI (n : Int))) hin_X4 (0) (rfl) rfl 6 (by decide) (hw _ hU_792) (fun _ h9 => h9) rfl dX4_contract_68 ?_
  refine jj_bipush C0 dX4_contract_71 (by decide) ?_
  refine jj_icmp_ne C0 (by omega) (by omega) dX4_contract_73 (tgt := 80) (by decide) (fun c_6 => ?_) (fun c_6 => absurd c_6 (by omega))
  refine jj_iconst C0 dX4_contract_80 ?_
  refine jj_put C0 (ci := 5) (v := .int (iI 0)) (ty := .int) hin_X4 tyX4 tyX4_ok nmX4 (0) (rfl) rfl 0 (by decide) (hw _ hU_786) (fun _ h9 => h9) rfl (by decide +kernel) (rfl) rfl (Nat.le_of_ble_eq_true rfl) (ws' := wM ad cI cJ cZ 0 td pr up dn dv n K St Ex Am Ov Bi As BL AL He Co Ca mo sh co sd Cz Ab be ++ E) (rfl) dX4_contract_81 ?_
  refine jj_aload_n C0 1 rfl dX4_contract_84 ?_
  refine jj_get C0 (ci := 5) (v := .int (iI 0)) hin_X4 (0) (rfl) rfl 0 (by decide) (hw _ hU_786) (fun _ h9 => h9) rfl dX4_contract_85 ?_
  refine jj_if_le C0 (by omega) dX4_contract_88 (tgt := 93) (by decide) (fun c_7 => ?_) (fun c_7 => absurd c_7 (by omega))
  refine jj_aload_n C0 1 rfl dX4_contract_93 ?_
  refine jj_get C0 (ci := 5) (v := .ref (ad 2)) hin_X4 (0) (rfl) rfl 7 (by decide) (hw _ hU_793) (fun _ h9 => h9) rfl dX4_contract_94 ?_
  refine jj_aload_n C0 1 rfl dX4_contract_97 ?_
  refine jj_get C0 (ci := 5) (v := .int (iI (n : Int))) hin_X4 (0) (rfl) rfl 6 (by decide) (hw _ hU_792) (fun _ h9 => h9) rfl dX4_contract_98 ?_
  refine jj_iload_n C0 2 rfl dX4_contract_101 ?_
  refine jj_iast C0 (q0 := 2) (t0 := 0) (f := K) (rfl) rfl (k := n) (by omega) (by omega) (by decide) (ws' := wM ad cI cJ cZ 0 td pr up dn dv n (va_up K n x) St Ex Am Ov Bi As BL AL He Co Ca mo sh co sd Cz Ab be ++ E) (rfl) dX4_contract_102 ?_
  refine jj_aload_n C0 1 rfl dX4_contract_103 ?_
  refine jj_get C0 (ci := 5) (v := .ref (ad 3)) hin_X4 (0) (rfl) rfl 8 (by decide) (hw _ hU_794) (fun _ h9 => h9) rfl dX4_contract_104 ?_
  refine jj_aload_n C0 1 rfl dX4_contract_107 ?_
  refine jj_get C0 (ci := 5) (v := .int (iI (n : Int))) hin_X4 (0) (rfl) rfl 6 (by decide) (hw _ hU_792) (fun _ h9 => h9) rfl dX4_contract_108 ?_
  refine jj_iload_n C0 3 rfl dX4_contract_111 ?_
  refine jj_iast C0 (q0 := 3) (t0 := 0) (f := St) (rfl) rfl (k := n) (by omega) (by omega) (by decide) (ws' := wM ad cI cJ cZ 0 td pr up dn dv n (va_up K n x) (va_up St n y) Ex Am Ov Bi As BL AL He Co Ca mo sh co sd Cz Ab be ++ E) (rfl) dX4_contract_112 ?_
  refine jj_aload_n C0 1 rfl dX4_contract_113 ?_
  refine jj_get C0 (ci := 5) (v := .ref (ad 4)) hin_X4 (0) (rfl) rfl 9 (by decide) (hw _ hU_795) (fun _ h9 => h9) rfl dX4_contract_114 ?_
  refine jj_aload_n C0 1 rfl dX4_contract_117 ?_
  refine jj_get C0 (ci := 5) (v := .int (iI (n : Int))) hin_X4 (0) (rfl) rfl 6 (by decide) (hw _ hU_792) (fun _ h9 => h9) rfl dX4_contract_118 ?_
  refine jj_iload_n C0 4 rfl dX4_contract_121 ?_
  refine jj_iast C0 (q0 := 4) (t0 := 0) (f := Ex) (rfl) rfl (k := n) (by omega) (by omega) (by decide) (ws' := wM ad cI cJ cZ 0 td pr up dn dv n (va_up K n x) (va_up St n y) (va_up Ex n z) Am Ov Bi As BL AL He Co Ca mo sh co sd Cz Ab be ++ E) (rfl) dX4_contract_122 ?_
  refine jj_aload_n C0 1 rfl dX4_contract_123 ?_
  refine jj_get C0 (ci := 5) (v := .ref (ad 5)) hin_X4 (0) (rfl) rfl 10 (by decide) (hw _ hU_796) (fun _ h9 => h9) rfl dX4_contract_124 ?_
  refine jj_aload_n C0 1 rfl dX4_contract_127 ?_
  refine jj_get C0 (ci := 5) (v := .int (iI (n : Int))) hin_X4 (0) (rfl) rfl 6 (by decide) (hw _ hU_792) (fun _ h9 => h9) rfl dX4_contract_128 ?_
  refine jj_iload C0 5 rfl dX4_contract_131 ?_
  refine jj_zast C0 (q0 := 5) (t0 := 2) (f := Am) (rfl) rfl (k := n) (by omega) (by omega) (by decide) (by omega) (ws' := wM ad cI cJ cZ 0 td pr up dn dv n (va_up K n x) (va_up St n y) (va_up Ex n z) (va_up Am n v) Ov Bi As BL AL He Co Ca mo sh co sd Cz Ab be ++ E) (rfl) dX4_contract_133 ?_
  refine jj_aload_n C0 1 rfl dX4_contract_134 ?_
  refine jj_dup C0 dX4_contract_135 rfl ?_
  refine jj_get C0 (ci := 5) (v := .int (iI (n : Int))) hin_X4 (0) (rfl) rfl 6 (by decide) (hw _ hU_792) (fun _ h9 => h9) rfl dX4_contract_136 ?_
  refine jj_iconst C0 dX4_contract_139 ?_
  refine jj_iadd C0 dX4_contract_140 ?_
  refine jj_topi (b := ((n + 1 : Nat) : Int)) (by omega) ?_
  refine jj_put C0 (ci := 5) (v := .int (iI ((n + 1 : Nat) : Int))) (ty := .int) hin_X4 tyX4 tyX4_ok nmX4 (0) (rfl) rfl 6 (by decide) (hw _ hU_792) (fun _ h9 => h9) rfl (by decide +kernel) (rfl) rfl (Nat.le_of_ble_eq_true rfl) (ws' := wM ad cI cJ cZ 0 td pr up dn dv (n + 1) (va_up K n x) (va_up St n y) (va_up Ex n z) (va_up Am n v) Ov Bi As BL AL He Co Ca mo sh co sd Cz Ab be ++ E) (rfl) dX4_contract_141 ?_
  refine jj_aload_n C0 1 rfl dX4_contract_144 ?_
  refine jj_get C0 (ci := 5) (v := .int (iI ((n + 1) : Int))) hin_X4 (0) (rfl) rfl 6 (by decide) (hw _ hU_792) (fun _ h9 => h9) rfl dX4_contract_145 ?_
  refine jj_iconst C0 dX4_contract_148 ?_
  refine jj_isub C0 dX4_contract_149 ?_
  exact jj_iret C0 hr () (trivial) (by omega) (rfl) (by decide) (by decide) dX4_contract_150
set_option maxHeartbeats 4000000 in
set_option maxRecDepth 100000 in
theorem cb_X4_contract (hEV : jj_EV EV) {x y z v : Int} {kk : Int} (hx : iR x) (hy : iR y) (hz : iR z) (hv : iR v) (htd : td ≤ 200) (hn : n ≤ 12) (hbad : (¬ (0 ≤ x ∧ x ≤ 1 ∧ 0 ≤ y ∧ y ≤ 20000 ∧ (td : Int) ≤ z ∧ z ≤ (td : Int) + 10 ∧ z ≤ 200) ∧ kk = 1) ∨ ((0 ≤ x ∧ x ≤ 1 ∧ 0 ≤ y ∧ y ≤ 20000 ∧ (td : Int) ≤ z ∧ z ≤ (td : Int) + 10 ∧ z ≤ 200) ∧ n = 12 ∧ kk = 2)) : jj_Mi EV (dC, dI) vwCl [(cI, .int), (cJ, .long), (cZ, .boolean), (cO, .object "java/lang/Object")] l yX4_contract (Cond.code yX4_contract cX4_contract 6 (some .int) :: lw_U) ({ frames := 1, cells := 0, slots := 0, locals := 25 } : Room) [.ref (ad 0), .int (iI x), .int (iI y), .int (iI z), .int (iI v)] (wM ad cI cJ cZ th td pr up dn dv n K St Ex Am Ov Bi As BL AL He Co Ca mo sh co sd Cz Ab be ++ E) (S := Int) (fun u => u) (fun u => True) (fun u => wM ad cI cJ cZ kk td pr up dn dv n K St Ex Am Ov Bi As BL AL He Co Ca mo sh co sd Cz Ab be ++ E) := by
  refine jj_start (cc := cX4_contract) (nL := 6) (ret := (some .int)) (lv := [(0, .ref (ad 0)), (1, .int (iI x)), (2, .int (iI y)), (3, .int (iI z)), (4, .int (iI v))]) (fun A => jj_Qi _ _ _ _ _ _ A) hEV (by decide) rfl (Nat.le_of_ble_eq_true rfl) rfl ?_
  intro p9 e9 s9 m9 a9 b9 me9 c9 A9 C1 hr hin
  have C0 : jj_C p9 s9 m9 a9 me9 c9 (dC, dI) vwCl A9 6 cX4_contract "StrikehallModel" lw_U _ EV := jj_toU C1
  have hw := C0.2.2.2.2.1
  refine jj_iload_n C0 1 rfl dX4_contract_0 ?_
  refine jj_i2l C0 (by omega) dX4_contract_1 ?_
  refine jj_lconst C0 (z := 0) (by decide) dX4_contract_2 ?_
  refine jj_lconst C0 (z := 1) (by decide) dX4_contract_3 ?_
  refine jj_callSi C0 (cc_X4_in hEV (v := x) (lo := 0) (hi := 1) (by omega) (by omega) (by omega)) (cwS 3 hw (lw_gS hU_874 hU_875 hU_66 hU_876) rfl rfl rfl (by decide +kernel) ⟨Nat.le_of_ble_eq_true rfl, Nat.le_of_ble_eq_true rfl⟩) rfl rfl (Nat.le_of_ble_eq_true rfl) ⟨by decide, by decide⟩ rfl rfl dX4_contract_4 ?_
  intro u_1 hu
  have hu_4 : (u_1 = 1 ∧ 0 ≤ x ∧ x ≤ 1) ∨ (u_1 = 0 ∧ (x < 0 ∨ 1 < x)) := hu
  show jj_W _ _ _ _ _ _ _ _ _ _ _ _ _ _ _ _ _ 7 _ [.int (iI u_1)] (wM ad cI cJ cZ th td pr up dn dv n K St Ex Am Ov Bi As BL AL He Co Ca mo sh co sd Cz Ab be ++ E)
  refine jj_if_eq C0 (by omega) dX4_contract_7 (tgt := 54) (by decide) (fun c_2 => ?_) (fun c_2 => ?_)
  · refine jj_iconst C0 dX4_contract_54 ?_
    refine jj_istore C0 (lv' := [(5, .int (iI 0)), (0, .ref (ad 0)), (1, .int (iI x)), (2, .int (iI y)), (3, .int (iI z)), (4, .int (iI v))]) (by decide) rfl dX4_contract_55 ?_
    refine jj_aload_n C0 1 rfl dX4_contract_57 ?_
    refine jj_iload C0 0 rfl dX4_contract_58 ?_
    refine jj_if_ne C0 (by omega) dX4_contract_60 (tgt := 67) (by decide) (fun c_3 => absurd c_3 (by omega)) (fun c_3 => ?_)
    refine jj_iconst C0 dX4_contract_63 ?_
    refine jj_goto C0 (tgt := 81) dX4_contract_64 (by decide) ?_
    refine jj_put C0 (ci := 5) (v := .int (iI 1)) (ty := .int) hin_X4 tyX4 tyX4_ok nmX4 (0) (rfl) rfl 0 (by decide) (hw _ hU_786) (fun _ h9 => h9) rfl (by decide +kernel) (rfl) rfl (Nat.le_of_ble_eq_true rfl) (ws' := wM ad cI cJ cZ 1 td pr up dn dv n K St Ex Am Ov Bi As BL AL He Co Ca mo sh co sd Cz Ab be ++ E) (rfl) dX4_contract_81 ?_
    refine jj_aload_n C0 1 rfl dX4_contract_84 ?_
    refine jj_get C0 (ci := 5) (v := .int (iI 1)) hin_X4 (0) (rfl) rfl 0 (by decide) (hw _ hU_786) (fun _ h9 => h9) rfl dX4_contract_85 ?_
    refine jj_if_le C0 (by omega) dX4_contract_88 (tgt := 93) (by decide) (fun c_4 => absurd c_4 (by omega)) (fun c_4 => ?_)
    refine jj_iconst C0 dX4_contract_91 ?_
    obtain rfl : kk = 1 := by omega
    exact jj_iret C0 hr 0 (trivial) (rfl) (rfl) (by decide) (by decide) dX4_contract_92
  · refine jj_iload_n C0 2 rfl dX4_contract_10 ?_
    refine jj_i2l C0 (by omega) dX4_contract_11 ?_
    refine jj_lconst C0 (z := 0) (by decide) dX4_contract_12 ?_
    refine jj_ldc2 C0 (z := 20000) (by decide) (hw _ hU_905) dX4_contract_13 ?_
    refine jj_callSi C0 (cc_X4_in hEV (v := y) (lo := 0) (hi := 20000) (by omega) (by omega) (by omega)) (cwS 3 hw (lw_gS hU_874 hU_875 hU_66 hU_876) rfl rfl rfl (by decide +kernel) ⟨Nat.le_of_ble_eq_true rfl, Nat.le_of_ble_eq_true rfl⟩) rfl rfl (Nat.le_of_ble_eq_true rfl) ⟨by decide, by decide⟩ rfl rfl dX4_contract_16 ?_
    intro u_5 hu
    have hu_16 : (u_5 = 1 ∧ 0 ≤ y ∧ y ≤ 20000) ∨ (u_5 = 0 ∧ (y < 0 ∨ 20000 < y)) := hu
    show jj_W _ _ _ _ _ _ _ _ _ _ _ _ _ _ _ _ _ 19 _ [.int (iI u_5)] (wM ad cI cJ cZ th td pr up dn dv n K St Ex Am Ov Bi As BL AL He Co Ca mo sh co sd Cz Ab be ++ E)
    refine jj_if_eq C0 (by omega) dX4_contract_19 (tgt := 54) (by decide) (fun c_6 => ?_) (fun c_6 => ?_)
    · refine jj_iconst C0 dX4_contract_54 ?_
      refine jj_istore C0 (lv' := [(5, .int (iI 0)), (0, .ref (ad 0)), (1, .int (iI x)), (2, .int (iI y)), (3, .int (iI z)), (4, .int (iI v))]) (by decide) rfl dX4_contract_55 ?_
      refine jj_aload_n C0 1 rfl dX4_contract_57 ?_
      refine jj_iload C0 0 rfl dX4_contract_58 ?_
      refine jj_if_ne C0 (by omega) dX4_contract_60 (tgt := 67) (by decide) (fun c_7 => absurd c_7 (by omega)) (fun c_7 => ?_)
      refine jj_iconst C0 dX4_contract_63 ?_
      refine jj_goto C0 (tgt := 81) dX4_contract_64 (by decide) ?_
      refine jj_put C0 (ci := 5) (v := .int (iI 1)) (ty := .int) hin_X4 tyX4 tyX4_ok nmX4 (0) (rfl) rfl 0 (by decide) (hw _ hU_786) (fun _ h9 => h9) rfl (by decide +kernel) (rfl) rfl (Nat.le_of_ble_eq_true rfl) (ws' := wM ad cI cJ cZ 1 td pr up dn dv n K St Ex Am Ov Bi As BL AL He Co Ca mo sh co sd Cz Ab be ++ E) (rfl) dX4_contract_81 ?_
      refine jj_aload_n C0 1 rfl dX4_contract_84 ?_
      refine jj_get C0 (ci := 5) (v := .int (iI 1)) hin_X4 (0) (rfl) rfl 0 (by decide) (hw _ hU_786) (fun _ h9 => h9) rfl dX4_contract_85 ?_
      refine jj_if_le C0 (by omega) dX4_contract_88 (tgt := 93) (by decide) (fun c_8 => absurd c_8 (by omega)) (fun c_8 => ?_)
      refine jj_iconst C0 dX4_contract_91 ?_
      obtain rfl : kk = 1 := by omega
      exact jj_iret C0 hr 0 (trivial) (rfl) (rfl) (by decide) (by decide) dX4_contract_92
    · refine jj_iload_n C0 3 rfl dX4_contract_22 ?_
      refine jj_i2l C0 (by omega) dX4_contract_23 ?_
      refine jj_aload_n C0 0 rfl dX4_contract_24 ?_
      refine jj_get C0 (ci := 5) (v := .int (iI (td : Int))) hin_X4 (0) (rfl) rfl 1 (by decide) (hw _ hU_787) (fun _ h9 => h9) rfl dX4_contract_25 ?_
      refine jj_i2l C0 (by omega) dX4_contract_28 ?_
      refine jj_aload_n C0 0 rfl dX4_contract_29 ?_
      refine jj_get C0 (ci := 5) (v := .int (iI (td : Int))) hin_X4 (0) (rfl) rfl 1 (by decide) (hw _ hU_787) (fun _ h9 => h9) rfl dX4_contract_30 ?_
      refine jj_bipush C0 dX4_contract_33 (by decide) ?_
      refine jj_iadd C0 dX4_contract_35 ?_
      refine jj_i2l C0 (by omega) dX4_contract_36 ?_
      refine jj_callSi C0 (cc_X4_in hEV (v := z) (lo := (td : Int)) (hi := ((td : Int) + 10)) (by omega) (by omega) (by omega)) (cwS 3 hw (lw_gS hU_874 hU_875 hU_66 hU_876) rfl rfl rfl (by decide +kernel) ⟨Nat.le_of_ble_eq_true rfl, Nat.le_of_ble_eq_true rfl⟩) rfl rfl (Nat.le_of_ble_eq_true rfl) ⟨by decide, by decide⟩ rfl rfl dX4_contract_37 ?_
      intro u_9 hu
      have hu_37 : (u_9 = 1 ∧ (td : Int) ≤ z ∧ z ≤ ((td : Int) + 10)) ∨ (u_9 = 0 ∧ (z < (td : Int) ∨ ((td : Int) + 10) < z)) := hu
      show jj_W _ _ _ _ _ _ _ _ _ _ _ _ _ _ _ _ _ 40 _ [.int (iI u_9)] (wM ad cI cJ cZ th td pr up dn dv n K St Ex Am Ov Bi As BL AL He Co Ca mo sh co sd Cz Ab be ++ E)
      refine jj_if_eq C0 (by omega) dX4_contract_40 (tgt := 54) (by decide) (fun c_10 => ?_) (fun c_10 => ?_)
      · refine jj_iconst C0 dX4_contract_54 ?_
        refine jj_istore C0 (lv' := [(5, .int (iI 0)), (0, .ref (ad 0)), (1, .int (iI x)), (2, .int (iI y)), (3, .int (iI z)), (4, .int (iI v))]) (by decide) rfl dX4_contract_55 ?_
        refine jj_aload_n C0 1 rfl dX4_contract_57 ?_
        refine jj_iload C0 0 rfl dX4_contract_58 ?_
        refine jj_if_ne C0 (by omega) dX4_contract_60 (tgt := 67) (by decide) (fun c_11 => absurd c_11 (by omega)) (fun c_11 => ?_)
        refine jj_iconst C0 dX4_contract_63 ?_
        refine jj_goto C0 (tgt := 81) dX4_contract_64 (by decide) ?_
        refine jj_put C0 (ci := 5) (v := .int (iI 1)) (ty := .int) hin_X4 tyX4 tyX4_ok nmX4 (0) (rfl) rfl 0 (by decide) (hw _ hU_786) (fun _ h9 => h9) rfl (by decide +kernel) (rfl) rfl (Nat.le_of_ble_eq_true rfl) (ws' := wM ad cI cJ cZ 1 td pr up dn dv n K St Ex Am Ov Bi As BL AL He Co Ca mo sh co sd Cz Ab be ++ E) (rfl) dX4_contract_81 ?_
        refine jj_aload_n C0 1 rfl dX4_contract_84 ?_
        refine jj_get C0 (ci := 5) (v := .int (iI 1)) hin_X4 (0) (rfl) rfl 0 (by decide) (hw _ hU_786) (fun _ h9 => h9) rfl dX4_contract_85 ?_
        refine jj_if_le C0 (by omega) dX4_contract_88 (tgt := 93) (by decide) (fun c_12 => absurd c_12 (by omega)) (fun c_12 => ?_)
        refine jj_iconst C0 dX4_contract_91 ?_
        obtain rfl : kk = 1 := by omega
        exact jj_iret C0 hr 0 (trivial) (rfl) (rfl) (by decide) (by decide) dX4_contract_92
      · refine jj_iload_n C0 3 rfl dX4_contract_43 ?_
        refine jj_sipush C0 dX4_contract_44 (by decide) ?_
        refine jj_icmp_gt C0 (by omega) (by omega) dX4_contract_47 (tgt := 54) (by decide) (fun c_13 => ?_) (fun c_13 => ?_)
        · refine jj_iconst C0 dX4_contract_54 ?_
          refine jj_istore C0 (lv' := [(5, .int (iI 0)), (0, .ref (ad 0)), (1, .int (iI x)), (2, .int (iI y)), (3, .int (iI z)), (4, .int (iI v))]) (by decide) rfl dX4_contract_55 ?_
          refine jj_aload_n C0 1 rfl dX4_contract_57 ?_
          refine jj_iload C0 0 rfl dX4_contract_58 ?_
          refine jj_if_ne C0 (by omega) dX4_contract_60 (tgt := 67) (by decide) (fun c_14 => absurd c_14 (by omega)) (fun c_14 => ?_)
          refine jj_iconst C0 dX4_contract_63 ?_
          refine jj_goto C0 (tgt := 81) dX4_contract_64 (by decide) ?_
          refine jj_put C0 (ci := 5) (v := .int (iI 1)) (ty := .int) hin_X4 tyX4 tyX4_ok nmX4 (0) (rfl) rfl 0 (by decide) (hw _ hU_786) (fun _ h9 => h9) rfl (by decide +kernel) (rfl) rfl (Nat.le_of_ble_eq_true rfl) (ws' := wM ad cI cJ cZ 1 td pr up dn dv n K St Ex Am Ov Bi As BL AL He Co Ca mo sh co sd Cz Ab be ++ E) (rfl) dX4_contract_81 ?_
          refine jj_aload_n C0 1 rfl dX4_contract_84 ?_
          refine jj_get C0 (ci := 5) (v := .int (iI 1)) hin_X4 (0) (rfl) rfl 0 (by decide) (hw _ hU_786) (fun _ h9 => h9) rfl dX4_contract_85 ?_
          refine jj_if_le C0 (by omega) dX4_contract_88 (tgt := 93) (by decide) (fun c_15 => absurd c_15 (by omega)) (fun c_15 => ?_)
          refine jj_iconst C0 dX4_contract_91 ?_
          obtain rfl : kk = 1 := by omega
          exact jj_iret C0 hr 0 (trivial) (rfl) (rfl) (by decide) (by decide) dX4_contract_92
        · refine jj_iconst C0 dX4_contract_50 ?_
          refine jj_goto C0 (tgt := 55) dX4_contract_51 (by decide) ?_
          refine jj_istore C0 (lv' := [(5, .int (iI 1)), (0, .ref (ad 0)), (1, .int (iI x)), (2, .int (iI y)), (3, .int (iI z)), (4, .int (iI v))]) (by decide) rfl dX4_contract_55 ?_
          refine jj_aload_n C0 1 rfl dX4_contract_57 ?_
          refine jj_iload C0 0 rfl dX4_contract_58 ?_
          refine jj_if_ne C0 (by omega) dX4_contract_60 (tgt := 67) (by decide) (fun c_16 => ?_) (fun c_16 => absurd c_16 (by omega))
          refine jj_aload_n C0 1 rfl dX4_contract_67 ?_
          refine jj_get C0 (ci := 5) (v := .int (iI (n : Int))) hin_X4 (0) (rfl) rfl 6 (by decide) (hw _ hU_792) (fun _ h9 => h9) rfl dX4_contract_68 ?_
          refine jj_bipush C0 dX4_contract_71 (by decide) ?_
          refine jj_icmp_ne C0 (by omega) (by omega) dX4_contract_73 (tgt := 80) (by decide) (fun c_17 => ?_) (fun c_17 => ?_)
          · refine jj_iconst C0 dX4_contract_80 ?_
            refine jj_put C0 (ci := 5) (v := .int (iI 0)) (ty := .int) hin_X4 tyX4 tyX4_ok nmX4 (0) (rfl) rfl 0 (by decide) (hw _ hU_786) (fun _ h9 => h9) rfl (by decide +kernel) (rfl) rfl (Nat.le_of_ble_eq_true rfl) (ws' := wM ad cI cJ cZ 0 td pr up dn dv n K St Ex Am Ov Bi As BL AL He Co Ca mo sh co sd Cz Ab be ++ E) (rfl) dX4_contract_81 ?_
            refine jj_aload_n C0 1 rfl dX4_contract_84 ?_
            refine jj_get C0 (ci := 5) (v := .int (iI 0)) hin_X4 (0) (rfl) rfl 0 (by decide) (hw _ hU_786) (fun _ h9 => h9) rfl dX4_contract_85 ?_
            refine jj_if_le C0 (by omega) dX4_contract_88 (tgt := 93) (by decide) (fun c_18 => ?_) (fun c_18 => absurd c_18 (by omega))
            exfalso
            omega
          · refine jj_iconst C0 dX4_contract_76 ?_
            refine jj_goto C0 (tgt := 81) dX4_contract_77 (by decide) ?_
            refine jj_put C0 (ci := 5) (v := .int (iI 2)) (ty := .int) hin_X4 tyX4 tyX4_ok nmX4 (0) (rfl) rfl 0 (by decide) (hw _ hU_786) (fun _ h9 => h9) rfl (by decide +kernel) (rfl) rfl (Nat.le_of_ble_eq_true rfl) (ws' := wM ad cI cJ cZ 2 td pr up dn dv n K St Ex Am Ov Bi As BL AL He Co Ca mo sh co sd Cz Ab be ++ E) (rfl) dX4_contract_81 ?_
            refine jj_aload_n C0 1 rfl dX4_contract_84 ?_
            refine jj_get C0 (ci := 5) (v := .int (iI 2)) hin_X4 (0) (rfl) rfl 0 (by decide) (hw _ hU_786) (fun _ h9 => h9) rfl dX4_contract_85 ?_
            refine jj_if_le C0 (by omega) dX4_contract_88 (tgt := 93) (by decide) (fun c_19 => absurd c_19 (by omega)) (fun c_19 => ?_)
            refine jj_iconst C0 dX4_contract_91 ?_
            obtain rfl : kk = 2 := by omega
            exact jj_iret C0 hr 0 (trivial) (rfl) (rfl) (by decide) (by decide) dX4_contract_92
set_option maxHeartbeats 4000000 in
set_option maxRecDepth 100000 in
theorem cc_X4_limit (hEV : jj_EV EV) {x : Int} (hx : 0 ≤ x ∧ x ≤ 1000) : jj_Mi EV (dC, dI) vwCl [(cI, .int), (cJ, .long), (cZ, .boolean), (cO, .object "java/lang/Object")] l yX4_limit (Cond.code yX4_limit cX4_limit 3 (some .int) :: lw_U) ({ frames := 1, cells := 0, slots := 0, locals := 25 } : Room) [.ref (ad 0), .int (iI x)] (wM ad cI cJ cZ th td pr up dn dv n K St Ex Am Ov Bi As BL AL He Co Ca mo sh co sd Cz Ab be ++ E) (S := Unit) (fun _ => mo) (fun _ => True) (fun _ => wM ad cI cJ cZ 0 td pr up dn dv n K St Ex Am Ov Bi As BL AL He Co Ca x sh co sd Cz Ab be ++ E) := by
  refine jj_start (cc := cX4_limit) (nL := 3) (ret := (some .int)) (lv := [(0, .ref (ad 0)), (1, .int (iI x))]) (fun A => jj_Qi _ _ _ _ _ _ A) hEV (by decide) rfl (Nat.le_of_ble_eq_true rfl) rfl ?_
  intro p9 e9 s9 m9 a9 b9 me9 c9 A9 C1 hr hin
  have C0 : jj_C p9 s9 m9 a9 me9 c9 (dC, dI) vwCl A9 3 cX4_limit "StrikehallModel" lw_U _ EV := jj_toU C1
  have hw := C0.2.2.2.2.1
  refine jj_aload_n C0 0 rfl dX4_limit_0 ?_
  refine jj_iload_n C0 1 rfl dX4_limit_1 ?_
  refine jj_i2l C0 (by omega) dX4_limit_2 ?_
  refine jj_lconst C0 (z := 0) (by decide) dX4_limit_3 ?_
  refine jj_ldc2 C0 (z := 1000) (by decide) (hw _ hU_881) dX4_limit_4 ?_
  refine jj_callSi C0 (cc_X4_in1 hEV (v := x) (lo := 0) (hi := 1000) (by omega) (by omega) (by omega) (by omega)) (cwS 3 hw (lw_gS hU_874 hU_875 hU_66 hU_876) rfl rfl rfl (by decide +kernel) ⟨Nat.le_of_ble_eq_true rfl, Nat.le_of_ble_eq_true rfl⟩) rfl rfl (Nat.le_of_ble_eq_true rfl) ⟨by decide, by decide⟩ rfl rfl dX4_limit_7 ?_
  intro _ hu
  show jj_W _ _ _ _ _ _ _ _ _ _ _ _ _ _ _ _ _ 10 _ [.int (iI 1), .ref (ad 0)] (wM ad cI cJ cZ th td pr up dn dv n K St Ex Am Ov Bi As BL AL He Co Ca mo sh co sd Cz Ab be ++ E)
  refine jj_if_eq C0 (by omega) dX4_limit_10 (tgt := 17) (by decide) (fun c_1 => absurd c_1 (by omega)) (fun c_1 => ?_)
  refine jj_iconst C0 dX4_limit_13 ?_
  refine jj_goto C0 (tgt := 18) dX4_limit_14 (by decide) ?_
  refine jj_put C0 (ci := 5) (v := .int (iI 0)) (ty := .int) hin_X4 tyX4 tyX4_ok nmX4 (0) (rfl) rfl 0 (by decide) (hw _ hU_786) (fun _ h9 => h9) rfl (by decide +kernel) (rfl) rfl (Nat.le_of_ble_eq_true rfl) (ws' := wM ad cI cJ cZ 0 td pr up dn dv n K St Ex Am Ov Bi As BL AL He Co Ca mo sh co sd Cz Ab be ++ E) (rfl) dX4_limit_18 ?_
  refine jj_aload_n C0 0 rfl dX4_limit_21 ?_
  refine jj_get C0 (ci := 5) (v := .int (iI 0)) hin_X4 (0) (rfl) rfl 0 (by decide) (hw _ hU_786) (fun _ h9 => h9) rfl dX4_limit_22 ?_
  refine jj_if_le C0 (by omega) dX4_limit_25 (tgt := 30) (by decide) (fun c_2 => ?_) (fun c_2 => absurd c_2 (by omega))
  refine jj_aload_n C0 0 rfl dX4_limit_30 ?_
  refine jj_get C0 (ci := 5) (v := .int (iI mo)) hin_X4 (0) (rfl) rfl 19 (by decide) (hw _ hU_805) (fun _ h9 => h9) rfl dX4_limit_31 ?_
  refine jj_istore_n C0 (i := 2) rfl (lv' := [(2, .int (iI mo)), (0, .ref (ad 0)), (1, .int (iI x))]) (by decide) rfl dX4_limit_34 ?_
  refine jj_aload_n C0 1 rfl dX4_limit_35 ?_
  refine jj_iload_n C0 2 rfl dX4_limit_36 ?_
  refine jj_put C0 (ci := 5) (v := .int (iI x)) (ty := .int) hin_X4 tyX4 tyX4_ok nmX4 (0) (rfl) rfl 19 (by decide) (hw _ hU_805) (fun _ h9 => h9) rfl (by decide +kernel) (rfl) rfl (Nat.le_of_ble_eq_true rfl) (ws' := wM ad cI cJ cZ 0 td pr up dn dv n K St Ex Am Ov Bi As BL AL He Co Ca x sh co sd Cz Ab be ++ E) (rfl) dX4_limit_37 ?_
  refine jj_iload_n C0 0 rfl dX4_limit_40 ?_
  exact jj_iret C0 hr () (trivial) (rfl) (rfl) (by decide) (by decide) dX4_limit_41
set_option maxHeartbeats 4000000 in
set_option maxRecDepth 100000 in
theorem cb_X4_limit (hEV : jj_EV EV) {x : Int} {kk : Int} (hx : iR x) (hbad : ¬ (0 ≤ x ∧ x ≤ 1000) ∧ kk = 1) : jj_Mi EV (dC, dI) vwCl [(cI, .int), (cJ, .long), (cZ, .boolean), (cO, .object "java/lang/Object")] l yX4_limit (Cond.code yX4_limit cX4_limit 3 (some .int) :: lw_U) ({ frames := 1, cells := 0, slots := 0, locals := 25 } : Room) [.ref (ad 0), .int (iI x)] (wM ad cI cJ cZ th td pr up dn dv n K St Ex Am Ov Bi As BL AL He Co Ca mo sh co sd Cz Ab be ++ E) (S := Int) (fun u => u) (fun u => True) (fun u => wM ad cI cJ cZ kk td pr up dn dv n K St Ex Am Ov Bi As BL AL He Co Ca mo sh co sd Cz Ab be ++ E) := by
  refine jj_start (cc := cX4_limit) (nL := 3) (ret := (some .int)) (lv := [(0, .ref (ad 0)), (1, .int (iI x))]) (fun A => jj_Qi _ _ _ _ _ _ A) hEV (by decide) rfl (Nat.le_of_ble_eq_true rfl) rfl ?_
  intro p9 e9 s9 m9 a9 b9 me9 c9 A9 C1 hr hin
  have C0 : jj_C p9 s9 m9 a9 me9 c9 (dC, dI) vwCl A9 3 cX4_limit "StrikehallModel" lw_U _ EV := jj_toU C1
  have hw := C0.2.2.2.2.1
  refine jj_aload_n C0 0 rfl dX4_limit_0 ?_
  refine jj_iload_n C0 1 rfl dX4_limit_1 ?_
  refine jj_i2l C0 (by omega) dX4_limit_2 ?_
  refine jj_lconst C0 (z := 0) (by decide) dX4_limit_3 ?_
  refine jj_ldc2 C0 (z := 1000) (by decide) (hw _ hU_881) dX4_limit_4 ?_
  refine jj_callSi C0 (cc_X4_in hEV (v := x) (lo := 0) (hi := 1000) (by omega) (by omega) (by omega)) (cwS 3 hw (lw_gS hU_874 hU_875 hU_66 hU_876) rfl rfl rfl (by decide +kernel) ⟨Nat.le_of_ble_eq_true rfl, Nat.le_of_ble_eq_true rfl⟩) rfl rfl (Nat.le_of_ble_eq_true rfl) ⟨by decide, by decide⟩ rfl rfl dX4_limit_7 ?_
  intro u_1 hu
  have hu_7 : (u_1 = 1 ∧ 0 ≤ x ∧ x ≤ 1000) ∨ (u_1 = 0 ∧ (x < 0 ∨ 1000 < x)) := hu
  show jj_W _ _ _ _ _ _ _ _ _ _ _ _ _ _ _ _ _ 10 _ [.int (iI u_1), .ref (ad 0)] (wM ad cI cJ cZ th td pr up dn dv n K St Ex Am Ov Bi As BL AL He Co Ca mo sh co sd Cz Ab be ++ E)
  refine jj_if_eq C0 (by omega) dX4_limit_10 (tgt := 17) (by decide) (fun c_2 => ?_) (fun c_2 => ?_)
  · refine jj_iconst C0 dX4_limit_17 ?_
    refine jj_put C0 (ci := 5) (v := .int (iI 1)) (ty := .int) hin_X4 tyX4 tyX4_ok nmX4 (0) (rfl) rfl 0 (by decide) (hw _ hU_786) (fun _ h9 => h9) rfl (by decide +kernel) (rfl) rfl (Nat.le_of_ble_eq_true rfl) (ws' := wM ad cI cJ cZ 1 td pr up dn dv n K St Ex Am Ov Bi As BL AL He Co Ca mo sh co sd Cz Ab be ++ E) (rfl) dX4_limit_18 ?_
    refine jj_aload_n C0 0 rfl dX4_limit_21 ?_
    refine jj_get C0 (ci := 5) (v := .int (iI 1)) hin_X4 (0) (rfl) rfl 0 (by decide) (hw _ hU_786) (fun _ h9 => h9) rfl dX4_limit_22 ?_
    refine jj_if_le C0 (by omega) dX4_limit_25 (tgt := 30) (by decide) (fun c_3 => absurd c_3 (by omega)) (fun c_3 => ?_)
    refine jj_iconst C0 dX4_limit_28 ?_
    obtain rfl : kk = 1 := by omega
    exact jj_iret C0 hr 0 (trivial) (rfl) (rfl) (by decide) (by decide) dX4_limit_29
  · refine jj_iconst C0 dX4_limit_13 ?_
    refine jj_goto C0 (tgt := 18) dX4_limit_14 (by decide) ?_
    refine jj_put C0 (ci := 5) (v := .int (iI 0)) (ty := .int) hin_X4 tyX4 tyX4_ok nmX4 (0) (rfl) rfl 0 (by decide) (hw _ hU_786) (fun _ h9 => h9) rfl (by decide +kernel) (rfl) rfl (Nat.le_of_ble_eq_true rfl) (ws' := wM ad cI cJ cZ 0 td pr up dn dv n K St Ex Am Ov Bi As BL AL He Co Ca mo sh co sd Cz Ab be ++ E) (rfl) dX4_limit_18 ?_
    refine jj_aload_n C0 0 rfl dX4_limit_21 ?_
    refine jj_get C0 (ci := 5) (v := .int (iI 0)) hin_X4 (0) (rfl) rfl 0 (by decide) (hw _ hU_786) (fun _ h9 => h9) rfl dX4_limit_22 ?_
    refine jj_if_le C0 (by omega) dX4_limit_25 (tgt := 30) (by decide) (fun c_4 => ?_) (fun c_4 => absurd c_4 (by omega))
    exfalso
    omega
set_option maxHeartbeats 4000000 in
set_option maxRecDepth 100000 in
theorem cc_X4_seed (hEV : jj_EV EV) {x : Int} (hx : 0 ≤ x ∧ x ≤ 2147483647) : jj_Mv EV (dC, dI) vwCl [(cI, .int), (cJ, .long), (cZ, .boolean), (cO, .object "java/lang/Object")] l yX4_seed (Cond.code yX4_seed cX4_seed 2 none :: lw_U) ({ frames := 0, cells := 0, slots := 0, locals := 0 } : Room) [.ref (ad 0), .int (iI x)] (wM ad cI cJ cZ th td pr up dn dv n K St Ex Am Ov Bi As BL AL He Co Ca mo sh co sd Cz Ab be ++ E) (S := Unit)  (fun _ => True) (fun _ => wM ad cI cJ cZ 0 td pr up dn dv n K St Ex Am Ov Bi As BL AL He Co Ca mo sh co x Cz Ab be ++ E) := by
  refine jj_start (cc := cX4_seed) (nL := 2) (ret := none) (lv := [(0, .ref (ad 0)), (1, .int (iI x))]) (fun A => jj_Qv _ _ _ _ _ A) hEV (by decide) rfl (Nat.le_of_ble_eq_true rfl) rfl ?_
  intro p9 e9 s9 m9 a9 b9 me9 c9 A9 C1 hr hin
  have C0 : jj_C p9 s9 m9 a9 me9 c9 (dC, dI) vwCl A9 2 cX4_seed "StrikehallModel" lw_U _ EV := jj_toU C1
  have hw := C0.2.2.2.2.1
  refine jj_aload_n C0 0 rfl dX4_seed_0 ?_
  refine jj_iload_n C0 1 rfl dX4_seed_1 ?_
  refine jj_if_lt C0 (by omega) dX4_seed_2 (tgt := 9) (by decide) (fun c_1 => absurd c_1 (by omega)) (fun c_1 => ?_)
  refine jj_iconst C0 dX4_seed_5 ?_
  refine jj_goto C0 (tgt := 10) dX4_seed_6 (by decide) ?_
  refine jj_put C0 (ci := 5) (v := .int (iI 0)) (ty := .int) hin_X4 tyX4 tyX4_ok nmX4 (0) (rfl) rfl 0 (by decide) (hw _ hU_786) (fun _ h9 => h9) rfl (by decide +kernel) (rfl) rfl (Nat.le_of_ble_eq_true rfl) (ws' := wM ad cI cJ cZ 0 td pr up dn dv n K St Ex Am Ov Bi As BL AL He Co Ca mo sh co sd Cz Ab be ++ E) (rfl) dX4_seed_10 ?_
  refine jj_aload_n C0 0 rfl dX4_seed_13 ?_
  refine jj_get C0 (ci := 5) (v := .int (iI 0)) hin_X4 (0) (rfl) rfl 0 (by decide) (hw _ hU_786) (fun _ h9 => h9) rfl dX4_seed_14 ?_
  refine jj_if_ne C0 (by omega) dX4_seed_17 (tgt := 26) (by decide) (fun c_2 => absurd c_2 (by omega)) (fun c_2 => ?_)
  refine jj_aload_n C0 0 rfl dX4_seed_20 ?_
  refine jj_iload_n C0 1 rfl dX4_seed_21 ?_
  refine jj_i2l C0 (by omega) dX4_seed_22 ?_
  refine jj_put C0 (ci := 5) (v := .long (lI x)) (ty := .long) hin_X4 tyX4 tyX4_ok nmX4 (0) (rfl) rfl 22 (by decide) (hw _ hU_808) (fun _ h9 => h9) rfl (by decide +kernel) (rfl) rfl (Nat.le_of_ble_eq_true rfl) (ws' := wM ad cI cJ cZ 0 td pr up dn dv n K St Ex Am Ov Bi As BL AL He Co Ca mo sh co x Cz Ab be ++ E) (rfl) dX4_seed_23 ?_
  exact jj_vret C0 hr () (trivial) (rfl) (by decide) (by decide) dX4_seed_26
set_option maxHeartbeats 4000000 in
set_option maxRecDepth 100000 in
theorem cb_X4_seed (hEV : jj_EV EV) {x : Int} {kk : Int} (hx : iR x) (hbad : x < 0 ∧ kk = 1) : jj_Mv EV (dC, dI) vwCl [(cI, .int), (cJ, .long), (cZ, .boolean), (cO, .object "java/lang/Object")] l yX4_seed (Cond.code yX4_seed cX4_seed 2 none :: lw_U) ({ frames := 0, cells := 0, slots := 0, locals := 0 } : Room) [.ref (ad 0), .int (iI x)] (wM ad cI cJ cZ th td pr up dn dv n K St Ex Am Ov Bi As BL AL He Co Ca mo sh co sd Cz Ab be ++ E) (S := Unit)  (fun _ => True) (fun _ => wM ad cI cJ cZ kk td pr up dn dv n K St Ex Am Ov Bi As BL AL He Co Ca mo sh co sd Cz Ab be ++ E) := by
  refine jj_start (cc := cX4_seed) (nL := 2) (ret := none) (lv := [(0, .ref (ad 0)), (1, .int (iI x))]) (fun A => jj_Qv _ _ _ _ _ A) hEV (by decide) rfl (Nat.le_of_ble_eq_true rfl) rfl ?_
  intro p9 e9 s9 m9 a9 b9 me9 c9 A9 C1 hr hin
  have C0 : jj_C p9 s9 m9 a9 me9 c9 (dC, dI) vwCl A9 2 cX4_seed "StrikehallModel" lw_U _ EV := jj_toU C1
  have hw := C0.2.2.2.2.1
  refine jj_aload_n C0 0 rfl dX4_seed_0 ?_
  refine jj_iload_n C0 1 rfl dX4_seed_1 ?_
  refine jj_if_lt C0 (by omega) dX4_seed_2 (tgt := 9) (by decide) (fun c_1 => ?_) (fun c_1 => absurd c_1 (by omega))
  refine jj_iconst C0 dX4_seed_9 ?_
  refine jj_put C0 (ci := 5) (v := .int (iI 1)) (ty := .int) hin_X4 tyX4 tyX4_ok nmX4 (0) (rfl) rfl 0 (by decide) (hw _ hU_786) (fun _ h9 => h9) rfl (by decide +kernel) (rfl) rfl (Nat.le_of_ble_eq_true rfl) (ws' := wM ad cI cJ cZ 1 td pr up dn dv n K St Ex Am Ov Bi As BL AL He Co Ca mo sh co sd Cz Ab be ++ E) (rfl) dX4_seed_10 ?_
  refine jj_aload_n C0 0 rfl dX4_seed_13 ?_
  refine jj_get C0 (ci := 5) (v := .int (iI 1)) hin_X4 (0) (rfl) rfl 0 (by decide) (hw _ hU_786) (fun _ h9 => h9) rfl dX4_seed_14 ?_
  refine jj_if_ne C0 (by omega) dX4_seed_17 (tgt := 26) (by decide) (fun c_2 => ?_) (fun c_2 => absurd c_2 (by omega))
  obtain rfl : kk = 1 := by omega
  exact jj_vret C0 hr () (trivial) (rfl) (by decide) (by decide) dX4_seed_26
set_option maxHeartbeats 4000000 in
set_option maxRecDepth 100000 in
theorem cc_X4_hedge (hEV : jj_EV EV) {x y : Int} (hx : -10000 ≤ x ∧ x ≤ 10000) (hy : 0 ≤ y ∧ y ≤ 10000) (hsx : -100000 ≤ sh + x ∧ sh + x ≤ 100000) (hovs : ∀ c, c < n → (Ov c = 1 ∧ Ex c < (td : Int)) ∨ (Ov c = 0 ∧ (td : Int) ≤ Ex c)) (hexs : ∀ c, c < n → Ex c ≤ (td : Int) + 10 ∧ Ex c ≤ 200) (hn : n ≤ 12) (htd : td ≤ 200) (hpr : 0 ≤ pr ∧ pr ≤ 20000) (hup : 1 ≤ up ∧ up ≤ 10) (hdn : 1 ≤ dn ∧ dn ≤ 10) (hdv : ∀ j, 0 ≤ dv j ∧ dv j ≤ 1000) (hK : ∀ j, 0 ≤ K j ∧ K j ≤ 1) (hSt : ∀ j, 0 ≤ St j ∧ St j ≤ 20000) (hEx : ∀ j, 0 ≤ Ex j ∧ Ex j ≤ 200) (hAm : ∀ j, 0 ≤ Am j ∧ Am j ≤ 1) (hOv : ∀ j, 0 ≤ Ov j ∧ Ov j ≤ 1) (hHe : ∀ j, -1000000 ≤ He j ∧ He j ≤ 1000000) (hsh : -100000 ≤ sh ∧ sh ≤ 100000) : jj_Mi EV (dC, dI) vwCl [(cI, .int), (cJ, .long), (cZ, .boolean), (cO, .object "java/lang/Object")] l yX4_hedge (Cond.code yX4_hedge cX4_hedge 6 (some .int) :: lw_U) ({ frames := 4, cells := 0, slots := 0, locals := 102 } : Room) [.ref (ad 0), .int (iI x), .int (iI y)] (wM ad cI cJ cZ th td pr up dn dv n K St Ex Am Ov Bi As BL AL He Co Ca mo sh co sd Cz Ab be ++ E) (S := (Nat → Int) × Int) (fun ⟨ab, b⟩ => (sh + x)) (fun ⟨ab, b⟩ => True) (fun ⟨ab, b⟩ => wM ad cI cJ cZ 0 td pr up dn dv n K St Ex Am Ov Bi As BL AL He Co (va_up Ca 6 ((Ca 6) - (((1000 * pr) * x) + (y * (if 0 ≤ x then x else -x))))) mo (sh + x) y sd (va_up Cz 3 ((Cz 3) + ((f_W up dn dv td n K St Ex Am He (va_up Ca 6 ((Ca 6) - (((1000 * pr) * x) + (y * (if 0 ≤ x then x else -x))))) (sh + x) pr) - (f_W up dn dv td n K St Ex Am He Ca sh pr)))) ab b ++ E) := by
  refine jj_start (cc := cX4_hedge) (nL := 6) (ret := (some .int)) (lv := [(0, .ref (ad 0)), (1, .int (iI x)), (2, .int (iI y))]) (fun A => jj_Qi _ _ _ _ _ _ A) hEV (by decide) rfl (Nat.le_of_ble_eq_true rfl) rfl ?_
  intro p9 e9 s9 m9 a9 b9 me9 c9 A9 C1 hr hin
  have C0 : jj_C p9 s9 m9 a9 me9 c9 (dC, dI) vwCl A9 6 cX4_hedge "StrikehallModel" lw_U _ EV := jj_toU C1
  have hw := C0.2.2.2.2.1
  refine jj_iload_n C0 1 rfl dX4_hedge_0 ?_
  refine jj_i2l C0 (by omega) dX4_hedge_1 ?_
  refine jj_ldc2 C0 (z := -10000) (by decide) (hw _ hU_973) dX4_hedge_2 ?_
  refine jj_ldc2 C0 (z := 10000) (by decide) (hw _ hU_974) dX4_hedge_5 ?_
  refine jj_callSi C0 (cc_X4_in1 hEV (v := x) (lo := (-10000)) (hi := 10000) (by omega) (by omega) (by omega) (by omega)) (cwS 3 hw (lw_gS hU_874 hU_875 hU_66 hU_876) rfl rfl rfl (by decide +kernel) ⟨Nat.le_of_ble_eq_true rfl, Nat.le_of_ble_eq_true rfl⟩) rfl rfl (Nat.le_of_ble_eq_true rfl) ⟨by decide, by decide⟩ rfl rfl dX4_hedge_8 ?_
  intro _ hu
  show jj_W _ _ _ _ _ _ _ _ _ _ _ _ _ _ _ _ _ 11 _ [.int (iI 1)] (wM ad cI cJ cZ th td pr up dn dv n K St Ex Am Ov Bi As BL AL He Co Ca mo sh co sd Cz Ab be ++ E)
  refine jj_if_eq C0 (by omega) dX4_hedge_11 (tgt := 49) (by decide) (fun c_1 => absurd c_1 (by omega)) (fun c_1 => ?_)
  refine jj_iload_n C0 2 rfl dX4_hedge_14 ?_
  refine jj_i2l C0 (by omega) dX4_hedge_15 ?_
  refine jj_lconst C0 (z := 0) (by decide) dX4_hedge_16 ?_
  refine jj_ldc2 C0 (z := 10000) (by decide) (hw _ hU_974) dX4_hedge_17 ?_
  refine jj_callSi C0 (cc_X4_in1 hEV (v := y) (lo := 0) (hi := 10000) (by omega) (by omega) (by omega) (by omega)) (cwS 3 hw (lw_gS hU_874 hU_875 hU_66 hU_876) rfl rfl rfl (by decide +kernel) ⟨Nat.le_of_ble_eq_true rfl, Nat.le_of_ble_eq_true rfl⟩) rfl rfl (Nat.le_of_ble_eq_true rfl) ⟨by decide, by decide⟩ rfl rfl dX4_hedge_20 ?_
  intro _ hu
  show jj_W _ _ _ _ _ _ _ _ _ _ _ _ _ _ _ _ _ 23 _ [.int (iI 1)] (wM ad cI cJ cZ th td pr up dn dv n K St Ex Am Ov Bi As BL AL He Co Ca mo sh co sd Cz Ab be ++ E)
  refine jj_if_eq C0 (by omega) dX4_hedge_23 (tgt := 49) (by decide) (fun c_2 => absurd c_2 (by omega)) (fun c_2 => ?_)
  refine jj_aload_n C0 0 rfl dX4_hedge_26 ?_
  refine jj_get C0 (ci := 5) (v := .int (iI sh)) hin_X4 (0) (rfl) rfl 20 (by decide) (hw _ hU_806) (fun _ h9 => h9) rfl dX4_hedge_27 ?_
  refine jj_iload_n C0 1 rfl dX4_hedge_30 ?_
  refine jj_iadd C0 dX4_hedge_31 ?_
  refine jj_i2l C0 (by omega) dX4_hedge_32 ?_
  refine jj_ldc2 C0 (z := -100000) (by decide) (hw _ hU_975) dX4_hedge_33 ?_
  refine jj_ldc2 C0 (z := 100000) (by decide) (hw _ hU_976) dX4_hedge_36 ?_
  refine jj_callSi C0 (cc_X4_in1 hEV (v := (sh + x)) (lo := (-100000)) (hi := 100000) (by omega) (by omega) (by omega) (by omega)) (cwS 3 hw (lw_gS hU_874 hU_875 hU_66 hU_876) rfl rfl rfl (by decide +kernel) ⟨Nat.le_of_ble_eq_true rfl, Nat.le_of_ble_eq_true rfl⟩) rfl rfl (Nat.le_of_ble_eq_true rfl) ⟨by decide, by decide⟩ rfl rfl dX4_hedge_39 ?_
  intro _ hu
  show jj_W _ _ _ _ _ _ _ _ _ _ _ _ _ _ _ _ _ 42 _ [.int (iI 1)] (wM ad cI cJ cZ th td pr up dn dv n K St Ex Am Ov Bi As BL AL He Co Ca mo sh co sd Cz Ab be ++ E)
  refine jj_if_eq C0 (by omega) dX4_hedge_42 (tgt := 49) (by decide) (fun c_3 => absurd c_3 (by omega)) (fun c_3 => ?_)
  refine jj_iconst C0 dX4_hedge_45 ?_
  refine jj_goto C0 (tgt := 50) dX4_hedge_46 (by decide) ?_
  refine jj_istore_n C0 (i := 3) rfl (lv' := [(3, .int (iI 1)), (0, .ref (ad 0)), (1, .int (iI x)), (2, .int (iI y))]) (by decide) rfl dX4_hedge_50 ?_
  refine jj_aload_n C0 1 rfl dX4_hedge_51 ?_
  refine jj_iload_n C0 0 rfl dX4_hedge_52 ?_
  refine jj_if_eq C0 (by omega) dX4_hedge_53 (tgt := 60) (by decide) (fun c_4 => absurd c_4 (by omega)) (fun c_4 => ?_)
  refine jj_iconst C0 dX4_hedge_56 ?_
  refine jj_goto C0 (tgt := 61) dX4_hedge_57 (by decide) ?_
  refine jj_put C0 (ci := 5) (v := .int (iI 0)) (ty := .int) hin_X4 tyX4 tyX4_ok nmX4 (0) (rfl) rfl 0 (by decide) (hw _ hU_786) (fun _ h9 => h9) rfl (by decide +kernel) (rfl) rfl (Nat.le_of_ble_eq_true rfl) (ws' := wM ad cI cJ cZ 0 td pr up dn dv n K St Ex Am Ov Bi As BL AL He Co Ca mo sh co sd Cz Ab be ++ E) (rfl) dX4_hedge_61 ?_
  refine jj_aload_n C0 1 rfl dX4_hedge_64 ?_
  refine jj_get C0 (ci := 5) (v := .int (iI 0)) hin_X4 (0) (rfl) rfl 0 (by decide) (hw _ hU_786) (fun _ h9 => h9) rfl dX4_hedge_65 ?_
  refine jj_if_le C0 (by omega) dX4_hedge_68 (tgt := 73) (by decide) (fun c_5 => ?_) (fun c_5 => absurd c_5 (by omega))
  refine jj_aload_n C0 1 rfl dX4_hedge_73 ?_
  refine jj_aload_n C0 1 rfl dX4_hedge_74 ?_
  refine jj_get C0 (ci := 5) (v := .int (iI pr)) hin_X4 (0) (rfl) rfl 2 (by decide) (hw _ hU_788) (fun _ h9 => h9) rfl dX4_hedge_75 ?_
  refine jj_callVl C0 (cc_X4_worthAt hEV (fr := pr) (fun c hc => Or.inr (hovs c hc)) (by first | exact hexs | omega) (by first | exact hn | omega) (by first | exact htd | omega) (by omega) (by first | exact hup | omega) (by first | exact hdn | omega) (by first | exact hdv | omega) (by first | exact hK | omega) (by first | exact hSt | omega) (by first | exact hEx | omega) (by first | exact hAm | omega) (by first | exact hOv | omega) (by first | exact hHe | omega) (by first | exact hsh | omega)) (cwV 1 hw (lw_gV hU_877 hU_879 hU_42 hU_66 hU_880) rfl rfl rfl (by decide +kernel) ⟨Nat.le_of_ble_eq_true rfl, Nat.le_of_ble_eq_true rfl⟩) (ci := 5) (q0 := 0) rfl (rfl) rfl rfl (Nat.le_of_ble_eq_true rfl) ⟨by decide, by decide⟩ rfl rfl dX4_hedge_78 ?_
  intro u hu
  obtain ⟨ab_6, b_6⟩ := u
  show jj_W _ _ _ _ _ _ _ _ _ _ _ _ _ _ _ _ _ 81 _ [.long (lI (f_W up dn dv td n K St Ex Am He Ca sh pr))] (wM ad cI cJ cZ 0 td pr up dn dv n K St Ex Am Ov Bi As BL AL He Co Ca mo sh co sd Cz ab_6 b_6 ++ E)
  refine jj_lstore C0 (lv' := [(4, .long (lI (f_W up dn dv td n K St Ex Am He Ca sh pr))), (3, .int (iI 1)), (0, .ref (ad 0)), (1, .int (iI x)), (2, .int (iI y))]) (by decide) rfl dX4_hedge_81 ?_
  refine jj_aload_n C0 2 rfl dX4_hedge_83 ?_
  refine jj_iload_n C0 4 rfl dX4_hedge_84 ?_
  refine jj_put C0 (ci := 5) (v := .int (iI y)) (ty := .int) hin_X4 tyX4 tyX4_ok nmX4 (0) (rfl) rfl 21 (by decide) (hw _ hU_807) (fun _ h9 => h9) rfl (by decide +kernel) (rfl) rfl (Nat.le_of_ble_eq_true rfl) (ws' := wM ad cI cJ cZ 0 td pr up dn dv n K St Ex Am Ov Bi As BL AL He Co Ca mo sh y sd Cz ab_6 b_6 ++ E) (rfl) dX4_hedge_85 ?_
  refine jj_aload_n C0 2 rfl dX4_hedge_88 ?_
  refine jj_dup C0 dX4_hedge_89 rfl ?_
  refine jj_get C0 (ci := 5) (v := .int (iI sh)) hin_X4 (0) (rfl) rfl 20 (by decide) (hw _ hU_806) (fun _ h9 => h9) rfl dX4_hedge_90 ?_
  refine jj_iload_n C0 3 rfl dX4_hedge_93 ?_
  refine jj_iadd C0 dX4_hedge_94 ?_
  refine jj_put C0 (ci := 5) (v := .int (iI (sh + x))) (ty := .int) hin_X4 tyX4 tyX4_ok nmX4 (0) (rfl) rfl 20 (by decide) (hw _ hU_806) (fun _ h9 => h9) rfl (by decide +kernel) (rfl) rfl (Nat.le_of_ble_eq_true rfl) (ws' := wM ad cI cJ cZ 0 td pr up dn dv n K St Ex Am Ov Bi As BL AL He Co Ca mo (sh + x) y sd Cz ab_6 b_6 ++ E) (rfl) dX4_hedge_95 ?_
  refine jj_aload_n C0 2 rfl dX4_hedge_98 ?_
  refine jj_get C0 (ci := 5) (v := .ref (ad 13)) hin_X4 (0) (rfl) rfl 18 (by decide) (hw _ hU_804) (fun _ h9 => h9) rfl dX4_hedge_99 ?_
  refine jj_bipush C0 dX4_hedge_102 (by decide) ?_
  refine jj_dup2_11 C0 dX4_hedge_104 rfl rfl ?_
  refine jj_lald C0 (q0 := 13) (t0 := 1) (f := Ca) (rfl) rfl (k := 6) (by omega) (by omega) (by decide) dX4_hedge_105 ?_
  refine jj_ldc2 C0 (z := 1000) (by decide) (hw _ hU_881) dX4_hedge_106 ?_
  refine jj_aload_n C0 2 rfl dX4_hedge_109 ?_
  refine jj_get C0 (ci := 5) (v := .int (iI pr)) hin_X4 (0) (rfl) rfl 2 (by decide) (hw _ hU_788) (fun _ h9 => h9) rfl dX4_hedge_110 ?_
  refine jj_i2l C0 (by omega) dX4_hedge_113 ?_
  refine jj_lmul C0 dX4_hedge_114 ?_
  refine jj_iload_n C0 3 rfl dX4_hedge_115 ?_
  refine jj_i2l C0 (by omega) dX4_hedge_116 ?_
  refine jj_lmul C0 dX4_hedge_117 ?_
  refine jj_aload_n C0 2 rfl dX4_hedge_118 ?_
  refine jj_get C0 (ci := 5) (v := .int (iI y)) hin_X4 (0) (rfl) rfl 21 (by decide) (hw _ hU_807) (fun _ h9 => h9) rfl dX4_hedge_119 ?_
  refine jj_i2l C0 (by omega) dX4_hedge_122 ?_
  refine jj_iload_n C0 3 rfl dX4_hedge_123 ?_
  refine jj_join (X := Unit) (pcj := 133) (fun q9 => match q9 with | () => [(4, .long (lI (f_W up dn dv td n K St Ex Am He Ca sh pr))), (3, .int (iI 1)), (0, .ref (ad 0)), (1, .int (iI x)), (2, .int (iI y))]) (fun q9 => match q9 with | () => [.int (iI (if 0 ≤ x then x else -x)), .long (lI y), .long (lI ((1000 * pr) * x)), .long (lI (Ca 6)), .int (iI 6), .ref (ad 13)]) (fun q9 => match q9 with | () => wM ad cI cJ cZ 0 td pr up dn dv n K St Ex Am Ov Bi As BL AL He Co Ca mo (sh + x) y sd Cz ab_6 b_6 ++ E) (fun q9 => match q9 with | () => True) ?_ ?_
  · intro q9 hq9
    obtain ⟨⟩ := q9
    have _ : True := hq9
    refine jj_i2l C0 (by omega) dX4_hedge_133 ?_
    refine jj_lmul C0 dX4_hedge_134 ?_
    refine jj_ladd C0 dX4_hedge_135 ?_
    refine jj_lsub C0 dX4_hedge_136 ?_
    refine jj_last C0 (q0 := 13) (t0 := 1) (f := Ca) (rfl) rfl (k := 6) (by omega) (by omega) (by decide) (ws' := wM ad cI cJ cZ 0 td pr up dn dv n K St Ex Am Ov Bi As BL AL He Co (va_up Ca 6 ((Ca 6) - (((1000 * pr) * x) + (y * (if 0 ≤ x then x else -x))))) mo (sh + x) y sd Cz ab_6 b_6 ++ E) (rfl) dX4_hedge_137 ?_
    refine jj_aload_n C0 2 rfl dX4_hedge_138 ?_
    refine jj_get C0 (ci := 5) (v := .ref (ad 14)) hin_X4 (0) (rfl) rfl 23 (by decide) (hw _ hU_809) (fun _ h9 => h9) rfl dX4_hedge_139 ?_
    refine jj_iconst C0 dX4_hedge_142 ?_
    refine jj_dup2_11 C0 dX4_hedge_143 rfl rfl ?_
    refine jj_lald C0 (q0 := 14) (t0 := 1) (f := Cz) (rfl) rfl (k := 3) (by omega) (by omega) (by decide) dX4_hedge_144 ?_
    refine jj_aload_n C0 2 rfl dX4_hedge_145 ?_
    refine jj_aload_n C0 2 rfl dX4_hedge_146 ?_
    refine jj_get C0 (ci := 5) (v := .int (iI pr)) hin_X4 (0) (rfl) rfl 2 (by decide) (hw _ hU_788) (fun _ h9 => h9) rfl dX4_hedge_147 ?_
    refine jj_callVl C0 (cc_X4_worthAt hEV (fr := pr) (fun c hc => Or.inr (hovs c hc)) (by first | exact hexs | omega) (by first | exact hn | omega) (by first | exact htd | omega) (by omega) (by first | exact hup | omega) (by first | exact hdn | omega) (by first | exact hdv | omega) (by first | exact hK | omega) (by first | exact hSt | omega) (by first | exact hEx | omega) (by first | exact hAm | omega) (by first | exact hOv | omega) (by first | exact hHe | omega) hsx) (cwV 1 hw (lw_gV hU_877 hU_879 hU_42 hU_66 hU_880) rfl rfl rfl (by decide +kernel) ⟨Nat.le_of_ble_eq_true rfl, Nat.le_of_ble_eq_true rfl⟩) (ci := 5) (q0 := 0) rfl (rfl) rfl rfl (Nat.le_of_ble_eq_true rfl) ⟨by decide, by decide⟩ rfl rfl dX4_hedge_150 ?_
    intro u hu
    obtain ⟨ab_7, b_7⟩ := u
    show jj_W _ _ _ _ _ _ _ _ _ _ _ _ _ _ _ _ _ 153 _ [.long (lI (f_W up dn dv td n K St Ex Am He (va_up Ca 6 ((Ca 6) - (((1000 * pr) * x) + (y * (if 0 ≤ x then x else -x))))) (sh + x) pr)), .long (lI (Cz 3)), .int (iI 3), .ref (ad 14)] (wM ad cI cJ cZ 0 td pr up dn dv n K St Ex Am Ov Bi As BL AL He Co (va_up Ca 6 ((Ca 6) - (((1000 * pr) * x) + (y * (if 0 ≤ x then x else -x))))) mo (sh + x) y sd Cz ab_7 b_7 ++ E)
    refine jj_lload C0 0 rfl dX4_hedge_153 ?_
    refine jj_lsub C0 dX4_hedge_155 ?_
    refine jj_ladd C0 dX4_hedge_156 ?_
    refine jj_last C0 (q0 := 14) (t0 := 1) (f := Cz) (rfl) rfl (k := 3) (by omega) (by omega) (by decide) (ws' := wM ad cI cJ cZ 0 td pr up dn dv n K St Ex Am Ov Bi As BL AL He Co (va_up Ca 6 ((Ca 6) - (((1000 * pr) * x) + (y * (if 0 ≤ x then x else -x))))) mo (sh + x) y sd (va_up Cz 3 ((Cz 3) + ((f_W up dn dv td n K St Ex Am He (va_up Ca 6 ((Ca 6) - (((1000 * pr) * x) + (y * (if 0 ≤ x then x else -x))))) (sh + x) pr) - (f_W up dn dv td n K St Ex Am He Ca sh pr)))) ab_7 b_7 ++ E) (rfl) dX4_hedge_157 ?_
    refine jj_aload_n C0 2 rfl dX4_hedge_158 ?_
    refine jj_get C0 (ci := 5) (v := .int (iI (sh + x))) hin_X4 (0) (rfl) rfl 20 (by decide) (hw _ hU_806) (fun _ h9 => h9) rfl dX4_hedge_159 ?_
    exact jj_iret C0 hr (ab_7, b_7) (trivial) (rfl) (rfl) (by decide) (by decide) dX4_hedge_162
  intro j133
  refine jj_if_ge C0 (by omega) dX4_hedge_124 (tgt := 132) (by decide) (fun c_8 => ?_) (fun c_8 => ?_)
  · refine jj_iload_n C0 3 rfl dX4_hedge_132 ?_
    refine jj_topi (b := (if 0 ≤ x then x else -x)) (by first | rw [if_pos (by omega)] | rw [if_neg (by omega)]) ?_
    exact j133 () trivial
  · refine jj_iload_n C0 3 rfl dX4_hedge_127 ?_
    refine jj_ineg C0 dX4_hedge_128 ?_
    refine jj_goto C0 (tgt := 133) dX4_hedge_129 (by decide) ?_
    refine jj_topi (b := (if 0 ≤ x then x else -x)) (by first | rw [if_pos (by omega)] | rw [if_neg (by omega)]) ?_
    exact j133 () trivial
set_option maxHeartbeats 4000000 in
set_option maxRecDepth 100000 in
theorem cb_X4_hedge (hEV : jj_EV EV) {x y : Int} {kk : Int} (hx : iR x) (hy : iR y) (hsh : -100000 ≤ sh ∧ sh ≤ 100000) (hbad : ¬ (-10000 ≤ x ∧ x ≤ 10000 ∧ 0 ≤ y ∧ y ≤ 10000 ∧ -100000 ≤ sh + x ∧ sh + x ≤ 100000) ∧ kk = 1) : jj_Mi EV (dC, dI) vwCl [(cI, .int), (cJ, .long), (cZ, .boolean), (cO, .object "java/lang/Object")] l yX4_hedge (Cond.code yX4_hedge cX4_hedge 6 (some .int) :: lw_U) ({ frames := 1, cells := 0, slots := 0, locals := 25 } : Room) [.ref (ad 0), .int (iI x), .int (iI y)] (wM ad cI cJ cZ th td pr up dn dv n K St Ex Am Ov Bi As BL AL He Co Ca mo sh co sd Cz Ab be ++ E) (S := Int) (fun u => u) (fun u => True) (fun u => wM ad cI cJ cZ kk td pr up dn dv n K St Ex Am Ov Bi As BL AL He Co Ca mo sh co sd Cz Ab be ++ E) := by
  refine jj_start (cc := cX4_hedge) (nL := 6) (ret := (some .int)) (lv := [(0, .ref (ad 0)), (1, .int (iI x)), (2, .int (iI y))]) (fun A => jj_Qi _ _ _ _ _ _ A) hEV (by decide) rfl (Nat.le_of_ble_eq_true rfl) rfl ?_
  intro p9 e9 s9 m9 a9 b9 me9 c9 A9 C1 hr hin
  have C0 : jj_C p9 s9 m9 a9 me9 c9 (dC, dI) vwCl A9 6 cX4_hedge "StrikehallModel" lw_U _ EV := jj_toU C1
  have hw := C0.2.2.2.2.1
  refine jj_iload_n C0 1 rfl dX4_hedge_0 ?_
  refine jj_i2l C0 (by omega) dX4_hedge_1 ?_
  refine jj_ldc2 C0 (z := -10000) (by decide) (hw _ hU_973) dX4_hedge_2 ?_
  refine jj_ldc2 C0 (z := 10000) (by decide) (hw _ hU_974) dX4_hedge_5 ?_
  refine jj_callSi C0 (cc_X4_in hEV (v := x) (lo := (-10000)) (hi := 10000) (by omega) (by omega) (by omega)) (cwS 3 hw (lw_gS hU_874 hU_875 hU_66 hU_876) rfl rfl rfl (by decide +kernel) ⟨Nat.le_of_ble_eq_true rfl, Nat.le_of_ble_eq_true rfl⟩) rfl rfl (Nat.le_of_ble_eq_true rfl) ⟨by decide, by decide⟩ rfl rfl dX4_hedge_8 ?_
  intro u_1 hu
  have hu_8 : (u_1 = 1 ∧ (-10000) ≤ x ∧ x ≤ 10000) ∨ (u_1 = 0 ∧ (x < (-10000) ∨ 10000 < x)) := hu
  show jj_W _ _ _ _ _ _ _ _ _ _ _ _ _ _ _ _ _ 11 _ [.int (iI u_1)] (wM ad cI cJ cZ th td pr up dn dv n K St Ex Am Ov Bi As BL AL He Co Ca mo sh co sd Cz Ab be ++ E)
  refine jj_if_eq C0 (by omega) dX4_hedge_11 (tgt := 49) (by decide) (fun c_2 => ?_) (fun c_2 => ?_)
  · refine jj_iconst C0 dX4_hedge_49 ?_
    refine jj_istore_n C0 (i := 3) rfl (lv' := [(3, .int (iI 0)), (0, .ref (ad 0)), (1, .int (iI x)), (2, .int (iI y))]) (by decide) rfl dX4_hedge_50 ?_
    refine jj_aload_n C0 1 rfl dX4_hedge_51 ?_
    refine jj_iload_n C0 0 rfl dX4_hedge_52 ?_
    refine jj_if_eq C0 (by omega) dX4_hedge_53 (tgt := 60) (by decide) (fun c_3 => ?_) (fun c_3 => absurd c_3 (by omega))
    refine jj_iconst C0 dX4_hedge_60 ?_
    refine jj_put C0 (ci := 5) (v := .int (iI 1)) (ty := .int) hin_X4 tyX4 tyX4_ok nmX4 (0) (rfl) rfl 0 (by decide) (hw _ hU_786) (fun _ h9 => h9) rfl (by decide +kernel) (rfl) rfl (Nat.le_of_ble_eq_true rfl) (ws' := wM ad cI cJ cZ 1 td pr up dn dv n K St Ex Am Ov Bi As BL AL He Co Ca mo sh co sd Cz Ab be ++ E) (rfl) dX4_hedge_61 ?_
    refine jj_aload_n C0 1 rfl dX4_hedge_64 ?_
    refine jj_get C0 (ci := 5) (v := .int (iI 1)) hin_X4 (0) (rfl) rfl 0 (by decide) (hw _ hU_786) (fun _ h9 => h9) rfl dX4_hedge_65 ?_
    refine jj_if_le C0 (by omega) dX4_hedge_68 (tgt := 73) (by decide) (fun c_4 => absurd c_4 (by omega)) (fun c_4 => ?_)
    refine jj_iconst C0 dX4_hedge_71 ?_
    obtain rfl : kk = 1 := by omega
    exact jj_iret C0 hr 0 (trivial) (rfl) (rfl) (by decide) (by decide) dX4_hedge_72
  · refine jj_iload_n C0 2 rfl dX4_hedge_14 ?_
    refine jj_i2l C0 (by omega) dX4_hedge_15 ?_
    refine jj_lconst C0 (z := 0) (by decide) dX4_hedge_16 ?_
    refine jj_ldc2 C0 (z := 10000) (by decide) (hw _ hU_974) dX4_hedge_17 ?_
    refine jj_callSi C0 (cc_X4_in hEV (v := y) (lo := 0) (hi := 10000) (by omega) (by omega) (by omega)) (cwS 3 hw (lw_gS hU_874 hU_875 hU_66 hU_876) rfl rfl rfl (by decide +kernel) ⟨Nat.le_of_ble_eq_true rfl, Nat.le_of_ble_eq_true rfl⟩) rfl rfl (Nat.le_of_ble_eq_true rfl) ⟨by decide, by decide⟩ rfl rfl dX4_hedge_20 ?_
    intro u_5 hu
    have hu_20 : (u_5 = 1 ∧ 0 ≤ y ∧ y ≤ 10000) ∨ (u_5 = 0 ∧ (y < 0 ∨ 10000 < y)) := hu
    show jj_W _ _ _ _ _ _ _ _ _ _ _ _ _ _ _ _ _ 23 _ [.int (iI u_5)] (wM ad cI cJ cZ th td pr up dn dv n K St Ex Am Ov Bi As BL AL He Co Ca mo sh co sd Cz Ab be ++ E)
    refine jj_if_eq C0 (by omega) dX4_hedge_23 (tgt := 49) (by decide) (fun c_6 => ?_) (fun c_6 => ?_)
    · refine jj_iconst C0 dX4_hedge_49 ?_
      refine jj_istore_n C0 (i := 3) rfl (lv' := [(3, .int (iI 0)), (0, .ref (ad 0)), (1, .int (iI x)), (2, .int (iI y))]) (by decide) rfl dX4_hedge_50 ?_
      refine jj_aload_n C0 1 rfl dX4_hedge_51 ?_
      refine jj_iload_n C0 0 rfl dX4_hedge_52 ?_
      refine jj_if_eq C0 (by omega) dX4_hedge_53 (tgt := 60) (by decide) (fun c_7 => ?_) (fun c_7 => absurd c_7 (by omega))
      refine jj_iconst C0 dX4_hedge_60 ?_
      refine jj_put C0 (ci := 5) (v := .int (iI 1)) (ty := .int) hin_X4 tyX4 tyX4_ok nmX4 (0) (rfl) rfl 0 (by decide) (hw _ hU_786) (fun _ h9 => h9) rfl (by decide +kernel) (rfl) rfl (Nat.le_of_ble_eq_true rfl) (ws' := wM ad cI cJ cZ 1 td pr up dn dv n K St Ex Am Ov Bi As BL AL He Co Ca mo sh co sd Cz Ab be ++ E) (rfl) dX4_hedge_61 ?_
      refine jj_aload_n C0 1 rfl dX4_hedge_64 ?_
      refine jj_get C0 (ci := 5) (v := .int (iI 1)) hin_X4 (0) (rfl) rfl 0 (by decide) (hw _ hU_786) (fun _ h9 => h9) rfl dX4_hedge_65 ?_
      refine jj_if_le C0 (by omega) dX4_hedge_68 (tgt := 73) (by decide) (fun c_8 => absurd c_8 (by omega)) (fun c_8 => ?_)
      refine jj_iconst C0 dX4_hedge_71 ?_
      obtain rfl : kk = 1 := by omega
      exact jj_iret C0 hr 0 (trivial) (rfl) (rfl) (by decide) (by decide) dX4_hedge_72
    · refine jj_aload_n C0 0 rfl dX4_hedge_26 ?_
      refine jj_get C0 (ci := 5) (v := .int (iI sh)) hin_X4 (0) (rfl) rfl 20 (by decide) (hw _ hU_806) (fun _ h9 => h9) rfl dX4_hedge_27 ?_
      refine jj_iload_n C0 1 rfl dX4_hedge_30 ?_
      refine jj_iadd C0 dX4_hedge_31 ?_
      refine jj_i2l C0 (by omega) dX4_hedge_32 ?_
      refine jj_ldc2 C0 (z := -100000) (by decide) (hw _ hU_975) dX4_hedge_33 ?_
      refine jj_ldc2 C0 (z := 100000) (by decide) (hw _ hU_976) dX4_hedge_36 ?_
      refine jj_callSi C0 (cc_X4_in hEV (v := (sh + x)) (lo := (-100000)) (hi := 100000) (by omega) (by omega) (by omega)) (cwS 3 hw (lw_gS hU_874 hU_875 hU_66 hU_876) rfl rfl rfl (by decide +kernel) ⟨Nat.le_of_ble_eq_true rfl, Nat.le_of_ble_eq_true rfl⟩) rfl rfl (Nat.le_of_ble_eq_true rfl) ⟨by decide, by decide⟩ rfl rfl dX4_hedge_39 ?_
      intro u_9 hu
      have hu_39 : (u_9 = 1 ∧ (-100000) ≤ (sh + x) ∧ (sh + x) ≤ 100000) ∨ (u_9 = 0 ∧ ((sh + x) < (-100000) ∨ 100000 < (sh + x))) := hu
      show jj_W _ _ _ _ _ _ _ _ _ _ _ _ _ _ _ _ _ 42 _ [.int (iI u_9)] (wM ad cI cJ cZ th td pr up dn dv n K St Ex Am Ov Bi As BL AL He Co Ca mo sh co sd Cz Ab be ++ E)
      refine jj_if_eq C0 (by omega) dX4_hedge_42 (tgt := 49) (by decide) (fun c_10 => ?_) (fun c_10 => ?_)
      · refine jj_iconst C0 dX4_hedge_49 ?_
        refine jj_istore_n C0 (i := 3) rfl (lv' := [(3, .int (iI 0)), (0, .ref (ad 0)), (1, .int (iI x)), (2, .int (iI y))]) (by decide) rfl dX4_hedge_50 ?_
        refine jj_aload_n C0 1 rfl dX4_hedge_51 ?_
        refine jj_iload_n C0 0 rfl dX4_hedge_52 ?_
        refine jj_if_eq C0 (by omega) dX4_hedge_53 (tgt := 60) (by decide) (fun c_11 => ?_) (fun c_11 => absurd c_11 (by omega))
        refine jj_iconst C0 dX4_hedge_60 ?_
        refine jj_put C0 (ci := 5) (v := .int (iI 1)) (ty := .int) hin_X4 tyX4 tyX4_ok nmX4 (0) (rfl) rfl 0 (by decide) (hw _ hU_786) (fun _ h9 => h9) rfl (by decide +kernel) (rfl) rfl (Nat.le_of_ble_eq_true rfl) (ws' := wM ad cI cJ cZ 1 td pr up dn dv n K St Ex Am Ov Bi As BL AL He Co Ca mo sh co sd Cz Ab be ++ E) (rfl) dX4_hedge_61 ?_
        refine jj_aload_n C0 1 rfl dX4_hedge_64 ?_
        refine jj_get C0 (ci := 5) (v := .int (iI 1)) hin_X4 (0) (rfl) rfl 0 (by decide) (hw _ hU_786) (fun _ h9 => h9) rfl dX4_hedge_65 ?_
        refine jj_if_le C0 (by omega) dX4_hedge_68 (tgt := 73) (by decide) (fun c_12 => absurd c_12 (by omega)) (fun c_12 => ?_)
        refine jj_iconst C0 dX4_hedge_71 ?_
        obtain rfl : kk = 1 := by omega
        exact jj_iret C0 hr 0 (trivial) (rfl) (rfl) (by decide) (by decide) dX4_hedge_72
      · refine jj_iconst C0 dX4_hedge_45 ?_
        refine jj_goto C0 (tgt := 50) dX4_hedge_46 (by decide) ?_
        refine jj_istore_n C0 (i := 3) rfl (lv' := [(3, .int (iI 1)), (0, .ref (ad 0)), (1, .int (iI x)), (2, .int (iI y))]) (by decide) rfl dX4_hedge_50 ?_
        refine jj_aload_n C0 1 rfl dX4_hedge_51 ?_
        refine jj_iload_n C0 0 rfl dX4_hedge_52 ?_
        refine jj_if_eq C0 (by omega) dX4_hedge_53 (tgt := 60) (by decide) (fun c_13 => absurd c_13 (by omega)) (fun c_13 => ?_)
        refine jj_iconst C0 dX4_hedge_56 ?_
        refine jj_goto C0 (tgt := 61) dX4_hedge_57 (by decide) ?_
        refine jj_put C0 (ci := 5) (v := .int (iI 0)) (ty := .int) hin_X4 tyX4 tyX4_ok nmX4 (0) (rfl) rfl 0 (by decide) (hw _ hU_786) (fun _ h9 => h9) rfl (by decide +kernel) (rfl) rfl (Nat.le_of_ble_eq_true rfl) (ws' := wM ad cI cJ cZ 0 td pr up dn dv n K St Ex Am Ov Bi As BL AL He Co Ca mo sh co sd Cz Ab be ++ E) (rfl) dX4_hedge_61 ?_
        refine jj_aload_n C0 1 rfl dX4_hedge_64 ?_
        refine jj_get C0 (ci := 5) (v := .int (iI 0)) hin_X4 (0) (rfl) rfl 0 (by decide) (hw _ hU_786) (fun _ h9 => h9) rfl dX4_hedge_65 ?_
        refine jj_if_le C0 (by omega) dX4_hedge_68 (tgt := 73) (by decide) (fun c_14 => ?_) (fun c_14 => absurd c_14 (by omega))
        exfalso
        omega
end MM2
