section MM3
variable {EV : (Nat → Prop) → State → Heap → Prop} {l : Launch} {dC : Nat → ClassId} {dI : Nat → Nat → Nat} {cI cJ cZ cO : ClassId} {E : va_W} {ad : Nat → Nat} {ws : va_W} {th : Int} {td : Nat} {pr up dn : Int} {dv : Nat → Int} {n : Nat} {K St Ex Am Ov Bi As BL AL He Co Ca : Nat → Int} {mo sh co sd : Int} {Cz Ab : Nat → Int} {be : Int}
set_option maxHeartbeats 4000000 in
set_option maxRecDepth 100000 in
theorem cc_X4_atz (hEV : jj_EV EV) {k c : Nat} {z : Int} (hzk : (z = -1 ∧ k = 6) ∨ (z = (k : Int) ∧ k ≤ 5)) (hc : c ≤ 12) : jj_Mi EV (dC, dI) vwCl [(cI, .int), (cJ, .long), (cZ, .boolean), (cO, .object "java/lang/Object")] l yX4_at (Cond.code yX4_at cX4_at 2 (some .int) :: lw_U) ({ frames := 0, cells := 0, slots := 0, locals := 0 } : Room) [.int (iI z), .int (iI (c : Int))] (wM ad cI cJ cZ th td pr up dn dv n K St Ex Am Ov Bi As BL AL He Co Ca mo sh co sd Cz Ab be ++ E) (S := Unit) (fun _ => ((7 * c + k : Nat) : Int)) (fun _ => True) (fun _ => wM ad cI cJ cZ th td pr up dn dv n K St Ex Am Ov Bi As BL AL He Co Ca mo sh co sd Cz Ab be ++ E) := by
  refine jj_start (cc := cX4_at) (nL := 2) (ret := (some .int)) (lv := [(0, .int (iI z)), (1, .int (iI (c : Int)))]) (fun A => jj_Qi _ _ _ _ _ _ A) hEV (by decide) rfl (Nat.le_of_ble_eq_true rfl) rfl ?_
  intro p9 e9 s9 m9 a9 b9 me9 c9 A9 C1 hr hin
  have C0 : jj_C p9 s9 m9 a9 me9 c9 (dC, dI) vwCl A9 2 cX4_at "StrikehallModel" lw_U _ EV := jj_toU C1
  have hw := C0.2.2.2.2.1
  refine jj_bipush C0 dX4_at_0 (by decide) ?_
  refine jj_iload_n C0 1 rfl dX4_at_2 ?_
  refine jj_imul C0 dX4_at_3 ?_
  refine jj_iload_n C0 0 rfl dX4_at_4 ?_
  refine jj_iconst C0 dX4_at_5 ?_
  refine jj_icmp_ne C0 (by omega) (by omega) dX4_at_6 (tgt := 14) (by decide) (fun c_1 => ?_) (fun c_1 => ?_)
  · refine jj_iload_n C0 0 rfl dX4_at_14 ?_
    refine jj_iadd C0 dX4_at_15 ?_
    exact jj_iret C0 hr () (trivial) (by omega) (rfl) (by decide) (by decide) dX4_at_16
  · refine jj_bipush C0 dX4_at_9 (by decide) ?_
    refine jj_goto C0 (tgt := 15) dX4_at_11 (by decide) ?_
    refine jj_iadd C0 dX4_at_15 ?_
    exact jj_iret C0 hr () (trivial) (by omega) (rfl) (by decide) (by decide) dX4_at_16
set_option maxHeartbeats 4000000 in
set_option maxRecDepth 100000 in
theorem cc_X4_mark (hEV : jj_EV EV) {c : Nat} (hcn : c < n) (hovs : ∀ c, c < n → (Ov c = 1 ∧ Ex c < (td : Int)) ∨ (Ov c = 0 ∧ (td : Int) ≤ Ex c)) (hexs : ∀ c, c < n → Ex c ≤ (td : Int) + 10 ∧ Ex c ≤ 200) (hn : n ≤ 12) (htd : td ≤ 200) (hpr : 0 ≤ pr ∧ pr ≤ 20000) (hup : 1 ≤ up ∧ up ≤ 10) (hdn : 1 ≤ dn ∧ dn ≤ 10) (hdv : ∀ j, 0 ≤ dv j ∧ dv j ≤ 1000) (hK : ∀ j, 0 ≤ K j ∧ K j ≤ 1) (hSt : ∀ j, 0 ≤ St j ∧ St j ≤ 20000) (hEx : ∀ j, 0 ≤ Ex j ∧ Ex j ≤ 200) (hAm : ∀ j, 0 ≤ Am j ∧ Am j ≤ 1) (hOv : ∀ j, 0 ≤ Ov j ∧ Ov j ≤ 1) : jj_Mi EV (dC, dI) vwCl [(cI, .int), (cJ, .long), (cZ, .boolean), (cO, .object "java/lang/Object")] l yX4_mark (Cond.code yX4_mark cX4_mark 2 (some .int) :: lw_U) ({ frames := 3, cells := 0, slots := 0, locals := 77 } : Room) [.ref (ad 0), .int (iI (c : Int))] (wM ad cI cJ cZ th td pr up dn dv n K St Ex Am Ov Bi As BL AL He Co Ca mo sh co sd Cz Ab be ++ E) (S := (Nat → Int) × Int) (fun ⟨ab, b⟩ => (f_mark up dn dv td (K c) (St c) (Ex c) (Am c) pr)) (fun ⟨ab, b⟩ => True) (fun ⟨ab, b⟩ => wM ad cI cJ cZ 0 td pr up dn dv n K St Ex Am Ov Bi As BL AL He Co Ca mo sh co sd Cz ab b ++ E) := by
  refine jj_start (cc := cX4_mark) (nL := 2) (ret := (some .int)) (lv := [(0, .ref (ad 0)), (1, .int (iI (c : Int)))]) (fun A => jj_Qi _ _ _ _ _ _ A) hEV (by decide) rfl (Nat.le_of_ble_eq_true rfl) rfl ?_
  intro p9 e9 s9 m9 a9 b9 me9 c9 A9 C1 hr hin
  have C0 : jj_C p9 s9 m9 a9 me9 c9 (dC, dI) vwCl A9 2 cX4_mark "StrikehallModel" lw_U _ EV := jj_toU C1
  have hw := C0.2.2.2.2.1
  refine jj_aload_n C0 0 rfl dX4_mark_0 ?_
  refine jj_aload_n C0 0 rfl dX4_mark_1 ?_
  refine jj_iload_n C0 1 rfl dX4_mark_2 ?_
  refine jj_callVi C0 (cc_X4_isContract1 hEV (c := c) (by first | exact hcn | omega) (by first | exact hn | omega)) (cwV 1 hw (lw_gV hU_920 hU_922 hU_47 hU_66 hU_923) rfl rfl rfl (by decide +kernel) ⟨Nat.le_of_ble_eq_true rfl, Nat.le_of_ble_eq_true rfl⟩) (ci := 5) (q0 := 0) rfl (rfl) rfl rfl (Nat.le_of_ble_eq_true rfl) ⟨by decide, by decide⟩ rfl rfl dX4_mark_3 ?_
  intro _ hu
  show jj_W _ _ _ _ _ _ _ _ _ _ _ _ _ _ _ _ _ 6 _ [.int (iI 1), .ref (ad 0)] (wM ad cI cJ cZ th td pr up dn dv n K St Ex Am Ov Bi As BL AL He Co Ca mo sh co sd Cz Ab be ++ E)
  refine jj_if_eq C0 (by omega) dX4_mark_6 (tgt := 13) (by decide) (fun c_1 => absurd c_1 (by omega)) (fun c_1 => ?_)
  refine jj_iconst C0 dX4_mark_9 ?_
  refine jj_goto C0 (tgt := 14) dX4_mark_10 (by decide) ?_
  refine jj_put C0 (ci := 5) (v := .int (iI 0)) (ty := .int) hin_X4 tyX4 tyX4_ok nmX4 (0) (rfl) rfl 0 (by decide) (hw _ hU_786) (fun _ h9 => h9) rfl (by decide +kernel) (rfl) rfl (Nat.le_of_ble_eq_true rfl) (ws' := wM ad cI cJ cZ 0 td pr up dn dv n K St Ex Am Ov Bi As BL AL He Co Ca mo sh co sd Cz Ab be ++ E) (rfl) dX4_mark_14 ?_
  refine jj_aload_n C0 0 rfl dX4_mark_17 ?_
  refine jj_get C0 (ci := 5) (v := .int (iI 0)) hin_X4 (0) (rfl) rfl 0 (by decide) (hw _ hU_786) (fun _ h9 => h9) rfl dX4_mark_18 ?_
  refine jj_if_le C0 (by omega) dX4_mark_21 (tgt := 28) (by decide) (fun c_2 => ?_) (fun c_2 => absurd c_2 (by omega))
  refine jj_aload_n C0 0 rfl dX4_mark_28 ?_
  refine jj_iload_n C0 1 rfl dX4_mark_29 ?_
  refine jj_aload_n C0 0 rfl dX4_mark_30 ?_
  refine jj_get C0 (ci := 5) (v := .int (iI pr)) hin_X4 (0) (rfl) rfl 2 (by decide) (hw _ hU_788) (fun _ h9 => h9) rfl dX4_mark_31 ?_
  refine jj_callVl C0 (cc_X4_markAt hEV (c := c) (fr := pr) (by omega) (hovs c hcn) (hexs c hcn) (by first | exact htd | omega) (by omega) (by first | exact hup | omega) (by first | exact hdn | omega) (by first | exact hdv | omega) (by first | exact hK | omega) (by first | exact hSt | omega) (by first | exact hEx | omega) (by first | exact hAm | omega) (by first | exact hOv | omega)) (cwV 2 hw (lw_gV hU_885 hU_887 hU_43 hU_66 hU_888) rfl rfl rfl (by decide +kernel) ⟨Nat.le_of_ble_eq_true rfl, Nat.le_of_ble_eq_true rfl⟩) (ci := 5) (q0 := 0) rfl (rfl) rfl rfl (Nat.le_of_ble_eq_true rfl) ⟨by decide, by decide⟩ rfl rfl dX4_mark_34 ?_
  intro u hu
  obtain ⟨ab_3, b_3⟩ := u
  show jj_W _ _ _ _ _ _ _ _ _ _ _ _ _ _ _ _ _ 37 _ [.long (lI (f_mark up dn dv td (K c) (St c) (Ex c) (Am c) pr))] (wM ad cI cJ cZ 0 td pr up dn dv n K St Ex Am Ov Bi As BL AL He Co Ca mo sh co sd Cz ab_3 b_3 ++ E)
  refine jj_l2i C0 dX4_mark_37 ?_
  exact jj_iret C0 hr (ab_3, b_3) (trivial) (rfl) (rfl) (by decide) (by decide) dX4_mark_38
set_option maxHeartbeats 4000000 in
set_option maxRecDepth 100000 in
theorem cb_X4_mark (hEV : jj_EV EV) {z : Int} {kk : Int} (hz : iR z) (hn : n ≤ 12) (hbad : ¬ (0 ≤ z ∧ z < (n : Int)) ∧ kk = 1) : jj_Mi EV (dC, dI) vwCl [(cI, .int), (cJ, .long), (cZ, .boolean), (cO, .object "java/lang/Object")] l yX4_mark (Cond.code yX4_mark cX4_mark 2 (some .int) :: lw_U) ({ frames := 2, cells := 0, slots := 0, locals := 46 } : Room) [.ref (ad 0), .int (iI z)] (wM ad cI cJ cZ th td pr up dn dv n K St Ex Am Ov Bi As BL AL He Co Ca mo sh co sd Cz Ab be ++ E) (S := Int) (fun u => u) (fun u => True) (fun u => wM ad cI cJ cZ kk td pr up dn dv n K St Ex Am Ov Bi As BL AL He Co Ca mo sh co sd Cz Ab be ++ E) := by
  refine jj_start (cc := cX4_mark) (nL := 2) (ret := (some .int)) (lv := [(0, .ref (ad 0)), (1, .int (iI z))]) (fun A => jj_Qi _ _ _ _ _ _ A) hEV (by decide) rfl (Nat.le_of_ble_eq_true rfl) rfl ?_
  intro p9 e9 s9 m9 a9 b9 me9 c9 A9 C1 hr hin
  have C0 : jj_C p9 s9 m9 a9 me9 c9 (dC, dI) vwCl A9 2 cX4_mark "StrikehallModel" lw_U _ EV := jj_toU C1
  have hw := C0.2.2.2.2.1
  refine jj_aload_n C0 0 rfl dX4_mark_0 ?_
  refine jj_aload_n C0 0 rfl dX4_mark_1 ?_
  refine jj_iload_n C0 1 rfl dX4_mark_2 ?_
  refine jj_callVi C0 (cc_X4_isContract hEV (z := z) (by first | exact hz | omega) (by first | exact hn | omega)) (cwV 1 hw (lw_gV hU_920 hU_922 hU_47 hU_66 hU_923) rfl rfl rfl (by decide +kernel) ⟨Nat.le_of_ble_eq_true rfl, Nat.le_of_ble_eq_true rfl⟩) (ci := 5) (q0 := 0) rfl (rfl) rfl rfl (Nat.le_of_ble_eq_true rfl) ⟨by decide, by decide⟩ rfl rfl dX4_mark_3 ?_
  intro u_1 hu
  have hu_3 : (u_1 = 1 ∧ 0 ≤ z ∧ z ≤ (n : Int) - 1) ∨ (u_1 = 0 ∧ (z < 0 ∨ (n : Int) - 1 < z)) := hu
  show jj_W _ _ _ _ _ _ _ _ _ _ _ _ _ _ _ _ _ 6 _ [.int (iI u_1), .ref (ad 0)] (wM ad cI cJ cZ th td pr up dn dv n K St Ex Am Ov Bi As BL AL He Co Ca mo sh co sd Cz Ab be ++ E)
  refine jj_if_eq C0 (by omega) dX4_mark_6 (tgt := 13) (by decide) (fun c_2 => ?_) (fun c_2 => ?_)
  · refine jj_iconst C0 dX4_mark_13 ?_
    refine jj_put C0 (ci := 5) (v := .int (iI 1)) (ty := .int) hin_X4 tyX4 tyX4_ok nmX4 (0) (rfl) rfl 0 (by decide) (hw _ hU_786) (fun _ h9 => h9) rfl (by decide +kernel) (rfl) rfl (Nat.le_of_ble_eq_true rfl) (ws' := wM ad cI cJ cZ 1 td pr up dn dv n K St Ex Am Ov Bi As BL AL He Co Ca mo sh co sd Cz Ab be ++ E) (rfl) dX4_mark_14 ?_
    refine jj_aload_n C0 0 rfl dX4_mark_17 ?_
    refine jj_get C0 (ci := 5) (v := .int (iI 1)) hin_X4 (0) (rfl) rfl 0 (by decide) (hw _ hU_786) (fun _ h9 => h9) rfl dX4_mark_18 ?_
    refine jj_if_le C0 (by omega) dX4_mark_21 (tgt := 28) (by decide) (fun c_3 => absurd c_3 (by omega)) (fun c_3 => ?_)
    refine jj_iconst C0 dX4_mark_24 ?_
    refine jj_goto C0 (tgt := 38) dX4_mark_25 (by decide) ?_
    obtain rfl : kk = 1 := by omega
    exact jj_iret C0 hr 0 (trivial) (rfl) (rfl) (by decide) (by decide) dX4_mark_38
  · refine jj_iconst C0 dX4_mark_9 ?_
    refine jj_goto C0 (tgt := 14) dX4_mark_10 (by decide) ?_
    refine jj_put C0 (ci := 5) (v := .int (iI 0)) (ty := .int) hin_X4 tyX4 tyX4_ok nmX4 (0) (rfl) rfl 0 (by decide) (hw _ hU_786) (fun _ h9 => h9) rfl (by decide +kernel) (rfl) rfl (Nat.le_of_ble_eq_true rfl) (ws' := wM ad cI cJ cZ 0 td pr up dn dv n K St Ex Am Ov Bi As BL AL He Co Ca mo sh co sd Cz Ab be ++ E) (rfl) dX4_mark_14 ?_
    refine jj_aload_n C0 0 rfl dX4_mark_17 ?_
    refine jj_get C0 (ci := 5) (v := .int (iI 0)) hin_X4 (0) (rfl) rfl 0 (by decide) (hw _ hU_786) (fun _ h9 => h9) rfl dX4_mark_18 ?_
    refine jj_if_le C0 (by omega) dX4_mark_21 (tgt := 28) (by decide) (fun c_4 => ?_) (fun c_4 => absurd c_4 (by omega))
    exfalso
    omega
set_option maxHeartbeats 4000000 in
set_option maxRecDepth 100000 in
theorem cc_X4_markByWays (hEV : jj_EV EV) {c : Nat} (hcn : c < n) (hovs : ∀ c, c < n → (Ov c = 1 ∧ Ex c < (td : Int)) ∨ (Ov c = 0 ∧ (td : Int) ≤ Ex c)) (hexs : ∀ c, c < n → Ex c ≤ (td : Int) + 10 ∧ Ex c ≤ 200) (hn : n ≤ 12) (htd : td ≤ 200) (hpr : 0 ≤ pr ∧ pr ≤ 20000) (hup : 1 ≤ up ∧ up ≤ 10) (hdn : 1 ≤ dn ∧ dn ≤ 10) (hdv : ∀ j, 0 ≤ dv j ∧ dv j ≤ 1000) (hK : ∀ j, 0 ≤ K j ∧ K j ≤ 1) (hSt : ∀ j, 0 ≤ St j ∧ St j ≤ 20000) (hEx : ∀ j, 0 ≤ Ex j ∧ Ex j ≤ 200) (hAm : ∀ j, 0 ≤ Am j ∧ Am j ≤ 1) (hOv : ∀ j, 0 ≤ Ov j ∧ Ov j ≤ 1) : jj_Mi EV (dC, dI) vwCl [(cI, .int), (cJ, .long), (cZ, .boolean), (cO, .object "java/lang/Object")] l yX4_markByWays (Cond.code yX4_markByWays cX4_markByWays 2 (some .int) :: lw_U) ({ frames := 4, cells := 0, slots := 0, locals := 98 } : Room) [.ref (ad 0), .int (iI (c : Int))] (wM ad cI cJ cZ th td pr up dn dv n K St Ex Am Ov Bi As BL AL He Co Ca mo sh co sd Cz Ab be ++ E) (S := (Nat → Int) × Int) (fun ⟨ab, b⟩ => (f_mark up dn dv td (K c) (St c) (Ex c) (Am c) pr)) (fun ⟨ab, b⟩ => True) (fun ⟨ab, b⟩ => wM ad cI cJ cZ 0 td pr up dn dv n K St Ex Am Ov Bi As BL AL He Co Ca mo sh co sd Cz ab b ++ E) := by
  refine jj_start (cc := cX4_markByWays) (nL := 2) (ret := (some .int)) (lv := [(0, .ref (ad 0)), (1, .int (iI (c : Int)))]) (fun A => jj_Qi _ _ _ _ _ _ A) hEV (by decide) rfl (Nat.le_of_ble_eq_true rfl) rfl ?_
  intro p9 e9 s9 m9 a9 b9 me9 c9 A9 C1 hr hin
  have C0 : jj_C p9 s9 m9 a9 me9 c9 (dC, dI) vwCl A9 2 cX4_markByWays "StrikehallModel" lw_U _ EV := jj_toU C1
  have hw := C0.2.2.2.2.1
  refine jj_aload_n C0 0 rfl dX4_markByWays_0 ?_
  refine jj_iload_n C0 1 rfl dX4_markByWays_1 ?_
  refine jj_callVi C0 (cc_X4_mark hEV (c := c) (by first | exact hcn | omega) (by first | exact hovs | omega) (by first | exact hexs | omega) (by first | exact hn | omega) (by first | exact htd | omega) (by first | exact hpr | omega) (by first | exact hup | omega) (by first | exact hdn | omega) (by first | exact hdv | omega) (by first | exact hK | omega) (by first | exact hSt | omega) (by first | exact hEx | omega) (by first | exact hAm | omega) (by first | exact hOv | omega)) (cwV 1 hw (lw_gV hU_1032 hU_1025 hU_1026 hU_66 hU_1027) rfl rfl rfl (by decide +kernel) ⟨Nat.le_of_ble_eq_true rfl, Nat.le_of_ble_eq_true rfl⟩) (ci := 5) (q0 := 0) rfl (rfl) rfl rfl (Nat.le_of_ble_eq_true rfl) ⟨by decide, by decide⟩ rfl rfl dX4_markByWays_2 ?_
  intro u hu
  obtain ⟨ab_1, b_1⟩ := u
  show jj_W _ _ _ _ _ _ _ _ _ _ _ _ _ _ _ _ _ 5 _ [.int (iI (f_mark up dn dv td (K c) (St c) (Ex c) (Am c) pr))] (wM ad cI cJ cZ 0 td pr up dn dv n K St Ex Am Ov Bi As BL AL He Co Ca mo sh co sd Cz ab_1 b_1 ++ E)
  exact jj_iret C0 hr (ab_1, b_1) (trivial) (rfl) (rfl) (by decide) (by decide) dX4_markByWays_5
set_option maxHeartbeats 4000000 in
set_option maxRecDepth 100000 in
theorem cb_X4_markByWays (hEV : jj_EV EV) {z kk : Int} (hz : iR z) (hn : n ≤ 12) (hbad : ¬ (0 ≤ z ∧ z < (n : Int)) ∧ kk = 1) : jj_Mi EV (dC, dI) vwCl [(cI, .int), (cJ, .long), (cZ, .boolean), (cO, .object "java/lang/Object")] l yX4_markByWays (Cond.code yX4_markByWays cX4_markByWays 2 (some .int) :: lw_U) ({ frames := 3, cells := 0, slots := 0, locals := 67 } : Room) [.ref (ad 0), .int (iI z)] (wM ad cI cJ cZ th td pr up dn dv n K St Ex Am Ov Bi As BL AL He Co Ca mo sh co sd Cz Ab be ++ E) (S := Int) (fun u => u) (fun u => True) (fun u => wM ad cI cJ cZ kk td pr up dn dv n K St Ex Am Ov Bi As BL AL He Co Ca mo sh co sd Cz Ab be ++ E) := by
  refine jj_start (cc := cX4_markByWays) (nL := 2) (ret := (some .int)) (lv := [(0, .ref (ad 0)), (1, .int (iI z))]) (fun A => jj_Qi _ _ _ _ _ _ A) hEV (by decide) rfl (Nat.le_of_ble_eq_true rfl) rfl ?_
  intro p9 e9 s9 m9 a9 b9 me9 c9 A9 C1 hr hin
  have C0 : jj_C p9 s9 m9 a9 me9 c9 (dC, dI) vwCl A9 2 cX4_markByWays "StrikehallModel" lw_U _ EV := jj_toU C1
  have hw := C0.2.2.2.2.1
  refine jj_aload_n C0 0 rfl dX4_markByWays_0 ?_
  refine jj_iload_n C0 1 rfl dX4_markByWays_1 ?_
  refine jj_callVi C0 (cb_X4_mark hEV (z := z) (kk := kk) (by first | exact hz | omega) (by first | exact hn | omega) hbad) (cwV 1 hw (lw_gV hU_1032 hU_1025 hU_1026 hU_66 hU_1027) rfl rfl rfl (by decide +kernel) ⟨Nat.le_of_ble_eq_true rfl, Nat.le_of_ble_eq_true rfl⟩) (ci := 5) (q0 := 0) rfl (rfl) rfl rfl (Nat.le_of_ble_eq_true rfl) ⟨by decide, by decide⟩ rfl rfl dX4_markByWays_2 ?_
  intro u_1 hu
  show jj_W _ _ _ _ _ _ _ _ _ _ _ _ _ _ _ _ _ 5 _ [.int (iI u_1)] (wM ad cI cJ cZ kk td pr up dn dv n K St Ex Am Ov Bi As BL AL He Co Ca mo sh co sd Cz Ab be ++ E)
  exact jj_iret C0 hr u_1 (trivial) (rfl) (rfl) (by decide) (by decide) dX4_markByWays_5
set_option maxHeartbeats 4000000 in
set_option maxRecDepth 100000 in
theorem cc_X4_lots (hEV : jj_EV EV) {c k : Nat} {z : Int} (hzk : (z = -1 ∧ k = 6) ∨ (z = (k : Int) ∧ k ≤ 5)) (hcn : c < n) (hn : n ≤ 12) : jj_Mi EV (dC, dI) vwCl [(cI, .int), (cJ, .long), (cZ, .boolean), (cO, .object "java/lang/Object")] l yX4_lots (Cond.code yX4_lots cX4_lots 3 (some .int) :: lw_U) ({ frames := 2, cells := 0, slots := 0, locals := 46 } : Room) [.ref (ad 0), .int (iI z), .int (iI (c : Int))] (wM ad cI cJ cZ th td pr up dn dv n K St Ex Am Ov Bi As BL AL He Co Ca mo sh co sd Cz Ab be ++ E) (S := Unit) (fun _ => (He (7 * c + k))) (fun _ => True) (fun _ => wM ad cI cJ cZ 0 td pr up dn dv n K St Ex Am Ov Bi As BL AL He Co Ca mo sh co sd Cz Ab be ++ E) := by
  refine jj_start (cc := cX4_lots) (nL := 3) (ret := (some .int)) (lv := [(0, .ref (ad 0)), (1, .int (iI z)), (2, .int (iI (c : Int)))]) (fun A => jj_Qi _ _ _ _ _ _ A) hEV (by decide) rfl (Nat.le_of_ble_eq_true rfl) rfl ?_
  intro p9 e9 s9 m9 a9 b9 me9 c9 A9 C1 hr hin
  have C0 : jj_C p9 s9 m9 a9 me9 c9 (dC, dI) vwCl A9 3 cX4_lots "StrikehallModel" lw_U _ EV := jj_toU C1
  have hw := C0.2.2.2.2.1
  refine jj_aload_n C0 0 rfl dX4_lots_0 ?_
  refine jj_iload_n C0 1 rfl dX4_lots_1 ?_
  refine jj_callSi C0 (cc_X4_isHolder1 hEV (z := z) (by omega)) (cwS 1 hw (lw_gS hU_985 hU_986 hU_66 hU_987) rfl rfl rfl (by decide +kernel) ⟨Nat.le_of_ble_eq_true rfl, Nat.le_of_ble_eq_true rfl⟩) rfl rfl (Nat.le_of_ble_eq_true rfl) ⟨by decide, by decide⟩ rfl rfl dX4_lots_2 ?_
  intro _ hu
  show jj_W _ _ _ _ _ _ _ _ _ _ _ _ _ _ _ _ _ 5 _ [.int (iI 1), .ref (ad 0)] (wM ad cI cJ cZ th td pr up dn dv n K St Ex Am Ov Bi As BL AL He Co Ca mo sh co sd Cz Ab be ++ E)
  refine jj_if_eq C0 (by omega) dX4_lots_5 (tgt := 20) (by decide) (fun c_1 => absurd c_1 (by omega)) (fun c_1 => ?_)
  refine jj_aload_n C0 0 rfl dX4_lots_8 ?_
  refine jj_iload_n C0 2 rfl dX4_lots_9 ?_
  refine jj_callVi C0 (cc_X4_isContract1 hEV (c := c) (by first | exact hcn | omega) (by first | exact hn | omega)) (cwV 1 hw (lw_gV hU_920 hU_922 hU_47 hU_66 hU_923) rfl rfl rfl (by decide +kernel) ⟨Nat.le_of_ble_eq_true rfl, Nat.le_of_ble_eq_true rfl⟩) (ci := 5) (q0 := 0) rfl (rfl) rfl rfl (Nat.le_of_ble_eq_true rfl) ⟨by decide, by decide⟩ rfl rfl dX4_lots_10 ?_
  intro _ hu
  show jj_W _ _ _ _ _ _ _ _ _ _ _ _ _ _ _ _ _ 13 _ [.int (iI 1), .ref (ad 0)] (wM ad cI cJ cZ th td pr up dn dv n K St Ex Am Ov Bi As BL AL He Co Ca mo sh co sd Cz Ab be ++ E)
  refine jj_if_eq C0 (by omega) dX4_lots_13 (tgt := 20) (by decide) (fun c_2 => absurd c_2 (by omega)) (fun c_2 => ?_)
  refine jj_iconst C0 dX4_lots_16 ?_
  refine jj_goto C0 (tgt := 21) dX4_lots_17 (by decide) ?_
  refine jj_put C0 (ci := 5) (v := .int (iI 0)) (ty := .int) hin_X4 tyX4 tyX4_ok nmX4 (0) (rfl) rfl 0 (by decide) (hw _ hU_786) (fun _ h9 => h9) rfl (by decide +kernel) (rfl) rfl (Nat.le_of_ble_eq_true rfl) (ws' := wM ad cI cJ cZ 0 td pr up dn dv n K St Ex Am Ov Bi As BL AL He Co Ca mo sh co sd Cz Ab be ++ E) (rfl) dX4_lots_21 ?_
  refine jj_aload_n C0 0 rfl dX4_lots_24 ?_
  refine jj_get C0 (ci := 5) (v := .int (iI 0)) hin_X4 (0) (rfl) rfl 0 (by decide) (hw _ hU_786) (fun _ h9 => h9) rfl dX4_lots_25 ?_
  refine jj_if_le C0 (by omega) dX4_lots_28 (tgt := 35) (by decide) (fun c_3 => ?_) (fun c_3 => absurd c_3 (by omega))
  refine jj_aload_n C0 0 rfl dX4_lots_35 ?_
  refine jj_get C0 (ci := 5) (v := .ref (ad 11)) hin_X4 (0) (rfl) rfl 16 (by decide) (hw _ hU_802) (fun _ h9 => h9) rfl dX4_lots_36 ?_
  refine jj_iload_n C0 1 rfl dX4_lots_39 ?_
  refine jj_iload_n C0 2 rfl dX4_lots_40 ?_
  refine jj_callSi C0 (cc_X4_atz hEV (z := z) (c := c) (k := k) (by first | exact hzk | omega) (by omega)) (cwS 2 hw (lw_gS hU_882 hU_883 hU_66 hU_884) rfl rfl rfl (by decide +kernel) ⟨Nat.le_of_ble_eq_true rfl, Nat.le_of_ble_eq_true rfl⟩) rfl rfl (Nat.le_of_ble_eq_true rfl) ⟨by decide, by decide⟩ rfl rfl dX4_lots_41 ?_
  intro _ hu
  show jj_W _ _ _ _ _ _ _ _ _ _ _ _ _ _ _ _ _ 44 _ [.int (iI ((7 * c + k : Nat) : Int)), .ref (ad 11)] (wM ad cI cJ cZ 0 td pr up dn dv n K St Ex Am Ov Bi As BL AL He Co Ca mo sh co sd Cz Ab be ++ E)
  refine jj_iald C0 (q0 := 11) (t0 := 0) (f := He) (rfl) rfl (k := (7 * c + k)) (by omega) (by omega) (by decide) dX4_lots_44 ?_
  exact jj_iret C0 hr () (trivial) (rfl) (rfl) (by decide) (by decide) dX4_lots_45
set_option maxHeartbeats 4000000 in
set_option maxRecDepth 100000 in
theorem cb_X4_lots (hEV : jj_EV EV) {x z : Int} {kk : Int} (hx : iR x) (hz : iR z) (hn : n ≤ 12) (hbad : ¬ (-1 ≤ x ∧ x ≤ 5 ∧ 0 ≤ z ∧ z < (n : Int)) ∧ kk = 1) : jj_Mi EV (dC, dI) vwCl [(cI, .int), (cJ, .long), (cZ, .boolean), (cO, .object "java/lang/Object")] l yX4_lots (Cond.code yX4_lots cX4_lots 3 (some .int) :: lw_U) ({ frames := 2, cells := 0, slots := 0, locals := 46 } : Room) [.ref (ad 0), .int (iI x), .int (iI z)] (wM ad cI cJ cZ th td pr up dn dv n K St Ex Am Ov Bi As BL AL He Co Ca mo sh co sd Cz Ab be ++ E) (S := Int) (fun u => u) (fun u => True) (fun u => wM ad cI cJ cZ kk td pr up dn dv n K St Ex Am Ov Bi As BL AL He Co Ca mo sh co sd Cz Ab be ++ E) := by
  refine jj_start (cc := cX4_lots) (nL := 3) (ret := (some .int)) (lv := [(0, .ref (ad 0)), (1, .int (iI x)), (2, .int (iI z))]) (fun A => jj_Qi _ _ _ _ _ _ A) hEV (by decide) rfl (Nat.le_of_ble_eq_true rfl) rfl ?_
  intro p9 e9 s9 m9 a9 b9 me9 c9 A9 C1 hr hin
  have C0 : jj_C p9 s9 m9 a9 me9 c9 (dC, dI) vwCl A9 3 cX4_lots "StrikehallModel" lw_U _ EV := jj_toU C1
  have hw := C0.2.2.2.2.1
  refine jj_aload_n C0 0 rfl dX4_lots_0 ?_
  refine jj_iload_n C0 1 rfl dX4_lots_1 ?_
  refine jj_callSi C0 (cc_X4_isHolder hEV (z := x) (by first | exact hz | omega)) (cwS 1 hw (lw_gS hU_985 hU_986 hU_66 hU_987) rfl rfl rfl (by decide +kernel) ⟨Nat.le_of_ble_eq_true rfl, Nat.le_of_ble_eq_true rfl⟩) rfl rfl (Nat.le_of_ble_eq_true rfl) ⟨by decide, by decide⟩ rfl rfl dX4_lots_2 ?_
  intro u_1 hu
  have hu_2 : (u_1 = 1 ∧ -1 ≤ x ∧ x ≤ 5) ∨ (u_1 = 0 ∧ (x < -1 ∨ 5 < x)) := hu
  show jj_W _ _ _ _ _ _ _ _ _ _ _ _ _ _ _ _ _ 5 _ [.int (iI u_1), .ref (ad 0)] (wM ad cI cJ cZ th td pr up dn dv n K St Ex Am Ov Bi As BL AL He Co Ca mo sh co sd Cz Ab be ++ E)
  refine jj_if_eq C0 (by omega) dX4_lots_5 (tgt := 20) (by decide) (fun c_2 => ?_) (fun c_2 => ?_)
  · refine jj_iconst C0 dX4_lots_20 ?_
    refine jj_put C0 (ci := 5) (v := .int (iI 1)) (ty := .int) hin_X4 tyX4 tyX4_ok nmX4 (0) (rfl) rfl 0 (by decide) (hw _ hU_786) (fun _ h9 => h9) rfl (by decide +kernel) (rfl) rfl (Nat.le_of_ble_eq_true rfl) (ws' := wM ad cI cJ cZ 1 td pr up dn dv n K St Ex Am Ov Bi As BL AL He Co Ca mo sh co sd Cz Ab be ++ E) (rfl) dX4_lots_21 ?_
    refine jj_aload_n C0 0 rfl dX4_lots_24 ?_
    refine jj_get C0 (ci := 5) (v := .int (iI 1)) hin_X4 (0) (rfl) rfl 0 (by decide) (hw _ hU_786) (fun _ h9 => h9) rfl dX4_lots_25 ?_
    refine jj_if_le C0 (by omega) dX4_lots_28 (tgt := 35) (by decide) (fun c_3 => absurd c_3 (by omega)) (fun c_3 => ?_)
    refine jj_iconst C0 dX4_lots_31 ?_
    refine jj_goto C0 (tgt := 45) dX4_lots_32 (by decide) ?_
    obtain rfl : kk = 1 := by omega
    exact jj_iret C0 hr 0 (trivial) (rfl) (rfl) (by decide) (by decide) dX4_lots_45
  · refine jj_aload_n C0 0 rfl dX4_lots_8 ?_
    refine jj_iload_n C0 2 rfl dX4_lots_9 ?_
    refine jj_callVi C0 (cc_X4_isContract hEV (z := z) (by first | exact hz | omega) (by first | exact hn | omega)) (cwV 1 hw (lw_gV hU_920 hU_922 hU_47 hU_66 hU_923) rfl rfl rfl (by decide +kernel) ⟨Nat.le_of_ble_eq_true rfl, Nat.le_of_ble_eq_true rfl⟩) (ci := 5) (q0 := 0) rfl (rfl) rfl rfl (Nat.le_of_ble_eq_true rfl) ⟨by decide, by decide⟩ rfl rfl dX4_lots_10 ?_
    intro u_4 hu
    have hu_10 : (u_4 = 1 ∧ 0 ≤ z ∧ z ≤ (n : Int) - 1) ∨ (u_4 = 0 ∧ (z < 0 ∨ (n : Int) - 1 < z)) := hu
    show jj_W _ _ _ _ _ _ _ _ _ _ _ _ _ _ _ _ _ 13 _ [.int (iI u_4), .ref (ad 0)] (wM ad cI cJ cZ th td pr up dn dv n K St Ex Am Ov Bi As BL AL He Co Ca mo sh co sd Cz Ab be ++ E)
    refine jj_if_eq C0 (by omega) dX4_lots_13 (tgt := 20) (by decide) (fun c_5 => ?_) (fun c_5 => ?_)
    · refine jj_iconst C0 dX4_lots_20 ?_
      refine jj_put C0 (ci := 5) (v := .int (iI 1)) (ty := .int) hin_X4 tyX4 tyX4_ok nmX4 (0) (rfl) rfl 0 (by decide) (hw _ hU_786) (fun _ h9 => h9) rfl (by decide +kernel) (rfl) rfl (Nat.le_of_ble_eq_true rfl) (ws' := wM ad cI cJ cZ 1 td pr up dn dv n K St Ex Am Ov Bi As BL AL He Co Ca mo sh co sd Cz Ab be ++ E) (rfl) dX4_lots_21 ?_
      refine jj_aload_n C0 0 rfl dX4_lots_24 ?_
      refine jj_get C0 (ci := 5) (v := .int (iI 1)) hin_X4 (0) (rfl) rfl 0 (by decide) (hw _ hU_786) (fun _ h9 => h9) rfl dX4_lots_25 ?_
      refine jj_if_le C0 (by omega) dX4_lots_28 (tgt := 35) (by decide) (fun c_6 => absurd c_6 (by omega)) (fun c_6 => ?_)
      refine jj_iconst C0 dX4_lots_31 ?_
      refine jj_goto C0 (tgt := 45) dX4_lots_32 (by decide) ?_
      obtain rfl : kk = 1 := by omega
      exact jj_iret C0 hr 0 (trivial) (rfl) (rfl) (by decide) (by decide) dX4_lots_45
    · refine jj_iconst C0 dX4_lots_16 ?_
      refine jj_goto C0 (tgt := 21) dX4_lots_17 (by decide) ?_
      refine jj_put C0 (ci := 5) (v := .int (iI 0)) (ty := .int) hin_X4 tyX4 tyX4_ok nmX4 (0) (rfl) rfl 0 (by decide) (hw _ hU_786) (fun _ h9 => h9) rfl (by decide +kernel) (rfl) rfl (Nat.le_of_ble_eq_true rfl) (ws' := wM ad cI cJ cZ 0 td pr up dn dv n K St Ex Am Ov Bi As BL AL He Co Ca mo sh co sd Cz Ab be ++ E) (rfl) dX4_lots_21 ?_
      refine jj_aload_n C0 0 rfl dX4_lots_24 ?_
      refine jj_get C0 (ci := 5) (v := .int (iI 0)) hin_X4 (0) (rfl) rfl 0 (by decide) (hw _ hU_786) (fun _ h9 => h9) rfl dX4_lots_25 ?_
      refine jj_if_le C0 (by omega) dX4_lots_28 (tgt := 35) (by decide) (fun c_7 => ?_) (fun c_7 => absurd c_7 (by omega))
      exfalso
      omega
set_option maxHeartbeats 4000000 in
set_option maxRecDepth 100000 in
theorem cc_X4_cash (hEV : jj_EV EV) {k : Nat} {z : Int} (hzk : (z = -1 ∧ k = 6) ∨ (z = (k : Int) ∧ k ≤ 5)) : jj_Ml EV (dC, dI) vwCl [(cI, .int), (cJ, .long), (cZ, .boolean), (cO, .object "java/lang/Object")] l yX4_cash (Cond.code yX4_cash cX4_cash 2 (some .long) :: lw_U) ({ frames := 2, cells := 0, slots := 0, locals := 45 } : Room) [.ref (ad 0), .int (iI z)] (wM ad cI cJ cZ th td pr up dn dv n K St Ex Am Ov Bi As BL AL He Co Ca mo sh co sd Cz Ab be ++ E) (S := Unit) (fun _ => (Ca k)) (fun _ => True) (fun _ => wM ad cI cJ cZ 0 td pr up dn dv n K St Ex Am Ov Bi As BL AL He Co Ca mo sh co sd Cz Ab be ++ E) := by
  refine jj_start (cc := cX4_cash) (nL := 2) (ret := (some .long)) (lv := [(0, .ref (ad 0)), (1, .int (iI z))]) (fun A => jj_Ql _ _ _ _ _ _ A) hEV (by decide) rfl (Nat.le_of_ble_eq_true rfl) rfl ?_
  intro p9 e9 s9 m9 a9 b9 me9 c9 A9 C1 hr hin
  have C0 : jj_C p9 s9 m9 a9 me9 c9 (dC, dI) vwCl A9 2 cX4_cash "StrikehallModel" lw_U _ EV := jj_toU C1
  have hw := C0.2.2.2.2.1
  refine jj_aload_n C0 0 rfl dX4_cash_0 ?_
  refine jj_iload_n C0 1 rfl dX4_cash_1 ?_
  refine jj_callSi C0 (cc_X4_isHolder1 hEV (z := z) (by omega)) (cwS 1 hw (lw_gS hU_985 hU_986 hU_66 hU_987) rfl rfl rfl (by decide +kernel) ⟨Nat.le_of_ble_eq_true rfl, Nat.le_of_ble_eq_true rfl⟩) rfl rfl (Nat.le_of_ble_eq_true rfl) ⟨by decide, by decide⟩ rfl rfl dX4_cash_2 ?_
  intro _ hu
  show jj_W _ _ _ _ _ _ _ _ _ _ _ _ _ _ _ _ _ 5 _ [.int (iI 1), .ref (ad 0)] (wM ad cI cJ cZ th td pr up dn dv n K St Ex Am Ov Bi As BL AL He Co Ca mo sh co sd Cz Ab be ++ E)
  refine jj_if_eq C0 (by omega) dX4_cash_5 (tgt := 12) (by decide) (fun c_1 => absurd c_1 (by omega)) (fun c_1 => ?_)
  refine jj_iconst C0 dX4_cash_8 ?_
  refine jj_goto C0 (tgt := 13) dX4_cash_9 (by decide) ?_
  refine jj_put C0 (ci := 5) (v := .int (iI 0)) (ty := .int) hin_X4 tyX4 tyX4_ok nmX4 (0) (rfl) rfl 0 (by decide) (hw _ hU_786) (fun _ h9 => h9) rfl (by decide +kernel) (rfl) rfl (Nat.le_of_ble_eq_true rfl) (ws' := wM ad cI cJ cZ 0 td pr up dn dv n K St Ex Am Ov Bi As BL AL He Co Ca mo sh co sd Cz Ab be ++ E) (rfl) dX4_cash_13 ?_
  refine jj_aload_n C0 0 rfl dX4_cash_16 ?_
  refine jj_get C0 (ci := 5) (v := .int (iI 0)) hin_X4 (0) (rfl) rfl 0 (by decide) (hw _ hU_786) (fun _ h9 => h9) rfl dX4_cash_17 ?_
  refine jj_if_le C0 (by omega) dX4_cash_20 (tgt := 27) (by decide) (fun c_2 => ?_) (fun c_2 => absurd c_2 (by omega))
  refine jj_aload_n C0 0 rfl dX4_cash_27 ?_
  refine jj_get C0 (ci := 5) (v := .ref (ad 13)) hin_X4 (0) (rfl) rfl 18 (by decide) (hw _ hU_804) (fun _ h9 => h9) rfl dX4_cash_28 ?_
  refine jj_iload_n C0 1 rfl dX4_cash_31 ?_
  refine jj_iconst C0 dX4_cash_32 ?_
  refine jj_icmp_ne C0 (by omega) (by omega) dX4_cash_33 (tgt := 41) (by decide) (fun c_3 => ?_) (fun c_3 => ?_)
  · refine jj_iload_n C0 1 rfl dX4_cash_41 ?_
    refine jj_lald C0 (q0 := 13) (t0 := 1) (f := Ca) (rfl) rfl (k := k) (by omega) (by omega) (by decide) dX4_cash_42 ?_
    exact jj_lret C0 hr () (trivial) (by first | rfl | rw [show k = 6 by omega]) (rfl) (by decide) (by decide) dX4_cash_43
  · refine jj_bipush C0 dX4_cash_36 (by decide) ?_
    refine jj_goto C0 (tgt := 42) dX4_cash_38 (by decide) ?_
    refine jj_lald C0 (q0 := 13) (t0 := 1) (f := Ca) (rfl) rfl (k := 6) (by omega) (by omega) (by decide) dX4_cash_42 ?_
    exact jj_lret C0 hr () (trivial) (by first | rfl | rw [show k = 6 by omega]) (rfl) (by decide) (by decide) dX4_cash_43
set_option maxHeartbeats 4000000 in
set_option maxRecDepth 100000 in
theorem cb_X4_cash (hEV : jj_EV EV) {x : Int} {kk : Int} (hx : iR x) (hbad : ¬ (-1 ≤ x ∧ x ≤ 5) ∧ kk = 1) : jj_Ml EV (dC, dI) vwCl [(cI, .int), (cJ, .long), (cZ, .boolean), (cO, .object "java/lang/Object")] l yX4_cash (Cond.code yX4_cash cX4_cash 2 (some .long) :: lw_U) ({ frames := 2, cells := 0, slots := 0, locals := 45 } : Room) [.ref (ad 0), .int (iI x)] (wM ad cI cJ cZ th td pr up dn dv n K St Ex Am Ov Bi As BL AL He Co Ca mo sh co sd Cz Ab be ++ E) (S := Int) (fun u => u) (fun u => True) (fun u => wM ad cI cJ cZ kk td pr up dn dv n K St Ex Am Ov Bi As BL AL He Co Ca mo sh co sd Cz Ab be ++ E) := by
  refine jj_start (cc := cX4_cash) (nL := 2) (ret := (some .long)) (lv := [(0, .ref (ad 0)), (1, .int (iI x))]) (fun A => jj_Ql _ _ _ _ _ _ A) hEV (by decide) rfl (Nat.le_of_ble_eq_true rfl) rfl ?_
  intro p9 e9 s9 m9 a9 b9 me9 c9 A9 C1 hr hin
  have C0 : jj_C p9 s9 m9 a9 me9 c9 (dC, dI) vwCl A9 2 cX4_cash "StrikehallModel" lw_U _ EV := jj_toU C1
  have hw := C0.2.2.2.2.1
  refine jj_aload_n C0 0 rfl dX4_cash_0 ?_
  refine jj_iload_n C0 1 rfl dX4_cash_1 ?_
  refine jj_callSi C0 (cc_X4_isHolder hEV (z := x) (by omega)) (cwS 1 hw (lw_gS hU_985 hU_986 hU_66 hU_987) rfl rfl rfl (by decide +kernel) ⟨Nat.le_of_ble_eq_true rfl, Nat.le_of_ble_eq_true rfl⟩) rfl rfl (Nat.le_of_ble_eq_true rfl) ⟨by decide, by decide⟩ rfl rfl dX4_cash_2 ?_
  intro u_1 hu
  have hu_2 : (u_1 = 1 ∧ -1 ≤ x ∧ x ≤ 5) ∨ (u_1 = 0 ∧ (x < -1 ∨ 5 < x)) := hu
  show jj_W _ _ _ _ _ _ _ _ _ _ _ _ _ _ _ _ _ 5 _ [.int (iI u_1), .ref (ad 0)] (wM ad cI cJ cZ th td pr up dn dv n K St Ex Am Ov Bi As BL AL He Co Ca mo sh co sd Cz Ab be ++ E)
  refine jj_if_eq C0 (by omega) dX4_cash_5 (tgt := 12) (by decide) (fun c_2 => ?_) (fun c_2 => ?_)
  · refine jj_iconst C0 dX4_cash_12 ?_
    refine jj_put C0 (ci := 5) (v := .int (iI 1)) (ty := .int) hin_X4 tyX4 tyX4_ok nmX4 (0) (rfl) rfl 0 (by decide) (hw _ hU_786) (fun _ h9 => h9) rfl (by decide +kernel) (rfl) rfl (Nat.le_of_ble_eq_true rfl) (ws' := wM ad cI cJ cZ 1 td pr up dn dv n K St Ex Am Ov Bi As BL AL He Co Ca mo sh co sd Cz Ab be ++ E) (rfl) dX4_cash_13 ?_
    refine jj_aload_n C0 0 rfl dX4_cash_16 ?_
    refine jj_get C0 (ci := 5) (v := .int (iI 1)) hin_X4 (0) (rfl) rfl 0 (by decide) (hw _ hU_786) (fun _ h9 => h9) rfl dX4_cash_17 ?_
    refine jj_if_le C0 (by omega) dX4_cash_20 (tgt := 27) (by decide) (fun c_3 => absurd c_3 (by omega)) (fun c_3 => ?_)
    refine jj_lconst C0 (z := 0) (by decide) dX4_cash_23 ?_
    refine jj_goto C0 (tgt := 43) dX4_cash_24 (by decide) ?_
    obtain rfl : kk = 1 := by omega
    exact jj_lret C0 hr 0 (trivial) (rfl) (rfl) (by decide) (by decide) dX4_cash_43
  · refine jj_iconst C0 dX4_cash_8 ?_
    refine jj_goto C0 (tgt := 13) dX4_cash_9 (by decide) ?_
    refine jj_put C0 (ci := 5) (v := .int (iI 0)) (ty := .int) hin_X4 tyX4 tyX4_ok nmX4 (0) (rfl) rfl 0 (by decide) (hw _ hU_786) (fun _ h9 => h9) rfl (by decide +kernel) (rfl) rfl (Nat.le_of_ble_eq_true rfl) (ws' := wM ad cI cJ cZ 0 td pr up dn dv n K St Ex Am Ov Bi As BL AL He Co Ca mo sh co sd Cz Ab be ++ E) (rfl) dX4_cash_13 ?_
    refine jj_aload_n C0 0 rfl dX4_cash_16 ?_
    refine jj_get C0 (ci := 5) (v := .int (iI 0)) hin_X4 (0) (rfl) rfl 0 (by decide) (hw _ hU_786) (fun _ h9 => h9) rfl dX4_cash_17 ?_
    refine jj_if_le C0 (by omega) dX4_cash_20 (tgt := 27) (by decide) (fun c_4 => ?_) (fun c_4 => absurd c_4 (by omega))
    exfalso
    omega
set_option maxHeartbeats 4000000 in
set_option maxRecDepth 100000 in
theorem cc_X4_worth (hEV : jj_EV EV)  (hovs : ∀ c, c < n → (Ov c = 1 ∧ Ex c < (td : Int)) ∨ (Ov c = 0 ∧ (td : Int) ≤ Ex c)) (hexs : ∀ c, c < n → Ex c ≤ (td : Int) + 10 ∧ Ex c ≤ 200) (hn : n ≤ 12) (htd : td ≤ 200) (hpr : 0 ≤ pr ∧ pr ≤ 20000) (hup : 1 ≤ up ∧ up ≤ 10) (hdn : 1 ≤ dn ∧ dn ≤ 10) (hdv : ∀ j, 0 ≤ dv j ∧ dv j ≤ 1000) (hK : ∀ j, 0 ≤ K j ∧ K j ≤ 1) (hSt : ∀ j, 0 ≤ St j ∧ St j ≤ 20000) (hEx : ∀ j, 0 ≤ Ex j ∧ Ex j ≤ 200) (hAm : ∀ j, 0 ≤ Am j ∧ Am j ≤ 1) (hOv : ∀ j, 0 ≤ Ov j ∧ Ov j ≤ 1) (hHe : ∀ j, -1000000 ≤ He j ∧ He j ≤ 1000000) (hsh : -100000 ≤ sh ∧ sh ≤ 100000) : jj_Ml EV (dC, dI) vwCl [(cI, .int), (cJ, .long), (cZ, .boolean), (cO, .object "java/lang/Object")] l yX4_worth (Cond.code yX4_worth cX4_worth 1 (some .long) :: lw_U) ({ frames := 4, cells := 0, slots := 0, locals := 102 } : Room) [.ref (ad 0)] (wM ad cI cJ cZ th td pr up dn dv n K St Ex Am Ov Bi As BL AL He Co Ca mo sh co sd Cz Ab be ++ E) (S := (Nat → Int) × Int) (fun ⟨ab, b⟩ => (f_W up dn dv td n K St Ex Am He Ca sh pr)) (fun ⟨ab, b⟩ => True) (fun ⟨ab, b⟩ => wM ad cI cJ cZ 0 td pr up dn dv n K St Ex Am Ov Bi As BL AL He Co Ca mo sh co sd Cz ab b ++ E) := by
  refine jj_start (cc := cX4_worth) (nL := 1) (ret := (some .long)) (lv := [(0, .ref (ad 0))]) (fun A => jj_Ql _ _ _ _ _ _ A) hEV (by decide) rfl (Nat.le_of_ble_eq_true rfl) rfl ?_
  intro p9 e9 s9 m9 a9 b9 me9 c9 A9 C1 hr hin
  have C0 : jj_C p9 s9 m9 a9 me9 c9 (dC, dI) vwCl A9 1 cX4_worth "StrikehallModel" lw_U _ EV := jj_toU C1
  have hw := C0.2.2.2.2.1
  refine jj_aload_n C0 0 rfl dX4_worth_0 ?_
  refine jj_iconst C0 dX4_worth_1 ?_
  refine jj_put C0 (ci := 5) (v := .int (iI 0)) (ty := .int) hin_X4 tyX4 tyX4_ok nmX4 (0) (rfl) rfl 0 (by decide) (hw _ hU_786) (fun _ h9 => h9) rfl (by decide +kernel) (rfl) rfl (Nat.le_of_ble_eq_true rfl) (ws' := wM ad cI cJ cZ 0 td pr up dn dv n K St Ex Am Ov Bi As BL AL He Co Ca mo sh co sd Cz Ab be ++ E) (rfl) dX4_worth_2 ?_
  refine jj_aload_n C0 0 rfl dX4_worth_5 ?_
  refine jj_aload_n C0 0 rfl dX4_worth_6 ?_
  refine jj_get C0 (ci := 5) (v := .int (iI pr)) hin_X4 (0) (rfl) rfl 2 (by decide) (hw _ hU_788) (fun _ h9 => h9) rfl dX4_worth_7 ?_
  refine jj_callVl C0 (cc_X4_worthAt hEV (fr := pr) (fun c hc => Or.inr (hovs c hc)) (by first | exact hexs | omega) (by first | exact hn | omega) (by first | exact htd | omega) (by omega) (by first | exact hup | omega) (by first | exact hdn | omega) (by first | exact hdv | omega) (by first | exact hK | omega) (by first | exact hSt | omega) (by first | exact hEx | omega) (by first | exact hAm | omega) (by first | exact hOv | omega) (by first | exact hHe | omega) (by first | exact hsh | omega)) (cwV 1 hw (lw_gV hU_877 hU_879 hU_42 hU_66 hU_880) rfl rfl rfl (by decide +kernel) ⟨Nat.le_of_ble_eq_true rfl, Nat.le_of_ble_eq_true rfl⟩) (ci := 5) (q0 := 0) rfl (rfl) rfl rfl (Nat.le_of_ble_eq_true rfl) ⟨by decide, by decide⟩ rfl rfl dX4_worth_10 ?_
  intro u hu
  obtain ⟨ab_1, b_1⟩ := u
  show jj_W _ _ _ _ _ _ _ _ _ _ _ _ _ _ _ _ _ 13 _ [.long (lI (f_W up dn dv td n K St Ex Am He Ca sh pr))] (wM ad cI cJ cZ 0 td pr up dn dv n K St Ex Am Ov Bi As BL AL He Co Ca mo sh co sd Cz ab_1 b_1 ++ E)
  exact jj_lret C0 hr (ab_1, b_1) (trivial) (rfl) (rfl) (by decide) (by decide) dX4_worth_13
set_option maxHeartbeats 4000000 in
set_option maxRecDepth 100000 in
theorem cc_X4_cause (hEV : jj_EV EV) {k : Nat} (hk : k ≤ 5) : jj_Ml EV (dC, dI) vwCl [(cI, .int), (cJ, .long), (cZ, .boolean), (cO, .object "java/lang/Object")] l yX4_cause (Cond.code yX4_cause cX4_cause 2 (some .long) :: lw_U) ({ frames := 1, cells := 0, slots := 0, locals := 25 } : Room) [.ref (ad 0), .int (iI (k : Int))] (wM ad cI cJ cZ th td pr up dn dv n K St Ex Am Ov Bi As BL AL He Co Ca mo sh co sd Cz Ab be ++ E) (S := Unit) (fun _ => (Cz k)) (fun _ => True) (fun _ => wM ad cI cJ cZ 0 td pr up dn dv n K St Ex Am Ov Bi As BL AL He Co Ca mo sh co sd Cz Ab be ++ E) := by
  refine jj_start (cc := cX4_cause) (nL := 2) (ret := (some .long)) (lv := [(0, .ref (ad 0)), (1, .int (iI (k : Int)))]) (fun A => jj_Ql _ _ _ _ _ _ A) hEV (by decide) rfl (Nat.le_of_ble_eq_true rfl) rfl ?_
  intro p9 e9 s9 m9 a9 b9 me9 c9 A9 C1 hr hin
  have C0 : jj_C p9 s9 m9 a9 me9 c9 (dC, dI) vwCl A9 2 cX4_cause "StrikehallModel" lw_U _ EV := jj_toU C1
  have hw := C0.2.2.2.2.1
  refine jj_aload_n C0 0 rfl dX4_cause_0 ?_
  refine jj_iload_n C0 1 rfl dX4_cause_1 ?_
  refine jj_i2l C0 (by omega) dX4_cause_2 ?_
  refine jj_lconst C0 (z := 0) (by decide) dX4_cause_3 ?_
  refine jj_ldc2 C0 (z := 5) (by decide) (hw _ hU_960) dX4_cause_4 ?_
  refine jj_callSi C0 (cc_X4_in1 hEV (v := (k : Int)) (lo := 0) (hi := 5) (by omega) (by omega) (by omega) (by omega)) (cwS 3 hw (lw_gS hU_874 hU_875 hU_66 hU_876) rfl rfl rfl (by decide +kernel) ⟨Nat.le_of_ble_eq_true rfl, Nat.le_of_ble_eq_true rfl⟩) rfl rfl (Nat.le_of_ble_eq_true rfl) ⟨by decide, by decide⟩ rfl rfl dX4_cause_7 ?_
  intro _ hu
  show jj_W _ _ _ _ _ _ _ _ _ _ _ _ _ _ _ _ _ 10 _ [.int (iI 1), .ref (ad 0)] (wM ad cI cJ cZ th td pr up dn dv n K St Ex Am Ov Bi As BL AL He Co Ca mo sh co sd Cz Ab be ++ E)
  refine jj_if_eq C0 (by omega) dX4_cause_10 (tgt := 17) (by decide) (fun c_1 => absurd c_1 (by omega)) (fun c_1 => ?_)
  refine jj_iconst C0 dX4_cause_13 ?_
  refine jj_goto C0 (tgt := 18) dX4_cause_14 (by decide) ?_
  refine jj_put C0 (ci := 5) (v := .int (iI 0)) (ty := .int) hin_X4 tyX4 tyX4_ok nmX4 (0) (rfl) rfl 0 (by decide) (hw _ hU_786) (fun _ h9 => h9) rfl (by decide +kernel) (rfl) rfl (Nat.le_of_ble_eq_true rfl) (ws' := wM ad cI cJ cZ 0 td pr up dn dv n K St Ex Am Ov Bi As BL AL He Co Ca mo sh co sd Cz Ab be ++ E) (rfl) dX4_cause_18 ?_
  refine jj_aload_n C0 0 rfl dX4_cause_21 ?_
  refine jj_get C0 (ci := 5) (v := .int (iI 0)) hin_X4 (0) (rfl) rfl 0 (by decide) (hw _ hU_786) (fun _ h9 => h9) rfl dX4_cause_22 ?_
  refine jj_if_le C0 (by omega) dX4_cause_25 (tgt := 32) (by decide) (fun c_2 => ?_) (fun c_2 => absurd c_2 (by omega))
  refine jj_aload_n C0 0 rfl dX4_cause_32 ?_
  refine jj_get C0 (ci := 5) (v := .ref (ad 14)) hin_X4 (0) (rfl) rfl 23 (by decide) (hw _ hU_809) (fun _ h9 => h9) rfl dX4_cause_33 ?_
  refine jj_iload_n C0 1 rfl dX4_cause_36 ?_
  refine jj_lald C0 (q0 := 14) (t0 := 1) (f := Cz) (rfl) rfl (k := k) (by omega) (by omega) (by decide) dX4_cause_37 ?_
  exact jj_lret C0 hr () (trivial) (rfl) (rfl) (by decide) (by decide) dX4_cause_38
set_option maxHeartbeats 4000000 in
set_option maxRecDepth 100000 in
theorem cb_X4_cause (hEV : jj_EV EV) {x : Int} {kk : Int} (hx : iR x) (hbad : ¬ (0 ≤ x ∧ x ≤ 5) ∧ kk = 1) : jj_Ml EV (dC, dI) vwCl [(cI, .int), (cJ, .long), (cZ, .boolean), (cO, .object "java/lang/Object")] l yX4_cause (Cond.code yX4_cause cX4_cause 2 (some .long) :: lw_U) ({ frames := 1, cells := 0, slots := 0, locals := 25 } : Room) [.ref (ad 0), .int (iI x)] (wM ad cI cJ cZ th td pr up dn dv n K St Ex Am Ov Bi As BL AL He Co Ca mo sh co sd Cz Ab be ++ E) (S := Int) (fun u => u) (fun u => True) (fun u => wM ad cI cJ cZ kk td pr up dn dv n K St Ex Am Ov Bi As BL AL He Co Ca mo sh co sd Cz Ab be ++ E) := by
  refine jj_start (cc := cX4_cause) (nL := 2) (ret := (some .long)) (lv := [(0, .ref (ad 0)), (1, .int (iI x))]) (fun A => jj_Ql _ _ _ _ _ _ A) hEV (by decide) rfl (Nat.le_of_ble_eq_true rfl) rfl ?_
  intro p9 e9 s9 m9 a9 b9 me9 c9 A9 C1 hr hin
  have C0 : jj_C p9 s9 m9 a9 me9 c9 (dC, dI) vwCl A9 2 cX4_cause "StrikehallModel" lw_U _ EV := jj_toU C1
  have hw := C0.2.2.2.2.1
  refine jj_aload_n C0 0 rfl dX4_cause_0 ?_
  refine jj_iload_n C0 1 rfl dX4_cause_1 ?_
  refine jj_i2l C0 (by omega) dX4_cause_2 ?_
  refine jj_lconst C0 (z := 0) (by decide) dX4_cause_3 ?_
  refine jj_ldc2 C0 (z := 5) (by decide) (hw _ hU_960) dX4_cause_4 ?_
  refine jj_callSi C0 (cc_X4_in hEV (v := x) (lo := 0) (hi := 5) (by omega) (by omega) (by omega)) (cwS 3 hw (lw_gS hU_874 hU_875 hU_66 hU_876) rfl rfl rfl (by decide +kernel) ⟨Nat.le_of_ble_eq_true rfl, Nat.le_of_ble_eq_true rfl⟩) rfl rfl (Nat.le_of_ble_eq_true rfl) ⟨by decide, by decide⟩ rfl rfl dX4_cause_7 ?_
  intro u_1 hu
  have hu_7 : (u_1 = 1 ∧ 0 ≤ x ∧ x ≤ 5) ∨ (u_1 = 0 ∧ (x < 0 ∨ 5 < x)) := hu
  show jj_W _ _ _ _ _ _ _ _ _ _ _ _ _ _ _ _ _ 10 _ [.int (iI u_1), .ref (ad 0)] (wM ad cI cJ cZ th td pr up dn dv n K St Ex Am Ov Bi As BL AL He Co Ca mo sh co sd Cz Ab be ++ E)
  refine jj_if_eq C0 (by omega) dX4_cause_10 (tgt := 17) (by decide) (fun c_2 => ?_) (fun c_2 => ?_)
  · refine jj_iconst C0 dX4_cause_17 ?_
    refine jj_put C0 (ci := 5) (v := .int (iI 1)) (ty := .int) hin_X4 tyX4 tyX4_ok nmX4 (0) (rfl) rfl 0 (by decide) (hw _ hU_786) (fun _ h9 => h9) rfl (by decide +kernel) (rfl) rfl (Nat.le_of_ble_eq_true rfl) (ws' := wM ad cI cJ cZ 1 td pr up dn dv n K St Ex Am Ov Bi As BL AL He Co Ca mo sh co sd Cz Ab be ++ E) (rfl) dX4_cause_18 ?_
    refine jj_aload_n C0 0 rfl dX4_cause_21 ?_
    refine jj_get C0 (ci := 5) (v := .int (iI 1)) hin_X4 (0) (rfl) rfl 0 (by decide) (hw _ hU_786) (fun _ h9 => h9) rfl dX4_cause_22 ?_
    refine jj_if_le C0 (by omega) dX4_cause_25 (tgt := 32) (by decide) (fun c_3 => absurd c_3 (by omega)) (fun c_3 => ?_)
    refine jj_lconst C0 (z := 0) (by decide) dX4_cause_28 ?_
    refine jj_goto C0 (tgt := 38) dX4_cause_29 (by decide) ?_
    obtain rfl : kk = 1 := by omega
    exact jj_lret C0 hr 0 (trivial) (rfl) (rfl) (by decide) (by decide) dX4_cause_38
  · refine jj_iconst C0 dX4_cause_13 ?_
    refine jj_goto C0 (tgt := 18) dX4_cause_14 (by decide) ?_
    refine jj_put C0 (ci := 5) (v := .int (iI 0)) (ty := .int) hin_X4 tyX4 tyX4_ok nmX4 (0) (rfl) rfl 0 (by decide) (hw _ hU_786) (fun _ h9 => h9) rfl (by decide +kernel) (rfl) rfl (Nat.le_of_ble_eq_true rfl) (ws' := wM ad cI cJ cZ 0 td pr up dn dv n K St Ex Am Ov Bi As BL AL He Co Ca mo sh co sd Cz Ab be ++ E) (rfl) dX4_cause_18 ?_
    refine jj_aload_n C0 0 rfl dX4_cause_21 ?_
    refine jj_get C0 (ci := 5) (v := .int (iI 0)) hin_X4 (0) (rfl) rfl 0 (by decide) (hw _ hU_786) (fun _ h9 => h9) rfl dX4_cause_22 ?_
    refine jj_if_le C0 (by omega) dX4_cause_25 (tgt := 32) (by decide) (fun c_4 => ?_) (fun c_4 => absurd c_4 (by omega))
    exfalso
    omega
set_option maxHeartbeats 4000000 in
set_option maxRecDepth 100000 in
theorem cc_X4_worst (hEV : jj_EV EV) {m : Nat} (hm : m ≤ 100) (hCa : ∀ j, -100000000000000000 ≤ Ca j ∧ Ca j ≤ 100000000000000000) (hovs : ∀ c, c < n → (Ov c = 1 ∧ Ex c < (td : Int)) ∨ (Ov c = 0 ∧ (td : Int) ≤ Ex c)) (hexs : ∀ c, c < n → Ex c ≤ (td : Int) + 10 ∧ Ex c ≤ 200) (hn : n ≤ 12) (htd : td ≤ 200) (hpr : 0 ≤ pr ∧ pr ≤ 20000) (hup : 1 ≤ up ∧ up ≤ 10) (hdn : 1 ≤ dn ∧ dn ≤ 10) (hdv : ∀ j, 0 ≤ dv j ∧ dv j ≤ 1000) (hK : ∀ j, 0 ≤ K j ∧ K j ≤ 1) (hSt : ∀ j, 0 ≤ St j ∧ St j ≤ 20000) (hEx : ∀ j, 0 ≤ Ex j ∧ Ex j ≤ 200) (hAm : ∀ j, 0 ≤ Am j ∧ Am j ≤ 1) (hOv : ∀ j, 0 ≤ Ov j ∧ Ov j ≤ 1) (hHe : ∀ j, -1000000 ≤ He j ∧ He j ≤ 1000000) (hsh : -100000 ≤ sh ∧ sh ≤ 100000) : jj_Ml EV (dC, dI) vwCl [(cI, .int), (cJ, .long), (cZ, .boolean), (cO, .object "java/lang/Object")] l yX4_worst (Cond.code yX4_worst cX4_worst 9 (some .long) :: lw_U) ({ frames := 4, cells := 0, slots := 0, locals := 102 } : Room) [.ref (ad 0), .int (iI (m : Int))] (wM ad cI cJ cZ th td pr up dn dv n K St Ex Am Ov Bi As BL AL He Co Ca mo sh co sd Cz Ab be ++ E) (S := (Nat → Int) × Int) (fun ⟨ab, b⟩ => (f_worst (fun q8 => (f_W up dn dv td n K St Ex Am He Ca sh q8)) (f_W up dn dv td n K St Ex Am He Ca sh pr) pr (m : Int) (2 * m + 1))) (fun ⟨ab, b⟩ => True) (fun ⟨ab, b⟩ => wM ad cI cJ cZ 0 td pr up dn dv n K St Ex Am Ov Bi As BL AL He Co Ca mo sh co sd Cz ab b ++ E) := by
  refine jj_start (cc := cX4_worst) (nL := 9) (ret := (some .long)) (lv := [(0, .ref (ad 0)), (1, .int (iI (m : Int)))]) (fun A => jj_Ql _ _ _ _ _ _ A) hEV (by decide) rfl (Nat.le_of_ble_eq_true rfl) rfl ?_
  intro p9 e9 s9 m9 a9 b9 me9 c9 A9 C1 hr hin
  have C0 : jj_C p9 s9 m9 a9 me9 c9 (dC, dI) vwCl A9 9 cX4_worst "StrikehallModel" lw_U _ EV := jj_toU C1
  have hw := C0.2.2.2.2.1
  refine jj_aload_n C0 0 rfl dX4_worst_0 ?_
  refine jj_iload_n C0 1 rfl dX4_worst_1 ?_
  refine jj_i2l C0 (by omega) dX4_worst_2 ?_
  refine jj_lconst C0 (z := 0) (by decide) dX4_worst_3 ?_
  refine jj_ldc2 C0 (z := 100) (by decide) (hw _ hU_919) dX4_worst_4 ?_
  refine jj_callSi C0 (cc_X4_in1 hEV (v := (m : Int)) (lo := 0) (hi := 100) (by omega) (by omega) (by omega) (by omega)) (cwS 3 hw (lw_gS hU_874 hU_875 hU_66 hU_876) rfl rfl rfl (by decide +kernel) ⟨Nat.le_of_ble_eq_true rfl, Nat.le_of_ble_eq_true rfl⟩) rfl rfl (Nat.le_of_ble_eq_true rfl) ⟨by decide, by decide⟩ rfl rfl dX4_worst_7 ?_
  intro _ hu
  show jj_W _ _ _ _ _ _ _ _ _ _ _ _ _ _ _ _ _ 10 _ [.int (iI 1), .ref (ad 0)] (wM ad cI cJ cZ th td pr up dn dv n K St Ex Am Ov Bi As BL AL He Co Ca mo sh co sd Cz Ab be ++ E)
  refine jj_if_eq C0 (by omega) dX4_worst_10 (tgt := 17) (by decide) (fun c_1 => absurd c_1 (by omega)) (fun c_1 => ?_)
  refine jj_iconst C0 dX4_worst_13 ?_
  refine jj_goto C0 (tgt := 18) dX4_worst_14 (by decide) ?_
  refine jj_put C0 (ci := 5) (v := .int (iI 0)) (ty := .int) hin_X4 tyX4 tyX4_ok nmX4 (0) (rfl) rfl 0 (by decide) (hw _ hU_786) (fun _ h9 => h9) rfl (by decide +kernel) (rfl) rfl (Nat.le_of_ble_eq_true rfl) (ws' := wM ad cI cJ cZ 0 td pr up dn dv n K St Ex Am Ov Bi As BL AL He Co Ca mo sh co sd Cz Ab be ++ E) (rfl) dX4_worst_18 ?_
  refine jj_aload_n C0 0 rfl dX4_worst_21 ?_
  refine jj_get C0 (ci := 5) (v := .int (iI 0)) hin_X4 (0) (rfl) rfl 0 (by decide) (hw _ hU_786) (fun _ h9 => h9) rfl dX4_worst_22 ?_
  refine jj_if_le C0 (by omega) dX4_worst_25 (tgt := 30) (by decide) (fun c_2 => ?_) (fun c_2 => absurd c_2 (by omega))
  refine jj_aload_n C0 0 rfl dX4_worst_30 ?_
  refine jj_aload_n C0 0 rfl dX4_worst_31 ?_
  refine jj_get C0 (ci := 5) (v := .int (iI pr)) hin_X4 (0) (rfl) rfl 2 (by decide) (hw _ hU_788) (fun _ h9 => h9) rfl dX4_worst_32 ?_
  refine jj_callVl C0 (cc_X4_worthAt hEV (fr := pr) (fun c hc => Or.inr (hovs c hc)) (by first | exact hexs | omega) (by first | exact hn | omega) (by first | exact htd | omega) (by omega) (by first | exact hup | omega) (by first | exact hdn | omega) (by first | exact hdv | omega) (by first | exact hK | omega) (by first | exact hSt | omega) (by first | exact hEx | omega) (by first | exact hAm | omega) (by first | exact hOv | omega) (by first | exact hHe | omega) (by first | exact hsh | omega)) (cwV 1 hw (lw_gV hU_877 hU_879 hU_42 hU_66 hU_880) rfl rfl rfl (by decide +kernel) ⟨Nat.le_of_ble_eq_true rfl, Nat.le_of_ble_eq_true rfl⟩) (ci := 5) (q0 := 0) rfl (rfl) rfl rfl (Nat.le_of_ble_eq_true rfl) ⟨by decide, by decide⟩ rfl rfl dX4_worst_35 ?_
  intro u hu
  obtain ⟨ab_3, b_3⟩ := u
  show jj_W _ _ _ _ _ _ _ _ _ _ _ _ _ _ _ _ _ 38 _ [.long (lI (f_W up dn dv td n K St Ex Am He Ca sh pr))] (wM ad cI cJ cZ 0 td pr up dn dv n K St Ex Am Ov Bi As BL AL He Co Ca mo sh co sd Cz ab_3 b_3 ++ E)
  refine jj_lstore_n C0 (i := 2) rfl (lv' := [(2, .long (lI (f_W up dn dv td n K St Ex Am He Ca sh pr))), (0, .ref (ad 0)), (1, .int (iI (m : Int)))]) (by decide) rfl dX4_worst_38 ?_
  refine jj_lconst C0 (z := 0) (by decide) dX4_worst_39 ?_
  refine jj_topl (b := (f_worst (fun q8 => (f_W up dn dv td n K St Ex Am He Ca sh q8)) (f_W up dn dv td n K St Ex Am He Ca sh pr) pr (m : Int) 0)) (rfl) ?_
  refine jj_lstore C0 (lv' := [(4, .long (lI (f_worst (fun q8 => (f_W up dn dv td n K St Ex Am He Ca sh q8)) (f_W up dn dv td n K St Ex Am He Ca sh pr) pr (m : Int) 0))), (2, .long (lI (f_W up dn dv td n K St Ex Am He Ca sh pr))), (0, .ref (ad 0)), (1, .int (iI (m : Int)))]) (by decide) rfl dX4_worst_40 ?_
  refine jj_iload_n C0 3 rfl dX4_worst_42 ?_
  refine jj_ineg C0 dX4_worst_43 ?_
  refine jj_topi (b := (-(m : Int) + ((0 : Nat) : Int))) (by omega) ?_
  refine jj_istore C0 (lv' := [(6, .int (iI (-(m : Int) + ((0 : Nat) : Int)))), (4, .long (lI (f_worst (fun q8 => (f_W up dn dv td n K St Ex Am He Ca sh q8)) (f_W up dn dv td n K St Ex Am He Ca sh pr) pr (m : Int) 0))), (2, .long (lI (f_W up dn dv td n K St Ex Am He Ca sh pr))), (0, .ref (ad 0)), (1, .int (iI (m : Int)))]) (by decide) rfl dX4_worst_44 ?_
  refine jj_ind (X := Nat × (Nat → Int) × Int × Int) (fun q9 => match q9 with | ⟨i, ab, b, x⟩ => (2 * m + 2 - i : Nat)) (fun q9 => match q9 with | ⟨i, ab, b, x⟩ => [(6, .int (iI (-(m : Int) + (i : Int)))), (4, .long (lI x)), (2, .long (lI (f_W up dn dv td n K St Ex Am He Ca sh pr))), (0, .ref (ad 0)), (1, .int (iI (m : Int)))]) (fun q9 => match q9 with | ⟨i, ab, b, x⟩ => []) (fun q9 => match q9 with | ⟨i, ab, b, x⟩ => wM ad cI cJ cZ 0 td pr up dn dv n K St Ex Am Ov Bi As BL AL He Co Ca mo sh co sd Cz ab b ++ E) (fun q9 => match q9 with | ⟨i, ab, b, x⟩ => i ≤ 2 * m + 1 ∧ x = (f_worst (fun q8 => (f_W up dn dv td n K St Ex Am He Ca sh q8)) (f_W up dn dv td n K St Ex Am He Ca sh pr) pr (m : Int) i) ∧ 0 ≤ x ∧ x ≤ 240000000000000000) ?_ (0, ab_3, b_3, (f_worst (fun q8 => (f_W up dn dv td n K St Ex Am He Ca sh q8)) (f_W up dn dv td n K St Ex Am He Ca sh pr) pr (m : Int) 0)) ⟨Nat.zero_le _, rfl, by simp [f_worst]⟩
  intro q9 hq9 ih46
  obtain ⟨i, ab, b, x⟩ := q9
  obtain ⟨hi, hx, hx1⟩ : i ≤ 2 * m + 1 ∧ x = (f_worst (fun q8 => (f_W up dn dv td n K St Ex Am He Ca sh q8)) (f_W up dn dv td n K St Ex Am He Ca sh pr) pr (m : Int) i) ∧ 0 ≤ x ∧ x ≤ 240000000000000000 := hq9
  show jj_W _ _ _ _ _ _ _ _ _ _ _ _ _ _ _ _ _ 46 [(6, .int (iI (-(m : Int) + (i : Int)))), (4, .long (lI x)), (2, .long (lI (f_W up dn dv td n K St Ex Am He Ca sh pr))), (0, .ref (ad 0)), (1, .int (iI (m : Int)))] [] (wM ad cI cJ cZ 0 td pr up dn dv n K St Ex Am Ov Bi As BL AL He Co Ca mo sh co sd Cz ab b ++ E)
  refine jj_iload C0 0 rfl dX4_worst_46 ?_
  refine jj_iload_n C0 4 rfl dX4_worst_48 ?_
  refine jj_icmp_gt C0 (by omega) (by omega) dX4_worst_49 (tgt := 93) (by decide) (fun c_4 => ?_) (fun c_4 => ?_)
  · refine jj_lload C0 1 rfl dX4_worst_93 ?_
    exact jj_lret C0 hr (ab, b) (trivial) (by rw [hx, show i = 2 * m + 1 by omega]) (rfl) (by decide) (by decide) dX4_worst_95
  · refine jj_lload_n C0 2 rfl dX4_worst_52 ?_
    refine jj_aload_n C0 3 rfl dX4_worst_53 ?_
    refine jj_aload_n C0 3 rfl dX4_worst_54 ?_
    refine jj_get C0 (ci := 5) (v := .int (iI pr)) hin_X4 (0) (rfl) rfl 2 (by decide) (hw _ hU_788) (fun _ h9 => h9) rfl dX4_worst_55 ?_
    refine jj_bipush C0 dX4_worst_58 (by decide) ?_
    refine jj_iload C0 0 rfl dX4_worst_60 ?_
    refine jj_imul C0 dX4_worst_62 ?_
    refine jj_iadd C0 dX4_worst_63 ?_
    refine jj_callVl C0 (cc_X4_worthAt hEV (fr := (pr + (10 * (-(m : Int) + (i : Int))))) (fun c hc => Or.inr (hovs c hc)) (by first | exact hexs | omega) (by first | exact hn | omega) (by first | exact htd | omega) (by omega) (by first | exact hup | omega) (by first | exact hdn | omega) (by first | exact hdv | omega) (by first | exact hK | omega) (by first | exact hSt | omega) (by first | exact hEx | omega) (by first | exact hAm | omega) (by first | exact hOv | omega) (by first | exact hHe | omega) (by first | exact hsh | omega)) (cwV 1 hw (lw_gV hU_877 hU_879 hU_42 hU_66 hU_880) rfl rfl rfl (by decide +kernel) ⟨Nat.le_of_ble_eq_true rfl, Nat.le_of_ble_eq_true rfl⟩) (ci := 5) (q0 := 0) rfl (rfl) rfl rfl (Nat.le_of_ble_eq_true rfl) ⟨by decide, by decide⟩ rfl rfl dX4_worst_64 ?_
    intro u hu
    obtain ⟨ab_5, b_5⟩ := u
    show jj_W _ _ _ _ _ _ _ _ _ _ _ _ _ _ _ _ _ 67 _ [.long (lI (f_W up dn dv td n K St Ex Am He Ca sh (pr + (10 * (-(m : Int) + (i : Int)))))), .long (lI (f_W up dn dv td n K St Ex Am He Ca sh pr))] (wM ad cI cJ cZ 0 td pr up dn dv n K St Ex Am Ov Bi As BL AL He Co Ca mo sh co sd Cz ab_5 b_5 ++ E)
    have hw1 := f_W_bd hup hdn hdv hSt (show -30000 ≤ pr ∧ pr ≤ 30000 by omega) hHe (hCa 6) hsh hexs hn (K := K) (Am := Am)
    have hw2 := f_W_bd hup hdn hdv hSt (show -30000 ≤ (pr + (10 * (-(m : Int) + (i : Int)))) ∧ (pr + (10 * (-(m : Int) + (i : Int)))) ≤ 30000 by omega) hHe (hCa 6) hsh hexs hn (K := K) (Am := Am)
    refine jj_lsub C0 dX4_worst_67 ?_
    refine jj_lstore C0 (lv' := [(7, .long (lI ((f_W up dn dv td n K St Ex Am He Ca sh pr) - (f_W up dn dv td n K St Ex Am He Ca sh (pr + (10 * (-(m : Int) + (i : Int)))))))), (6, .int (iI (-(m : Int) + (i : Int)))), (4, .long (lI x)), (2, .long (lI (f_W up dn dv td n K St Ex Am He Ca sh pr))), (0, .ref (ad 0)), (1, .int (iI (m : Int)))]) (by decide) rfl dX4_worst_68 ?_
    refine jj_lload C0 0 rfl dX4_worst_70 ?_
    refine jj_lload C0 2 rfl dX4_worst_72 ?_
    refine jj_lcmp_le C0 (by omega) (by omega) dX4_worst_74 dX4_worst_75 (tgt := 83) (by decide) (fun c_6 => ?_) (fun c_6 => ?_)
    · refine jj_lload C0 2 rfl dX4_worst_83 ?_
      refine jj_lstore C0 (lv' := [(4, .long (lI x)), (7, .long (lI ((f_W up dn dv td n K St Ex Am He Ca sh pr) - (f_W up dn dv td n K St Ex Am He Ca sh (pr + (10 * (-(m : Int) + (i : Int)))))))), (6, .int (iI (-(m : Int) + (i : Int)))), (2, .long (lI (f_W up dn dv td n K St Ex Am He Ca sh pr))), (0, .ref (ad 0)), (1, .int (iI (m : Int)))]) (by decide) rfl dX4_worst_85 ?_
      refine jj_iinc C0 (z := (-(m : Int) + ((i + 1 : Nat) : Int))) (lv' := [(6, .int (iI (-(m : Int) + ((i + 1 : Nat) : Int)))), (4, .long (lI x)), (7, .long (lI ((f_W up dn dv td n K St Ex Am He Ca sh pr) - (f_W up dn dv td n K St Ex Am He Ca sh (pr + (10 * (-(m : Int) + (i : Int)))))))), (2, .long (lI (f_W up dn dv td n K St Ex Am He Ca sh pr))), (0, .ref (ad 0)), (1, .int (iI (m : Int)))]) 2 rfl (by omega) (by decide) rfl dX4_worst_87 ?_
      refine jj_goto C0 (tgt := 46) dX4_worst_90 (by decide) ?_
      refine jj_lv [0, 1, 3, 4, 5] rfl ?_
      exact ih46 (i + 1, ab_5, b_5, x) ⟨by omega, by simp only [f_worst]; rw [← hx]; omega, by omega⟩ (by dsimp only; omega)
    · refine jj_lload C0 0 rfl dX4_worst_78 ?_
      refine jj_goto C0 (tgt := 85) dX4_worst_80 (by decide) ?_
      refine jj_lstore C0 (lv' := [(4, .long (lI ((f_W up dn dv td n K St Ex Am He Ca sh pr) - (f_W up dn dv td n K St Ex Am He Ca sh (pr + (10 * (-(m : Int) + (i : Int)))))))), (7, .long (lI ((f_W up dn dv td n K St Ex Am He Ca sh pr) - (f_W up dn dv td n K St Ex Am He Ca sh (pr + (10 * (-(m : Int) + (i : Int)))))))), (6, .int (iI (-(m : Int) + (i : Int)))), (2, .long (lI (f_W up dn dv td n K St Ex Am He Ca sh pr))), (0, .ref (ad 0)), (1, .int (iI (m : Int)))]) (by decide) rfl dX4_worst_85 ?_
      refine jj_iinc C0 (z := (-(m : Int) + ((i + 1 : Nat) : Int))) (lv' := [(6, .int (iI (-(m : Int) + ((i + 1 : Nat) : Int)))), (4, .long (lI ((f_W up dn dv td n K St Ex Am He Ca sh pr) - (f_W up dn dv td n K St Ex Am He Ca sh (pr + (10 * (-(m : Int) + (i : Int)))))))), (7, .long (lI ((f_W up dn dv td n K St Ex Am He Ca sh pr) - (f_W up dn dv td n K St Ex Am He Ca sh (pr + (10 * (-(m : Int) + (i : Int)))))))), (2, .long (lI (f_W up dn dv td n K St Ex Am He Ca sh pr))), (0, .ref (ad 0)), (1, .int (iI (m : Int)))]) 2 rfl (by omega) (by decide) rfl dX4_worst_87 ?_
      refine jj_goto C0 (tgt := 46) dX4_worst_90 (by decide) ?_
      refine jj_lv [0, 1, 3, 4, 5] rfl ?_
      exact ih46 (i + 1, ab_5, b_5, ((f_W up dn dv td n K St Ex Am He Ca sh pr) - (f_W up dn dv td n K St Ex Am He Ca sh (pr + (10 * (-(m : Int) + (i : Int))))))) ⟨by omega, by simp only [f_worst]; rw [← hx]; omega, by omega⟩ (by dsimp only; omega)
set_option maxHeartbeats 4000000 in
set_option maxRecDepth 100000 in
theorem cb_X4_worst (hEV : jj_EV EV) {x : Int} {kk : Int} (hx : iR x) (hbad : ¬ (0 ≤ x ∧ x ≤ 100) ∧ kk = 1) : jj_Ml EV (dC, dI) vwCl [(cI, .int), (cJ, .long), (cZ, .boolean), (cO, .object "java/lang/Object")] l yX4_worst (Cond.code yX4_worst cX4_worst 9 (some .long) :: lw_U) ({ frames := 1, cells := 0, slots := 0, locals := 25 } : Room) [.ref (ad 0), .int (iI x)] (wM ad cI cJ cZ th td pr up dn dv n K St Ex Am Ov Bi As BL AL He Co Ca mo sh co sd Cz Ab be ++ E) (S := Int) (fun u => u) (fun u => True) (fun u => wM ad cI cJ cZ kk td pr up dn dv n K St Ex Am Ov Bi As BL AL He Co Ca mo sh co sd Cz Ab be ++ E) := by
  refine jj_start (cc := cX4_worst) (nL := 9) (ret := (some .long)) (lv := [(0, .ref (ad 0)), (1, .int (iI x))]) (fun A => jj_Ql _ _ _ _ _ _ A) hEV (by decide) rfl (Nat.le_of_ble_eq_true rfl) rfl ?_
  intro p9 e9 s9 m9 a9 b9 me9 c9 A9 C1 hr hin
  have C0 : jj_C p9 s9 m9 a9 me9 c9 (dC, dI) vwCl A9 9 cX4_worst "StrikehallModel" lw_U _ EV := jj_toU C1
  have hw := C0.2.2.2.2.1
  refine jj_aload_n C0 0 rfl dX4_worst_0 ?_
  refine jj_iload_n C0 1 rfl dX4_worst_1 ?_
  refine jj_i2l C0 (by omega) dX4_worst_2 ?_
  refine jj_lconst C0 (z := 0) (by decide) dX4_worst_3 ?_
  refine jj_ldc2 C0 (z := 100) (by decide) (hw _ hU_919) dX4_worst_4 ?_
  refine jj_callSi C0 (cc_X4_in hEV (v := x) (lo := 0) (hi := 100) (by omega) (by omega) (by omega)) (cwS 3 hw (lw_gS hU_874 hU_875 hU_66 hU_876) rfl rfl rfl (by decide +kernel) ⟨Nat.le_of_ble_eq_true rfl, Nat.le_of_ble_eq_true rfl⟩) rfl rfl (Nat.le_of_ble_eq_true rfl) ⟨by decide, by decide⟩ rfl rfl dX4_worst_7 ?_
  intro u_1 hu
  have hu_7 : (u_1 = 1 ∧ 0 ≤ x ∧ x ≤ 100) ∨ (u_1 = 0 ∧ (x < 0 ∨ 100 < x)) := hu
  show jj_W _ _ _ _ _ _ _ _ _ _ _ _ _ _ _ _ _ 10 _ [.int (iI u_1), .ref (ad 0)] (wM ad cI cJ cZ th td pr up dn dv n K St Ex Am Ov Bi As BL AL He Co Ca mo sh co sd Cz Ab be ++ E)
  refine jj_if_eq C0 (by omega) dX4_worst_10 (tgt := 17) (by decide) (fun c_2 => ?_) (fun c_2 => ?_)
  · refine jj_iconst C0 dX4_worst_17 ?_
    refine jj_put C0 (ci := 5) (v := .int (iI 1)) (ty := .int) hin_X4 tyX4 tyX4_ok nmX4 (0) (rfl) rfl 0 (by decide) (hw _ hU_786) (fun _ h9 => h9) rfl (by decide +kernel) (rfl) rfl (Nat.le_of_ble_eq_true rfl) (ws' := wM ad cI cJ cZ 1 td pr up dn dv n K St Ex Am Ov Bi As BL AL He Co Ca mo sh co sd Cz Ab be ++ E) (rfl) dX4_worst_18 ?_
    refine jj_aload_n C0 0 rfl dX4_worst_21 ?_
    refine jj_get C0 (ci := 5) (v := .int (iI 1)) hin_X4 (0) (rfl) rfl 0 (by decide) (hw _ hU_786) (fun _ h9 => h9) rfl dX4_worst_22 ?_
    refine jj_if_le C0 (by omega) dX4_worst_25 (tgt := 30) (by decide) (fun c_3 => absurd c_3 (by omega)) (fun c_3 => ?_)
    refine jj_lconst C0 (z := 0) (by decide) dX4_worst_28 ?_
    obtain rfl : kk = 1 := by omega
    exact jj_lret C0 hr 0 (trivial) (rfl) (rfl) (by decide) (by decide) dX4_worst_29
  · refine jj_iconst C0 dX4_worst_13 ?_
    refine jj_goto C0 (tgt := 18) dX4_worst_14 (by decide) ?_
    refine jj_put C0 (ci := 5) (v := .int (iI 0)) (ty := .int) hin_X4 tyX4 tyX4_ok nmX4 (0) (rfl) rfl 0 (by decide) (hw _ hU_786) (fun _ h9 => h9) rfl (by decide +kernel) (rfl) rfl (Nat.le_of_ble_eq_true rfl) (ws' := wM ad cI cJ cZ 0 td pr up dn dv n K St Ex Am Ov Bi As BL AL He Co Ca mo sh co sd Cz Ab be ++ E) (rfl) dX4_worst_18 ?_
    refine jj_aload_n C0 0 rfl dX4_worst_21 ?_
    refine jj_get C0 (ci := 5) (v := .int (iI 0)) hin_X4 (0) (rfl) rfl 0 (by decide) (hw _ hU_786) (fun _ h9 => h9) rfl dX4_worst_22 ?_
    refine jj_if_le C0 (by omega) dX4_worst_25 (tgt := 30) (by decide) (fun c_4 => ?_) (fun c_4 => absurd c_4 (by omega))
    exfalso
    omega
set_option maxHeartbeats 4000000 in
set_option maxRecDepth 100000 in
theorem cc_X4_contrary (hEV : jj_EV EV) {c k : Nat} {v : Int} (hk : k ≤ 5) (hv : v = 0 ∨ v = 1) (hov : Ov c = 0) (hcn : c < n) (hn : n ≤ 12) (hCo : ∀ j, 0 ≤ Co j ∧ Co j ≤ 1) : jj_Mi EV (dC, dI) vwCl [(cI, .int), (cJ, .long), (cZ, .boolean), (cO, .object "java/lang/Object")] l yX4_contrary (Cond.code yX4_contrary cX4_contrary 6 (some .boolean) :: lw_U) ({ frames := 2, cells := 0, slots := 0, locals := 46 } : Room) [.ref (ad 0), .int (iI (k : Int)), .int (iI (c : Int)), .int (iI v)] (wM ad cI cJ cZ th td pr up dn dv n K St Ex Am Ov Bi As BL AL He Co Ca mo sh co sd Cz Ab be ++ E) (S := Unit) (fun _ => (if Co (7 * c + k) = v then 0 else 1)) (fun _ => True) (fun _ => wM ad cI cJ cZ 0 td pr up dn dv n K St Ex Am Ov Bi As BL AL He (va_up Co (7 * c + k) v) Ca mo sh co sd Cz Ab be ++ E) := by
  refine jj_start (cc := cX4_contrary) (nL := 6) (ret := (some .boolean)) (lv := [(0, .ref (ad 0)), (1, .int (iI (k : Int))), (2, .int (iI (c : Int))), (3, .int (iI v))]) (fun A => jj_Qi _ _ _ _ _ _ A) hEV (by decide) rfl (Nat.le_of_ble_eq_true rfl) rfl ?_
  intro p9 e9 s9 m9 a9 b9 me9 c9 A9 C1 hr hin
  have C0 : jj_C p9 s9 m9 a9 me9 c9 (dC, dI) vwCl A9 6 cX4_contrary "StrikehallModel" lw_U _ EV := jj_toU C1
  have hw := C0.2.2.2.2.1
  refine jj_iload_n C0 1 rfl dX4_contrary_0 ?_
  refine jj_i2l C0 (by omega) dX4_contrary_1 ?_
  refine jj_lconst C0 (z := 0) (by decide) dX4_contrary_2 ?_
  refine jj_ldc2 C0 (z := 5) (by decide) (hw _ hU_960) dX4_contrary_3 ?_
  refine jj_callSi C0 (cc_X4_in1 hEV (v := (k : Int)) (lo := 0) (hi := 5) (by omega) (by omega) (by omega) (by omega)) (cwS 3 hw (lw_gS hU_874 hU_875 hU_66 hU_876) rfl rfl rfl (by decide +kernel) ⟨Nat.le_of_ble_eq_true rfl, Nat.le_of_ble_eq_true rfl⟩) rfl rfl (Nat.le_of_ble_eq_true rfl) ⟨by decide, by decide⟩ rfl rfl dX4_contrary_6 ?_
  intro _ hu
  show jj_W _ _ _ _ _ _ _ _ _ _ _ _ _ _ _ _ _ 9 _ [.int (iI 1)] (wM ad cI cJ cZ th td pr up dn dv n K St Ex Am Ov Bi As BL AL He Co Ca mo sh co sd Cz Ab be ++ E)
  refine jj_if_eq C0 (by omega) dX4_contrary_9 (tgt := 24) (by decide) (fun c_1 => absurd c_1 (by omega)) (fun c_1 => ?_)
  refine jj_aload_n C0 0 rfl dX4_contrary_12 ?_
  refine jj_iload_n C0 2 rfl dX4_contrary_13 ?_
  refine jj_callVi C0 (cc_X4_isContract1 hEV (c := c) (by first | exact hcn | omega) (by first | exact hn | omega)) (cwV 1 hw (lw_gV hU_920 hU_922 hU_47 hU_66 hU_923) rfl rfl rfl (by decide +kernel) ⟨Nat.le_of_ble_eq_true rfl, Nat.le_of_ble_eq_true rfl⟩) (ci := 5) (q0 := 0) rfl (rfl) rfl rfl (Nat.le_of_ble_eq_true rfl) ⟨by decide, by decide⟩ rfl rfl dX4_contrary_14 ?_
  intro _ hu
  show jj_W _ _ _ _ _ _ _ _ _ _ _ _ _ _ _ _ _ 17 _ [.int (iI 1)] (wM ad cI cJ cZ th td pr up dn dv n K St Ex Am Ov Bi As BL AL He Co Ca mo sh co sd Cz Ab be ++ E)
  refine jj_if_eq C0 (by omega) dX4_contrary_17 (tgt := 24) (by decide) (fun c_2 => absurd c_2 (by omega)) (fun c_2 => ?_)
  refine jj_iconst C0 dX4_contrary_20 ?_
  refine jj_goto C0 (tgt := 25) dX4_contrary_21 (by decide) ?_
  refine jj_istore C0 (lv' := [(4, .int (iI 1)), (0, .ref (ad 0)), (1, .int (iI (k : Int))), (2, .int (iI (c : Int))), (3, .int (iI v))]) (by decide) rfl dX4_contrary_25 ?_
  refine jj_aload_n C0 1 rfl dX4_contrary_27 ?_
  refine jj_iload C0 0 rfl dX4_contrary_28 ?_
  refine jj_if_ne C0 (by omega) dX4_contrary_30 (tgt := 37) (by decide) (fun c_3 => ?_) (fun c_3 => absurd c_3 (by omega))
  refine jj_aload_n C0 1 rfl dX4_contrary_37 ?_
  refine jj_get C0 (ci := 5) (v := .ref (ad 6)) hin_X4 (0) (rfl) rfl 11 (by decide) (hw _ hU_797) (fun _ h9 => h9) rfl dX4_contrary_38 ?_
  refine jj_iload_n C0 3 rfl dX4_contrary_41 ?_
  refine jj_zald C0 (q0 := 6) (t0 := 2) (f := Ov) (rfl) rfl (k := c) (by omega) (by omega) (by decide) dX4_contrary_42 ?_
  refine jj_if_eq C0 (by omega) dX4_contrary_43 (tgt := 50) (by decide) (fun c_4 => ?_) (fun c_4 => absurd c_4 (by omega))
  refine jj_iconst C0 dX4_contrary_50 ?_
  refine jj_put C0 (ci := 5) (v := .int (iI 0)) (ty := .int) hin_X4 tyX4 tyX4_ok nmX4 (0) (rfl) rfl 0 (by decide) (hw _ hU_786) (fun _ h9 => h9) rfl (by decide +kernel) (rfl) rfl (Nat.le_of_ble_eq_true rfl) (ws' := wM ad cI cJ cZ 0 td pr up dn dv n K St Ex Am Ov Bi As BL AL He Co Ca mo sh co sd Cz Ab be ++ E) (rfl) dX4_contrary_51 ?_
  refine jj_aload_n C0 1 rfl dX4_contrary_54 ?_
  refine jj_get C0 (ci := 5) (v := .int (iI 0)) hin_X4 (0) (rfl) rfl 0 (by decide) (hw _ hU_786) (fun _ h9 => h9) rfl dX4_contrary_55 ?_
  refine jj_if_le C0 (by omega) dX4_contrary_58 (tgt := 63) (by decide) (fun c_5 => ?_) (fun c_5 => absurd c_5 (by omega))
  refine jj_aload_n C0 1 rfl dX4_contrary_63 ?_
  refine jj_get C0 (ci := 5) (v := .ref (ad 12)) hin_X4 (0) (rfl) rfl 17 (by decide) (hw _ hU_803) (fun _ h9 => h9) rfl dX4_contrary_64 ?_
  refine jj_iload_n C0 2 rfl dX4_contrary_67 ?_
  refine jj_iload_n C0 3 rfl dX4_contrary_68 ?_
  refine jj_callSi C0 (cc_X4_at hEV (k := k) (c := c) (by first | exact hk | omega) (by omega)) (cwS 2 hw (lw_gS hU_882 hU_883 hU_66 hU_884) rfl rfl rfl (by decide +kernel) ⟨Nat.le_of_ble_eq_true rfl, Nat.le_of_ble_eq_true rfl⟩) rfl rfl (Nat.le_of_ble_eq_true rfl) ⟨by decide, by decide⟩ rfl rfl dX4_contrary_69 ?_
  intro _ hu
  show jj_W _ _ _ _ _ _ _ _ _ _ _ _ _ _ _ _ _ 72 _ [.int (iI ((7 * c + k : Nat) : Int)), .ref (ad 12)] (wM ad cI cJ cZ 0 td pr up dn dv n K St Ex Am Ov Bi As BL AL He Co Ca mo sh co sd Cz Ab be ++ E)
  refine jj_zald C0 (q0 := 12) (t0 := 2) (f := Co) (rfl) rfl (k := (7 * c + k)) (by omega) (by omega) (by decide) dX4_contrary_72 ?_
  have hb_Co_23019 := hCo (7 * c + k)
  refine jj_istore C0 (lv' := [(5, .int (iI (Co (7 * c + k)))), (4, .int (iI 1)), (0, .ref (ad 0)), (1, .int (iI (k : Int))), (2, .int (iI (c : Int))), (3, .int (iI v))]) (by decide) rfl dX4_contrary_73 ?_
  refine jj_aload_n C0 2 rfl dX4_contrary_75 ?_
  refine jj_get C0 (ci := 5) (v := .ref (ad 12)) hin_X4 (0) (rfl) rfl 17 (by decide) (hw _ hU_803) (fun _ h9 => h9) rfl dX4_contrary_76 ?_
  refine jj_iload_n C0 3 rfl dX4_contrary_79 ?_
  refine jj_iload_n C0 4 rfl dX4_contrary_80 ?_
  refine jj_callSi C0 (cc_X4_at hEV (k := k) (c := c) (by first | exact hk | omega) (by omega)) (cwS 2 hw (lw_gS hU_882 hU_883 hU_66 hU_884) rfl rfl rfl (by decide +kernel) ⟨Nat.le_of_ble_eq_true rfl, Nat.le_of_ble_eq_true rfl⟩) rfl rfl (Nat.le_of_ble_eq_true rfl) ⟨by decide, by decide⟩ rfl rfl dX4_contrary_81 ?_
  intro _ hu
  show jj_W _ _ _ _ _ _ _ _ _ _ _ _ _ _ _ _ _ 84 _ [.int (iI ((7 * c + k : Nat) : Int)), .ref (ad 12)] (wM ad cI cJ cZ 0 td pr up dn dv n K St Ex Am Ov Bi As BL AL He Co Ca mo sh co sd Cz Ab be ++ E)
  refine jj_iload_n C0 5 rfl dX4_contrary_84 ?_
  refine jj_zast C0 (q0 := 12) (t0 := 2) (f := Co) (rfl) rfl (k := (7 * c + k)) (by omega) (by omega) (by decide) (by omega) (ws' := wM ad cI cJ cZ 0 td pr up dn dv n K St Ex Am Ov Bi As BL AL He (va_up Co (7 * c + k) v) Ca mo sh co sd Cz Ab be ++ E) (rfl) dX4_contrary_85 ?_
  refine jj_iload C0 0 rfl dX4_contrary_86 ?_
  refine jj_iload_n C0 5 rfl dX4_contrary_88 ?_
  refine jj_icmp_eq C0 (by omega) (by omega) dX4_contrary_89 (tgt := 96) (by decide) (fun c_6 => ?_) (fun c_6 => ?_)
  · refine jj_iconst C0 dX4_contrary_96 ?_
    exact jj_zret C0 hr () (trivial) (by first | rw [if_pos (by omega)] | rw [if_neg (by omega)]) (by split <;> simp) (rfl) (by decide) (by decide) dX4_contrary_97
  · refine jj_iconst C0 dX4_contrary_92 ?_
    refine jj_goto C0 (tgt := 97) dX4_contrary_93 (by decide) ?_
    exact jj_zret C0 hr () (trivial) (by first | rw [if_pos (by omega)] | rw [if_neg (by omega)]) (by split <;> simp) (rfl) (by decide) (by decide) dX4_contrary_97
set_option maxHeartbeats 4000000 in
set_option maxRecDepth 100000 in
theorem cb_X4_contrary (hEV : jj_EV EV) {x z v : Int} {kk : Int} (hx : iR x) (hz : iR z) (hn : n ≤ 12) (hOv : ∀ j, 0 ≤ Ov j ∧ Ov j ≤ 1) (hbad : (¬ (0 ≤ x ∧ x ≤ 5 ∧ 0 ≤ z ∧ z < (n : Int)) ∧ kk = 1) ∨ ((0 ≤ x ∧ x ≤ 5 ∧ 0 ≤ z ∧ z < (n : Int)) ∧ Ov z.toNat ≠ 0 ∧ kk = 2)) : jj_Mi EV (dC, dI) vwCl [(cI, .int), (cJ, .long), (cZ, .boolean), (cO, .object "java/lang/Object")] l yX4_contrary (Cond.code yX4_contrary cX4_contrary 6 (some .boolean) :: lw_U) ({ frames := 2, cells := 0, slots := 0, locals := 46 } : Room) [.ref (ad 0), .int (iI x), .int (iI z), .int (iI v)] (wM ad cI cJ cZ th td pr up dn dv n K St Ex Am Ov Bi As BL AL He Co Ca mo sh co sd Cz Ab be ++ E) (S := Int) (fun u => u) (fun u => True) (fun u => wM ad cI cJ cZ kk td pr up dn dv n K St Ex Am Ov Bi As BL AL He Co Ca mo sh co sd Cz Ab be ++ E) := by
  refine jj_start (cc := cX4_contrary) (nL := 6) (ret := (some .boolean)) (lv := [(0, .ref (ad 0)), (1, .int (iI x)), (2, .int (iI z)), (3, .int (iI v))]) (fun A => jj_Qi _ _ _ _ _ _ A) hEV (by decide) rfl (Nat.le_of_ble_eq_true rfl) rfl ?_
  intro p9 e9 s9 m9 a9 b9 me9 c9 A9 C1 hr hin
  have C0 : jj_C p9 s9 m9 a9 me9 c9 (dC, dI) vwCl A9 6 cX4_contrary "StrikehallModel" lw_U _ EV := jj_toU C1
  have hw := C0.2.2.2.2.1
  refine jj_iload_n C0 1 rfl dX4_contrary_0 ?_
  refine jj_i2l C0 (by omega) dX4_contrary_1 ?_
  refine jj_lconst C0 (z := 0) (by decide) dX4_contrary_2 ?_
  refine jj_ldc2 C0 (z := 5) (by decide) (hw _ hU_960) dX4_contrary_3 ?_
  refine jj_callSi C0 (cc_X4_in hEV (v := x) (lo := 0) (hi := 5) (by omega) (by omega) (by omega)) (cwS 3 hw (lw_gS hU_874 hU_875 hU_66 hU_876) rfl rfl rfl (by decide +kernel) ⟨Nat.le_of_ble_eq_true rfl, Nat.le_of_ble_eq_true rfl⟩) rfl rfl (Nat.le_of_ble_eq_true rfl) ⟨by decide, by decide⟩ rfl rfl dX4_contrary_6 ?_
  intro u_1 hu
  have hu_6 : (u_1 = 1 ∧ 0 ≤ x ∧ x ≤ 5) ∨ (u_1 = 0 ∧ (x < 0 ∨ 5 < x)) := hu
  show jj_W _ _ _ _ _ _ _ _ _ _ _ _ _ _ _ _ _ 9 _ [.int (iI u_1)] (wM ad cI cJ cZ th td pr up dn dv n K St Ex Am Ov Bi As BL AL He Co Ca mo sh co sd Cz Ab be ++ E)
  refine jj_if_eq C0 (by omega) dX4_contrary_9 (tgt := 24) (by decide) (fun c_2 => ?_) (fun c_2 => ?_)
  · refine jj_iconst C0 dX4_contrary_24 ?_
    refine jj_istore C0 (lv' := [(4, .int (iI 0)), (0, .ref (ad 0)), (1, .int (iI x)), (2, .int (iI z)), (3, .int (iI v))]) (by decide) rfl dX4_contrary_25 ?_
    refine jj_aload_n C0 1 rfl dX4_contrary_27 ?_
    refine jj_iload C0 0 rfl dX4_contrary_28 ?_
    refine jj_if_ne C0 (by omega) dX4_contrary_30 (tgt := 37) (by decide) (fun c_3 => absurd c_3 (by omega)) (fun c_3 => ?_)
    refine jj_iconst C0 dX4_contrary_33 ?_
    refine jj_goto C0 (tgt := 51) dX4_contrary_34 (by decide) ?_
    refine jj_put C0 (ci := 5) (v := .int (iI 1)) (ty := .int) hin_X4 tyX4 tyX4_ok nmX4 (0) (rfl) rfl 0 (by decide) (hw _ hU_786) (fun _ h9 => h9) rfl (by decide +kernel) (rfl) rfl (Nat.le_of_ble_eq_true rfl) (ws' := wM ad cI cJ cZ 1 td pr up dn dv n K St Ex Am Ov Bi As BL AL He Co Ca mo sh co sd Cz Ab be ++ E) (rfl) dX4_contrary_51 ?_
    refine jj_aload_n C0 1 rfl dX4_contrary_54 ?_
    refine jj_get C0 (ci := 5) (v := .int (iI 1)) hin_X4 (0) (rfl) rfl 0 (by decide) (hw _ hU_786) (fun _ h9 => h9) rfl dX4_contrary_55 ?_
    refine jj_if_le C0 (by omega) dX4_contrary_58 (tgt := 63) (by decide) (fun c_4 => absurd c_4 (by omega)) (fun c_4 => ?_)
    refine jj_iconst C0 dX4_contrary_61 ?_
    obtain rfl : kk = 1 := by omega
    exact jj_zret C0 hr 0 (trivial) (rfl) (by omega) (rfl) (by decide) (by decide) dX4_contrary_62
  · refine jj_aload_n C0 0 rfl dX4_contrary_12 ?_
    refine jj_iload_n C0 2 rfl dX4_contrary_13 ?_
    refine jj_callVi C0 (cc_X4_isContract hEV (z := z) (by first | exact hz | omega) (by first | exact hn | omega)) (cwV 1 hw (lw_gV hU_920 hU_922 hU_47 hU_66 hU_923) rfl rfl rfl (by decide +kernel) ⟨Nat.le_of_ble_eq_true rfl, Nat.le_of_ble_eq_true rfl⟩) (ci := 5) (q0 := 0) rfl (rfl) rfl rfl (Nat.le_of_ble_eq_true rfl) ⟨by decide, by decide⟩ rfl rfl dX4_contrary_14 ?_
    intro u_5 hu
    have hu_14 : (u_5 = 1 ∧ 0 ≤ z ∧ z ≤ (n : Int) - 1) ∨ (u_5 = 0 ∧ (z < 0 ∨ (n : Int) - 1 < z)) := hu
    show jj_W _ _ _ _ _ _ _ _ _ _ _ _ _ _ _ _ _ 17 _ [.int (iI u_5)] (wM ad cI cJ cZ th td pr up dn dv n K St Ex Am Ov Bi As BL AL He Co Ca mo sh co sd Cz Ab be ++ E)
    refine jj_if_eq C0 (by omega) dX4_contrary_17 (tgt := 24) (by decide) (fun c_6 => ?_) (fun c_6 => ?_)
    · refine jj_iconst C0 dX4_contrary_24 ?_
      refine jj_istore C0 (lv' := [(4, .int (iI 0)), (0, .ref (ad 0)), (1, .int (iI x)), (2, .int (iI z)), (3, .int (iI v))]) (by decide) rfl dX4_contrary_25 ?_
      refine jj_aload_n C0 1 rfl dX4_contrary_27 ?_
      refine jj_iload C0 0 rfl dX4_contrary_28 ?_
      refine jj_if_ne C0 (by omega) dX4_contrary_30 (tgt := 37) (by decide) (fun c_7 => absurd c_7 (by omega)) (fun c_7 => ?_)
      refine jj_iconst C0 dX4_contrary_33 ?_
      refine jj_goto C0 (tgt := 51) dX4_contrary_34 (by decide) ?_
      refine jj_put C0 (ci := 5) (v := .int (iI 1)) (ty := .int) hin_X4 tyX4 tyX4_ok nmX4 (0) (rfl) rfl 0 (by decide) (hw _ hU_786) (fun _ h9 => h9) rfl (by decide +kernel) (rfl) rfl (Nat.le_of_ble_eq_true rfl) (ws' := wM ad cI cJ cZ 1 td pr up dn dv n K St Ex Am Ov Bi As BL AL He Co Ca mo sh co sd Cz Ab be ++ E) (rfl) dX4_contrary_51 ?_
      refine jj_aload_n C0 1 rfl dX4_contrary_54 ?_
      refine jj_get C0 (ci := 5) (v := .int (iI 1)) hin_X4 (0) (rfl) rfl 0 (by decide) (hw _ hU_786) (fun _ h9 => h9) rfl dX4_contrary_55 ?_
      refine jj_if_le C0 (by omega) dX4_contrary_58 (tgt := 63) (by decide) (fun c_8 => absurd c_8 (by omega)) (fun c_8 => ?_)
      refine jj_iconst C0 dX4_contrary_61 ?_
      obtain rfl : kk = 1 := by omega
      exact jj_zret C0 hr 0 (trivial) (rfl) (by omega) (rfl) (by decide) (by decide) dX4_contrary_62
    · refine jj_iconst C0 dX4_contrary_20 ?_
      refine jj_goto C0 (tgt := 25) dX4_contrary_21 (by decide) ?_
      refine jj_istore C0 (lv' := [(4, .int (iI 1)), (0, .ref (ad 0)), (1, .int (iI x)), (2, .int (iI z)), (3, .int (iI v))]) (by decide) rfl dX4_contrary_25 ?_
      refine jj_aload_n C0 1 rfl dX4_contrary_27 ?_
      refine jj_iload C0 0 rfl dX4_contrary_28 ?_
      refine jj_if_ne C0 (by omega) dX4_contrary_30 (tgt := 37) (by decide) (fun c_9 => ?_) (fun c_9 => absurd c_9 (by omega))
      refine jj_aload_n C0 1 rfl dX4_contrary_37 ?_
      refine jj_get C0 (ci := 5) (v := .ref (ad 6)) hin_X4 (0) (rfl) rfl 11 (by decide) (hw _ hU_797) (fun _ h9 => h9) rfl dX4_contrary_38 ?_
      refine jj_iload_n C0 3 rfl dX4_contrary_41 ?_
      refine jj_zald C0 (q0 := 6) (t0 := 2) (f := Ov) (rfl) rfl (k := z.toNat) (by omega) (by omega) (by decide) dX4_contrary_42 ?_
      have hb_Ov_901 := hOv z.toNat
      refine jj_if_eq C0 (by omega) dX4_contrary_43 (tgt := 50) (by decide) (fun c_10 => ?_) (fun c_10 => ?_)
      · refine jj_iconst C0 dX4_contrary_50 ?_
        refine jj_put C0 (ci := 5) (v := .int (iI 0)) (ty := .int) hin_X4 tyX4 tyX4_ok nmX4 (0) (rfl) rfl 0 (by decide) (hw _ hU_786) (fun _ h9 => h9) rfl (by decide +kernel) (rfl) rfl (Nat.le_of_ble_eq_true rfl) (ws' := wM ad cI cJ cZ 0 td pr up dn dv n K St Ex Am Ov Bi As BL AL He Co Ca mo sh co sd Cz Ab be ++ E) (rfl) dX4_contrary_51 ?_
        refine jj_aload_n C0 1 rfl dX4_contrary_54 ?_
        refine jj_get C0 (ci := 5) (v := .int (iI 0)) hin_X4 (0) (rfl) rfl 0 (by decide) (hw _ hU_786) (fun _ h9 => h9) rfl dX4_contrary_55 ?_
        refine jj_if_le C0 (by omega) dX4_contrary_58 (tgt := 63) (by decide) (fun c_11 => ?_) (fun c_11 => absurd c_11 (by omega))
        exfalso
        omega
      · refine jj_iconst C0 dX4_contrary_46 ?_
        refine jj_goto C0 (tgt := 51) dX4_contrary_47 (by decide) ?_
        refine jj_put C0 (ci := 5) (v := .int (iI 2)) (ty := .int) hin_X4 tyX4 tyX4_ok nmX4 (0) (rfl) rfl 0 (by decide) (hw _ hU_786) (fun _ h9 => h9) rfl (by decide +kernel) (rfl) rfl (Nat.le_of_ble_eq_true rfl) (ws' := wM ad cI cJ cZ 2 td pr up dn dv n K St Ex Am Ov Bi As BL AL He Co Ca mo sh co sd Cz Ab be ++ E) (rfl) dX4_contrary_51 ?_
        refine jj_aload_n C0 1 rfl dX4_contrary_54 ?_
        refine jj_get C0 (ci := 5) (v := .int (iI 2)) hin_X4 (0) (rfl) rfl 0 (by decide) (hw _ hU_786) (fun _ h9 => h9) rfl dX4_contrary_55 ?_
        refine jj_if_le C0 (by omega) dX4_contrary_58 (tgt := 63) (by decide) (fun c_12 => absurd c_12 (by omega)) (fun c_12 => ?_)
        refine jj_iconst C0 dX4_contrary_61 ?_
        obtain rfl : kk = 2 := by omega
        exact jj_zret C0 hr 0 (trivial) (rfl) (by omega) (rfl) (by decide) (by decide) dX4_contrary_62
set_option maxHeartbeats 4000000 in
set_option maxRecDepth 100000 in
theorem cc_X4_hasQuote (hEV : jj_EV EV) {c : Nat} (hc : c < 12) (hBL : ∀ j, 0 ≤ BL j ∧ BL j ≤ 100) (hAL : ∀ j, 0 ≤ AL j ∧ AL j ≤ 100) : jj_Mi EV (dC, dI) vwCl [(cI, .int), (cJ, .long), (cZ, .boolean), (cO, .object "java/lang/Object")] l yX4_hasQuote (Cond.code yX4_hasQuote cX4_hasQuote 2 (some .boolean) :: lw_U) ({ frames := 0, cells := 0, slots := 0, locals := 0 } : Room) [.ref (ad 0), .int (iI (c : Int))] (wM ad cI cJ cZ th td pr up dn dv n K St Ex Am Ov Bi As BL AL He Co Ca mo sh co sd Cz Ab be ++ E) (S := Int) (fun u => u) (fun u => (u = 1 ∧ 0 < BL c + AL c) ∨ (u = 0 ∧ BL c + AL c ≤ 0)) (fun u => wM ad cI cJ cZ th td pr up dn dv n K St Ex Am Ov Bi As BL AL He Co Ca mo sh co sd Cz Ab be ++ E) := by
  refine jj_start (cc := cX4_hasQuote) (nL := 2) (ret := (some .boolean)) (lv := [(0, .ref (ad 0)), (1, .int (iI (c : Int)))]) (fun A => jj_Qi _ _ _ _ _ _ A) hEV (by decide) rfl (Nat.le_of_ble_eq_true rfl) rfl ?_
  intro p9 e9 s9 m9 a9 b9 me9 c9 A9 C1 hr hin
  have C0 : jj_C p9 s9 m9 a9 me9 c9 (dC, dI) vwCl A9 2 cX4_hasQuote "StrikehallModel" lw_U _ EV := jj_toU C1
  have hw := C0.2.2.2.2.1
  refine jj_aload_n C0 0 rfl dX4_hasQuote_0 ?_
  refine jj_get C0 (ci := 5) (v := .ref (ad 9)) hin_X4 (0) (rfl) rfl 14 (by decide) (hw _ hU_800) (fun _ h9 => h9) rfl dX4_hasQuote_1 ?_
  refine jj_iload_n C0 1 rfl dX4_hasQuote_4 ?_
  refine jj_iald C0 (q0 := 9) (t0 := 0) (f := BL) (rfl) rfl (k := c) (by omega) (by omega) (by decide) dX4_hasQuote_5 ?_
  have hb_BL_49931 := hBL c
  refine jj_aload_n C0 0 rfl dX4_hasQuote_6 ?_
  refine jj_get C0 (ci := 5) (v := .ref (ad 10)) hin_X4 (0) (rfl) rfl 15 (by decide) (hw _ hU_801) (fun _ h9 => h9) rfl dX4_hasQuote_7 ?_
  refine jj_iload_n C0 1 rfl dX4_hasQuote_10 ?_
  refine jj_iald C0 (q0 := 10) (t0 := 0) (f := AL) (rfl) rfl (k := c) (by omega) (by omega) (by decide) dX4_hasQuote_11 ?_
  have hb_AL_29887 := hAL c
  refine jj_iadd C0 dX4_hasQuote_12 ?_
  refine jj_if_le C0 (by omega) dX4_hasQuote_13 (tgt := 20) (by decide) (fun c_1 => ?_) (fun c_1 => ?_)
  · refine jj_iconst C0 dX4_hasQuote_20 ?_
    exact jj_zret C0 hr 0 (by omega) (rfl) (by omega) (rfl) (by decide) (by decide) dX4_hasQuote_21
  · refine jj_iconst C0 dX4_hasQuote_16 ?_
    refine jj_goto C0 (tgt := 21) dX4_hasQuote_17 (by decide) ?_
    exact jj_zret C0 hr 1 (by omega) (rfl) (by omega) (rfl) (by decide) (by decide) dX4_hasQuote_21
set_option maxHeartbeats 4000000 in
set_option maxRecDepth 100000 in
theorem cc_X4_kill (hEV : jj_EV EV)  (hn : n ≤ 12) (hBL : ∀ j, 0 ≤ BL j ∧ BL j ≤ 100) (hAL : ∀ j, 0 ≤ AL j ∧ AL j ≤ 100) : jj_Mi EV (dC, dI) vwCl [(cI, .int), (cJ, .long), (cZ, .boolean), (cO, .object "java/lang/Object")] l yX4_kill (Cond.code yX4_kill cX4_kill 3 (some .int) :: lw_U) ({ frames := 1, cells := 0, slots := 0, locals := 21 } : Room) [.ref (ad 0)] (wM ad cI cJ cZ th td pr up dn dv n K St Ex Am Ov Bi As BL AL He Co Ca mo sh co sd Cz Ab be ++ E) (S := Unit) (fun _ => (f_cnt BL AL n)) (fun _ => True) (fun _ => wM ad cI cJ cZ 0 td pr up dn dv n K St Ex Am Ov Bi As (f_zero BL n) (f_zero AL n) He Co Ca mo sh co sd Cz Ab be ++ E) := by
  refine jj_start (cc := cX4_kill) (nL := 3) (ret := (some .int)) (lv := [(0, .ref (ad 0))]) (fun A => jj_Qi _ _ _ _ _ _ A) hEV (by decide) rfl (Nat.le_of_ble_eq_true rfl) rfl ?_
  intro p9 e9 s9 m9 a9 b9 me9 c9 A9 C1 hr hin
  have C0 : jj_C p9 s9 m9 a9 me9 c9 (dC, dI) vwCl A9 3 cX4_kill "StrikehallModel" lw_U _ EV := jj_toU C1
  have hw := C0.2.2.2.2.1
  refine jj_aload_n C0 0 rfl dX4_kill_0 ?_
  refine jj_iconst C0 dX4_kill_1 ?_
  refine jj_put C0 (ci := 5) (v := .int (iI 0)) (ty := .int) hin_X4 tyX4 tyX4_ok nmX4 (0) (rfl) rfl 0 (by decide) (hw _ hU_786) (fun _ h9 => h9) rfl (by decide +kernel) (rfl) rfl (Nat.le_of_ble_eq_true rfl) (ws' := wM ad cI cJ cZ 0 td pr up dn dv n K St Ex Am Ov Bi As BL AL He Co Ca mo sh co sd Cz Ab be ++ E) (rfl) dX4_kill_2 ?_
  refine jj_iconst C0 dX4_kill_5 ?_
  refine jj_topi (b := (f_cnt BL AL 0)) (rfl) ?_
  refine jj_istore_n C0 (i := 1) rfl (lv' := [(1, .int (iI (f_cnt BL AL 0))), (0, .ref (ad 0))]) (by decide) rfl dX4_kill_6 ?_
  refine jj_iconst C0 dX4_kill_7 ?_
  refine jj_ws (ws' := wM ad cI cJ cZ 0 td pr up dn dv n K St Ex Am Ov Bi As (f_zero BL 0) (f_zero AL 0) He Co Ca mo sh co sd Cz Ab be ++ E) (by rw [f_zero_0, f_zero_0]) ?_
  refine jj_istore_n C0 (i := 2) rfl (lv' := [(2, .int (iI 0)), (1, .int (iI (f_cnt BL AL 0))), (0, .ref (ad 0))]) (by decide) rfl dX4_kill_8 ?_
  refine jj_ind (X := Nat) (fun q9 => match q9 with | i => (n + 1 - i : Nat)) (fun q9 => match q9 with | i => [(2, .int (iI (i : Int))), (1, .int (iI (f_cnt BL AL i))), (0, .ref (ad 0))]) (fun q9 => match q9 with | i => []) (fun q9 => match q9 with | i => wM ad cI cJ cZ 0 td pr up dn dv n K St Ex Am Ov Bi As (f_zero BL i) (f_zero AL i) He Co Ca mo sh co sd Cz Ab be ++ E) (fun q9 => match q9 with | i => i ≤ n) ?_ 0 (Nat.zero_le _)
  intro q9 hq9 ih9
  obtain ⟨i, rfl⟩ : ∃ z, z = q9 := ⟨_, rfl⟩
  have hi : i ≤ n := hq9
  show jj_W _ _ _ _ _ _ _ _ _ _ _ _ _ _ _ _ _ 9 [(2, .int (iI (i : Int))), (1, .int (iI (f_cnt BL AL i))), (0, .ref (ad 0))] [] (wM ad cI cJ cZ 0 td pr up dn dv n K St Ex Am Ov Bi As (f_zero BL i) (f_zero AL i) He Co Ca mo sh co sd Cz Ab be ++ E)
  refine jj_iload_n C0 0 rfl dX4_kill_9 ?_
  refine jj_aload_n C0 2 rfl dX4_kill_10 ?_
  refine jj_get C0 (ci := 5) (v := .int (iI (n : Int))) hin_X4 (0) (rfl) rfl 6 (by decide) (hw _ hU_792) (fun _ h9 => h9) rfl dX4_kill_11 ?_
  have hcb := f_cnt_bd BL AL i
  refine jj_icmp_ge C0 (by omega) (by omega) dX4_kill_14 (tgt := 53) (by decide) (fun c_1 => ?_) (fun c_1 => ?_)
  · obtain rfl : i = n := by omega
    refine jj_iload_n C0 1 rfl dX4_kill_53 ?_
    exact jj_iret C0 hr () (trivial) (rfl) (rfl) (by decide) (by decide) dX4_kill_54
  · refine jj_iload_n C0 1 rfl dX4_kill_17 ?_
    refine jj_aload_n C0 2 rfl dX4_kill_18 ?_
    refine jj_iload_n C0 0 rfl dX4_kill_19 ?_
    refine jj_callVi C0 (cc_X4_hasQuote hEV (c := i) (by omega) (f_zero_bd hBL (by decide) i) (f_zero_bd hAL (by decide) i)) (cwV 1 hw (lw_gV hU_948 hU_950 hU_53 hU_66 hU_951) rfl rfl rfl (by decide +kernel) ⟨Nat.le_of_ble_eq_true rfl, Nat.le_of_ble_eq_true rfl⟩) (ci := 5) (q0 := 0) rfl (rfl) rfl rfl (Nat.le_of_ble_eq_true rfl) ⟨by decide, by decide⟩ rfl rfl dX4_kill_20 ?_
    intro u_2 hu
    have hu_20 : (u_2 = 1 ∧ 0 < (f_zero BL i) i + (f_zero AL i) i) ∨ (u_2 = 0 ∧ (f_zero BL i) i + (f_zero AL i) i ≤ 0) := hu
    show jj_W _ _ _ _ _ _ _ _ _ _ _ _ _ _ _ _ _ 23 _ [.int (iI u_2), .int (iI (f_cnt BL AL i))] (wM ad cI cJ cZ 0 td pr up dn dv n K St Ex Am Ov Bi As (f_zero BL i) (f_zero AL i) He Co Ca mo sh co sd Cz Ab be ++ E)
    rw [f_zero_at, f_zero_at] at hu_20
    have hcb := f_cnt_bd BL AL i
    refine jj_if_eq C0 (by omega) dX4_kill_23 (tgt := 30) (by decide) (fun c_3 => ?_) (fun c_3 => ?_)
    · refine jj_iconst C0 dX4_kill_30 ?_
      refine jj_iadd C0 dX4_kill_31 ?_
      refine jj_topi (b := (f_cnt BL AL (i + 1))) (by simp only [f_cnt]; first | rw [if_pos (by omega)] | rw [if_neg (by omega)]) ?_
      refine jj_istore_n C0 (i := 1) rfl (lv' := [(1, .int (iI (f_cnt BL AL (i + 1)))), (2, .int (iI (i : Int))), (0, .ref (ad 0))]) (by decide) rfl dX4_kill_32 ?_
      refine jj_aload_n C0 2 rfl dX4_kill_33 ?_
      refine jj_get C0 (ci := 5) (v := .ref (ad 9)) hin_X4 (0) (rfl) rfl 14 (by decide) (hw _ hU_800) (fun _ h9 => h9) rfl dX4_kill_34 ?_
      refine jj_iload_n C0 1 rfl dX4_kill_37 ?_
      refine jj_iconst C0 dX4_kill_38 ?_
      refine jj_iast C0 (q0 := 9) (t0 := 0) (f := (f_zero BL i)) (rfl) rfl (k := i) (by omega) (by omega) (by decide) (ws' := wM ad cI cJ cZ 0 td pr up dn dv n K St Ex Am Ov Bi As (va_up (f_zero BL i) i 0) (f_zero AL i) He Co Ca mo sh co sd Cz Ab be ++ E) (rfl) dX4_kill_39 ?_
      refine jj_aload_n C0 2 rfl dX4_kill_40 ?_
      refine jj_get C0 (ci := 5) (v := .ref (ad 10)) hin_X4 (0) (rfl) rfl 15 (by decide) (hw _ hU_801) (fun _ h9 => h9) rfl dX4_kill_41 ?_
      refine jj_iload_n C0 1 rfl dX4_kill_44 ?_
      refine jj_iconst C0 dX4_kill_45 ?_
      refine jj_iast C0 (q0 := 10) (t0 := 0) (f := (f_zero AL i)) (rfl) rfl (k := i) (by omega) (by omega) (by decide) (ws' := wM ad cI cJ cZ 0 td pr up dn dv n K St Ex Am Ov Bi As (va_up (f_zero BL i) i 0) (va_up (f_zero AL i) i 0) He Co Ca mo sh co sd Cz Ab be ++ E) (rfl) dX4_kill_46 ?_
      refine jj_ws (ws' := wM ad cI cJ cZ 0 td pr up dn dv n K St Ex Am Ov Bi As (f_zero BL (i + 1)) (f_zero AL (i + 1)) He Co Ca mo sh co sd Cz Ab be ++ E) (by rw [f_zero_up, f_zero_up]) ?_
      refine jj_iinc C0 (z := ((i + 1 : Nat) : Int)) (lv' := [(2, .int (iI ((i + 1 : Nat) : Int))), (1, .int (iI (f_cnt BL AL (i + 1)))), (0, .ref (ad 0))]) 1 rfl (by omega) (by decide) rfl dX4_kill_47 ?_
      refine jj_goto C0 (tgt := 9) dX4_kill_50 (by decide) ?_
      exact ih9 (i + 1) (by omega) (by dsimp only; omega)
    · refine jj_iconst C0 dX4_kill_26 ?_
      refine jj_goto C0 (tgt := 31) dX4_kill_27 (by decide) ?_
      refine jj_iadd C0 dX4_kill_31 ?_
      refine jj_topi (b := (f_cnt BL AL (i + 1))) (by simp only [f_cnt]; first | rw [if_pos (by omega)] | rw [if_neg (by omega)]) ?_
      refine jj_istore_n C0 (i := 1) rfl (lv' := [(1, .int (iI (f_cnt BL AL (i + 1)))), (2, .int (iI (i : Int))), (0, .ref (ad 0))]) (by decide) rfl dX4_kill_32 ?_
      refine jj_aload_n C0 2 rfl dX4_kill_33 ?_
      refine jj_get C0 (ci := 5) (v := .ref (ad 9)) hin_X4 (0) (rfl) rfl 14 (by decide) (hw _ hU_800) (fun _ h9 => h9) rfl dX4_kill_34 ?_
      refine jj_iload_n C0 1 rfl dX4_kill_37 ?_
      refine jj_iconst C0 dX4_kill_38 ?_
      refine jj_iast C0 (q0 := 9) (t0 := 0) (f := (f_zero BL i)) (rfl) rfl (k := i) (by omega) (by omega) (by decide) (ws' := wM ad cI cJ cZ 0 td pr up dn dv n K St Ex Am Ov Bi As (va_up (f_zero BL i) i 0) (f_zero AL i) He Co Ca mo sh co sd Cz Ab be ++ E) (rfl) dX4_kill_39 ?_
      refine jj_aload_n C0 2 rfl dX4_kill_40 ?_
      refine jj_get C0 (ci := 5) (v := .ref (ad 10)) hin_X4 (0) (rfl) rfl 15 (by decide) (hw _ hU_801) (fun _ h9 => h9) rfl dX4_kill_41 ?_
      refine jj_iload_n C0 1 rfl dX4_kill_44 ?_
      refine jj_iconst C0 dX4_kill_45 ?_
      refine jj_iast C0 (q0 := 10) (t0 := 0) (f := (f_zero AL i)) (rfl) rfl (k := i) (by omega) (by omega) (by decide) (ws' := wM ad cI cJ cZ 0 td pr up dn dv n K St Ex Am Ov Bi As (va_up (f_zero BL i) i 0) (va_up (f_zero AL i) i 0) He Co Ca mo sh co sd Cz Ab be ++ E) (rfl) dX4_kill_46 ?_
      refine jj_ws (ws' := wM ad cI cJ cZ 0 td pr up dn dv n K St Ex Am Ov Bi As (f_zero BL (i + 1)) (f_zero AL (i + 1)) He Co Ca mo sh co sd Cz Ab be ++ E) (by rw [f_zero_up, f_zero_up]) ?_
      refine jj_iinc C0 (z := ((i + 1 : Nat) : Int)) (lv' := [(2, .int (iI ((i + 1 : Nat) : Int))), (1, .int (iI (f_cnt BL AL (i + 1)))), (0, .ref (ad 0))]) 1 rfl (by omega) (by decide) rfl dX4_kill_47 ?_
      refine jj_goto C0 (tgt := 9) dX4_kill_50 (by decide) ?_
      exact ih9 (i + 1) (by omega) (by dsimp only; omega)
set_option maxHeartbeats 4000000 in
set_option maxRecDepth 100000 in
theorem cc_X4_quoted (hEV : jj_EV EV) {c : Nat} {x : Int} (hx : 0 ≤ x ∧ x ≤ 3) (hcn : c < n) (hn : n ≤ 12) (hBL : ∀ j, 0 ≤ BL j ∧ BL j ≤ 100) (hAL : ∀ j, 0 ≤ AL j ∧ AL j ≤ 100) : jj_Mi EV (dC, dI) vwCl [(cI, .int), (cJ, .long), (cZ, .boolean), (cO, .object "java/lang/Object")] l yX4_quoted (Cond.code yX4_quoted cX4_quoted 3 (some .int) :: lw_U) ({ frames := 2, cells := 0, slots := 0, locals := 46 } : Room) [.ref (ad 0), .int (iI (c : Int)), .int (iI x)] (wM ad cI cJ cZ th td pr up dn dv n K St Ex Am Ov Bi As BL AL He Co Ca mo sh co sd Cz Ab be ++ E) (S := Unit) (fun _ => (if 0 < BL c + AL c then (if x = 0 then Bi c else if x = 1 then As c else if x = 2 then BL c else AL c) else 0)) (fun _ => True) (fun _ => wM ad cI cJ cZ 0 td pr up dn dv n K St Ex Am Ov Bi As BL AL He Co Ca mo sh co sd Cz Ab be ++ E) := by
  refine jj_start (cc := cX4_quoted) (nL := 3) (ret := (some .int)) (lv := [(0, .ref (ad 0)), (1, .int (iI (c : Int))), (2, .int (iI x))]) (fun A => jj_Qi _ _ _ _ _ _ A) hEV (by decide) rfl (Nat.le_of_ble_eq_true rfl) rfl ?_
  intro p9 e9 s9 m9 a9 b9 me9 c9 A9 C1 hr hin
  have C0 : jj_C p9 s9 m9 a9 me9 c9 (dC, dI) vwCl A9 3 cX4_quoted "StrikehallModel" lw_U _ EV := jj_toU C1
  have hw := C0.2.2.2.2.1
  refine jj_aload_n C0 0 rfl dX4_quoted_0 ?_
  refine jj_aload_n C0 0 rfl dX4_quoted_1 ?_
  refine jj_iload_n C0 1 rfl dX4_quoted_2 ?_
  refine jj_callVi C0 (cc_X4_isContract1 hEV (c := c) (by first | exact hcn | omega) (by first | exact hn | omega)) (cwV 1 hw (lw_gV hU_920 hU_922 hU_47 hU_66 hU_923) rfl rfl rfl (by decide +kernel) ⟨Nat.le_of_ble_eq_true rfl, Nat.le_of_ble_eq_true rfl⟩) (ci := 5) (q0 := 0) rfl (rfl) rfl rfl (Nat.le_of_ble_eq_true rfl) ⟨by decide, by decide⟩ rfl rfl dX4_quoted_3 ?_
  intro _ hu
  show jj_W _ _ _ _ _ _ _ _ _ _ _ _ _ _ _ _ _ 6 _ [.int (iI 1), .ref (ad 0)] (wM ad cI cJ cZ th td pr up dn dv n K St Ex Am Ov Bi As BL AL He Co Ca mo sh co sd Cz Ab be ++ E)
  refine jj_if_ne C0 (by omega) dX4_quoted_6 (tgt := 13) (by decide) (fun c_1 => ?_) (fun c_1 => absurd c_1 (by omega))
  refine jj_iload_n C0 2 rfl dX4_quoted_13 ?_
  refine jj_i2l C0 (by omega) dX4_quoted_14 ?_
  refine jj_lconst C0 (z := 0) (by decide) dX4_quoted_15 ?_
  refine jj_ldc2 C0 (z := 3) (by decide) (hw _ hU_1041) dX4_quoted_16 ?_
  refine jj_callSi C0 (cc_X4_in1 hEV (v := x) (lo := 0) (hi := 3) (by omega) (by omega) (by omega) (by omega)) (cwS 3 hw (lw_gS hU_874 hU_875 hU_66 hU_876) rfl rfl rfl (by decide +kernel) ⟨Nat.le_of_ble_eq_true rfl, Nat.le_of_ble_eq_true rfl⟩) rfl rfl (Nat.le_of_ble_eq_true rfl) ⟨by decide, by decide⟩ rfl rfl dX4_quoted_19 ?_
  intro _ hu
  show jj_W _ _ _ _ _ _ _ _ _ _ _ _ _ _ _ _ _ 22 _ [.int (iI 1), .ref (ad 0)] (wM ad cI cJ cZ th td pr up dn dv n K St Ex Am Ov Bi As BL AL He Co Ca mo sh co sd Cz Ab be ++ E)
  refine jj_if_eq C0 (by omega) dX4_quoted_22 (tgt := 29) (by decide) (fun c_2 => absurd c_2 (by omega)) (fun c_2 => ?_)
  refine jj_iconst C0 dX4_quoted_25 ?_
  refine jj_goto C0 (tgt := 30) dX4_quoted_26 (by decide) ?_
  refine jj_put C0 (ci := 5) (v := .int (iI 0)) (ty := .int) hin_X4 tyX4 tyX4_ok nmX4 (0) (rfl) rfl 0 (by decide) (hw _ hU_786) (fun _ h9 => h9) rfl (by decide +kernel) (rfl) rfl (Nat.le_of_ble_eq_true rfl) (ws' := wM ad cI cJ cZ 0 td pr up dn dv n K St Ex Am Ov Bi As BL AL He Co Ca mo sh co sd Cz Ab be ++ E) (rfl) dX4_quoted_30 ?_
  refine jj_aload_n C0 0 rfl dX4_quoted_33 ?_
  refine jj_get C0 (ci := 5) (v := .int (iI 0)) hin_X4 (0) (rfl) rfl 0 (by decide) (hw _ hU_786) (fun _ h9 => h9) rfl dX4_quoted_34 ?_
  refine jj_if_gt C0 (by omega) dX4_quoted_37 (tgt := 48) (by decide) (fun c_3 => absurd c_3 (by omega)) (fun c_3 => ?_)
  refine jj_aload_n C0 0 rfl dX4_quoted_40 ?_
  refine jj_iload_n C0 1 rfl dX4_quoted_41 ?_
  refine jj_callVi C0 (cc_X4_hasQuote hEV (c := c) (by omega) (by first | exact hBL | omega) (by first | exact hAL | omega)) (cwV 1 hw (lw_gV hU_948 hU_950 hU_53 hU_66 hU_951) rfl rfl rfl (by decide +kernel) ⟨Nat.le_of_ble_eq_true rfl, Nat.le_of_ble_eq_true rfl⟩) (ci := 5) (q0 := 0) rfl (rfl) rfl rfl (Nat.le_of_ble_eq_true rfl) ⟨by decide, by decide⟩ rfl rfl dX4_quoted_42 ?_
  intro u_4 hu
  have hu_42 : (u_4 = 1 ∧ 0 < BL c + AL c) ∨ (u_4 = 0 ∧ BL c + AL c ≤ 0) := hu
  show jj_W _ _ _ _ _ _ _ _ _ _ _ _ _ _ _ _ _ 45 _ [.int (iI u_4)] (wM ad cI cJ cZ 0 td pr up dn dv n K St Ex Am Ov Bi As BL AL He Co Ca mo sh co sd Cz Ab be ++ E)
  refine jj_if_ne C0 (by omega) dX4_quoted_45 (tgt := 50) (by decide) (fun c_5 => ?_) (fun c_5 => ?_)
  · refine jj_iload_n C0 2 rfl dX4_quoted_50 ?_
    refine jj_if_ne C0 (by omega) dX4_quoted_51 (tgt := 63) (by decide) (fun c_6 => ?_) (fun c_6 => ?_)
    · refine jj_iload_n C0 2 rfl dX4_quoted_63 ?_
      refine jj_iconst C0 dX4_quoted_64 ?_
      refine jj_icmp_ne C0 (by omega) (by omega) dX4_quoted_65 (tgt := 77) (by decide) (fun c_7 => ?_) (fun c_7 => ?_)
      · refine jj_iload_n C0 2 rfl dX4_quoted_77 ?_
        refine jj_iconst C0 dX4_quoted_78 ?_
        refine jj_icmp_ne C0 (by omega) (by omega) dX4_quoted_79 (tgt := 91) (by decide) (fun c_8 => ?_) (fun c_8 => ?_)
        · refine jj_aload_n C0 0 rfl dX4_quoted_91 ?_
          refine jj_get C0 (ci := 5) (v := .ref (ad 10)) hin_X4 (0) (rfl) rfl 15 (by decide) (hw _ hU_801) (fun _ h9 => h9) rfl dX4_quoted_92 ?_
          refine jj_iload_n C0 1 rfl dX4_quoted_95 ?_
          refine jj_iald C0 (q0 := 10) (t0 := 0) (f := AL) (rfl) rfl (k := c) (by omega) (by omega) (by decide) dX4_quoted_96 ?_
          have hb_AL_29887 := hAL c
          exact jj_iret C0 hr () (trivial) (by (repeat' split) <;> omega) (rfl) (by decide) (by decide) dX4_quoted_97
        · refine jj_aload_n C0 0 rfl dX4_quoted_82 ?_
          refine jj_get C0 (ci := 5) (v := .ref (ad 9)) hin_X4 (0) (rfl) rfl 14 (by decide) (hw _ hU_800) (fun _ h9 => h9) rfl dX4_quoted_83 ?_
          refine jj_iload_n C0 1 rfl dX4_quoted_86 ?_
          refine jj_iald C0 (q0 := 9) (t0 := 0) (f := BL) (rfl) rfl (k := c) (by omega) (by omega) (by decide) dX4_quoted_87 ?_
          have hb_BL_49931 := hBL c
          refine jj_goto C0 (tgt := 97) dX4_quoted_88 (by decide) ?_
          exact jj_iret C0 hr () (trivial) (by (repeat' split) <;> omega) (rfl) (by decide) (by decide) dX4_quoted_97
      · refine jj_aload_n C0 0 rfl dX4_quoted_68 ?_
        refine jj_get C0 (ci := 5) (v := .ref (ad 8)) hin_X4 (0) (rfl) rfl 13 (by decide) (hw _ hU_799) (fun _ h9 => h9) rfl dX4_quoted_69 ?_
        refine jj_iload_n C0 1 rfl dX4_quoted_72 ?_
        refine jj_iald C0 (q0 := 8) (t0 := 0) (f := As) (rfl) rfl (k := c) (by omega) (by omega) (by decide) dX4_quoted_73 ?_
        refine jj_goto C0 (tgt := 97) dX4_quoted_74 (by decide) ?_
        exact jj_iret C0 hr () (trivial) (by (repeat' split) <;> omega) (rfl) (by decide) (by decide) dX4_quoted_97
    · refine jj_aload_n C0 0 rfl dX4_quoted_54 ?_
      refine jj_get C0 (ci := 5) (v := .ref (ad 7)) hin_X4 (0) (rfl) rfl 12 (by decide) (hw _ hU_798) (fun _ h9 => h9) rfl dX4_quoted_55 ?_
      refine jj_iload_n C0 1 rfl dX4_quoted_58 ?_
      refine jj_iald C0 (q0 := 7) (t0 := 0) (f := Bi) (rfl) rfl (k := c) (by omega) (by omega) (by decide) dX4_quoted_59 ?_
      refine jj_goto C0 (tgt := 97) dX4_quoted_60 (by decide) ?_
      exact jj_iret C0 hr () (trivial) (by (repeat' split) <;> omega) (rfl) (by decide) (by decide) dX4_quoted_97
  · refine jj_iconst C0 dX4_quoted_48 ?_
    exact jj_iret C0 hr () (trivial) (by (repeat' split) <;> omega) (rfl) (by decide) (by decide) dX4_quoted_49
set_option maxHeartbeats 4000000 in
set_option maxRecDepth 100000 in
theorem cb_X4_quoted (hEV : jj_EV EV) {x z : Int} {kk : Int} (hx : iR x) (hz : iR z) (hn : n ≤ 12) (hbad : (¬ (0 ≤ z ∧ z < (n : Int)) ∧ kk = 1) ∨ ((0 ≤ z ∧ z < (n : Int)) ∧ ¬ (0 ≤ x ∧ x ≤ 3) ∧ kk = 2)) : jj_Mi EV (dC, dI) vwCl [(cI, .int), (cJ, .long), (cZ, .boolean), (cO, .object "java/lang/Object")] l yX4_quoted (Cond.code yX4_quoted cX4_quoted 3 (some .int) :: lw_U) ({ frames := 2, cells := 0, slots := 0, locals := 46 } : Room) [.ref (ad 0), .int (iI z), .int (iI x)] (wM ad cI cJ cZ th td pr up dn dv n K St Ex Am Ov Bi As BL AL He Co Ca mo sh co sd Cz Ab be ++ E) (S := Int) (fun u => u) (fun u => True) (fun u => wM ad cI cJ cZ kk td pr up dn dv n K St Ex Am Ov Bi As BL AL He Co Ca mo sh co sd Cz Ab be ++ E) := by
  refine jj_start (cc := cX4_quoted) (nL := 3) (ret := (some .int)) (lv := [(0, .ref (ad 0)), (1, .int (iI z)), (2, .int (iI x))]) (fun A => jj_Qi _ _ _ _ _ _ A) hEV (by decide) rfl (Nat.le_of_ble_eq_true rfl) rfl ?_
  intro p9 e9 s9 m9 a9 b9 me9 c9 A9 C1 hr hin
  have C0 : jj_C p9 s9 m9 a9 me9 c9 (dC, dI) vwCl A9 3 cX4_quoted "StrikehallModel" lw_U _ EV := jj_toU C1
  have hw := C0.2.2.2.2.1
  refine jj_aload_n C0 0 rfl dX4_quoted_0 ?_
  refine jj_aload_n C0 0 rfl dX4_quoted_1 ?_
  refine jj_iload_n C0 1 rfl dX4_quoted_2 ?_
  refine jj_callVi C0 (cc_X4_isContract hEV (z := z) (by first | exact hz | omega) (by first | exact hn | omega)) (cwV 1 hw (lw_gV hU_920 hU_922 hU_47 hU_66 hU_923) rfl rfl rfl (by decide +kernel) ⟨Nat.le_of_ble_eq_true rfl, Nat.le_of_ble_eq_true rfl⟩) (ci := 5) (q0 := 0) rfl (rfl) rfl rfl (Nat.le_of_ble_eq_true rfl) ⟨by decide, by decide⟩ rfl rfl dX4_quoted_3 ?_
  intro u_1 hu
  have hu_3 : (u_1 = 1 ∧ 0 ≤ z ∧ z ≤ (n : Int) - 1) ∨ (u_1 = 0 ∧ (z < 0 ∨ (n : Int) - 1 < z)) := hu
  show jj_W _ _ _ _ _ _ _ _ _ _ _ _ _ _ _ _ _ 6 _ [.int (iI u_1), .ref (ad 0)] (wM ad cI cJ cZ th td pr up dn dv n K St Ex Am Ov Bi As BL AL He Co Ca mo sh co sd Cz Ab be ++ E)
  refine jj_if_ne C0 (by omega) dX4_quoted_6 (tgt := 13) (by decide) (fun c_2 => ?_) (fun c_2 => ?_)
  · refine jj_iload_n C0 2 rfl dX4_quoted_13 ?_
    refine jj_i2l C0 (by omega) dX4_quoted_14 ?_
    refine jj_lconst C0 (z := 0) (by decide) dX4_quoted_15 ?_
    refine jj_ldc2 C0 (z := 3) (by decide) (hw _ hU_1041) dX4_quoted_16 ?_
    refine jj_callSi C0 (cc_X4_in hEV (v := x) (lo := 0) (hi := 3) (by omega) (by omega) (by omega)) (cwS 3 hw (lw_gS hU_874 hU_875 hU_66 hU_876) rfl rfl rfl (by decide +kernel) ⟨Nat.le_of_ble_eq_true rfl, Nat.le_of_ble_eq_true rfl⟩) rfl rfl (Nat.le_of_ble_eq_true rfl) ⟨by decide, by decide⟩ rfl rfl dX4_quoted_19 ?_
    intro u_3 hu
    have hu_19 : (u_3 = 1 ∧ 0 ≤ x ∧ x ≤ 3) ∨ (u_3 = 0 ∧ (x < 0 ∨ 3 < x)) := hu
    show jj_W _ _ _ _ _ _ _ _ _ _ _ _ _ _ _ _ _ 22 _ [.int (iI u_3), .ref (ad 0)] (wM ad cI cJ cZ th td pr up dn dv n K St Ex Am Ov Bi As BL AL He Co Ca mo sh co sd Cz Ab be ++ E)
    refine jj_if_eq C0 (by omega) dX4_quoted_22 (tgt := 29) (by decide) (fun c_4 => ?_) (fun c_4 => ?_)
    · refine jj_iconst C0 dX4_quoted_29 ?_
      refine jj_put C0 (ci := 5) (v := .int (iI 2)) (ty := .int) hin_X4 tyX4 tyX4_ok nmX4 (0) (rfl) rfl 0 (by decide) (hw _ hU_786) (fun _ h9 => h9) rfl (by decide +kernel) (rfl) rfl (Nat.le_of_ble_eq_true rfl) (ws' := wM ad cI cJ cZ 2 td pr up dn dv n K St Ex Am Ov Bi As BL AL He Co Ca mo sh co sd Cz Ab be ++ E) (rfl) dX4_quoted_30 ?_
      refine jj_aload_n C0 0 rfl dX4_quoted_33 ?_
      refine jj_get C0 (ci := 5) (v := .int (iI 2)) hin_X4 (0) (rfl) rfl 0 (by decide) (hw _ hU_786) (fun _ h9 => h9) rfl dX4_quoted_34 ?_
      refine jj_if_gt C0 (by omega) dX4_quoted_37 (tgt := 48) (by decide) (fun c_5 => ?_) (fun c_5 => absurd c_5 (by omega))
      refine jj_iconst C0 dX4_quoted_48 ?_
      obtain rfl : kk = 2 := by omega
      exact jj_iret C0 hr 0 (trivial) (rfl) (rfl) (by decide) (by decide) dX4_quoted_49
    · refine jj_iconst C0 dX4_quoted_25 ?_
      refine jj_goto C0 (tgt := 30) dX4_quoted_26 (by decide) ?_
      refine jj_put C0 (ci := 5) (v := .int (iI 0)) (ty := .int) hin_X4 tyX4 tyX4_ok nmX4 (0) (rfl) rfl 0 (by decide) (hw _ hU_786) (fun _ h9 => h9) rfl (by decide +kernel) (rfl) rfl (Nat.le_of_ble_eq_true rfl) (ws' := wM ad cI cJ cZ 0 td pr up dn dv n K St Ex Am Ov Bi As BL AL He Co Ca mo sh co sd Cz Ab be ++ E) (rfl) dX4_quoted_30 ?_
      refine jj_aload_n C0 0 rfl dX4_quoted_33 ?_
      refine jj_get C0 (ci := 5) (v := .int (iI 0)) hin_X4 (0) (rfl) rfl 0 (by decide) (hw _ hU_786) (fun _ h9 => h9) rfl dX4_quoted_34 ?_
      refine jj_if_gt C0 (by omega) dX4_quoted_37 (tgt := 48) (by decide) (fun c_6 => absurd c_6 (by omega)) (fun c_6 => ?_)
      exfalso
      omega
  · refine jj_iconst C0 dX4_quoted_9 ?_
    refine jj_goto C0 (tgt := 30) dX4_quoted_10 (by decide) ?_
    refine jj_put C0 (ci := 5) (v := .int (iI 1)) (ty := .int) hin_X4 tyX4 tyX4_ok nmX4 (0) (rfl) rfl 0 (by decide) (hw _ hU_786) (fun _ h9 => h9) rfl (by decide +kernel) (rfl) rfl (Nat.le_of_ble_eq_true rfl) (ws' := wM ad cI cJ cZ 1 td pr up dn dv n K St Ex Am Ov Bi As BL AL He Co Ca mo sh co sd Cz Ab be ++ E) (rfl) dX4_quoted_30 ?_
    refine jj_aload_n C0 0 rfl dX4_quoted_33 ?_
    refine jj_get C0 (ci := 5) (v := .int (iI 1)) hin_X4 (0) (rfl) rfl 0 (by decide) (hw _ hU_786) (fun _ h9 => h9) rfl dX4_quoted_34 ?_
    refine jj_if_gt C0 (by omega) dX4_quoted_37 (tgt := 48) (by decide) (fun c_7 => ?_) (fun c_7 => absurd c_7 (by omega))
    refine jj_iconst C0 dX4_quoted_48 ?_
    obtain rfl : kk = 1 := by omega
    exact jj_iret C0 hr 0 (trivial) (rfl) (rfl) (by decide) (by decide) dX4_quoted_49
set_option maxHeartbeats 4000000 in
set_option maxRecDepth 100000 in
theorem cc_X4_common (hEV : jj_EV EV) {a b : Int} (ha : 0 ≤ a ∧ a ≤ 2000000000000000000) (hb : 0 ≤ b ∧ b ≤ 2000000000000000000) : jj_Ml EV (dC, dI) vwCl [(cI, .int), (cJ, .long), (cZ, .boolean), (cO, .object "java/lang/Object")] l yX4_common (Cond.code yX4_common cX4_common 10 (some .long) :: lw_U) ({ frames := 0, cells := 0, slots := 0, locals := 0 } : Room) [.long (lI a), .long (lI b)] (wM ad cI cJ cZ th td pr up dn dv n K St Ex Am Ov Bi As BL AL He Co Ca mo sh co sd Cz Ab be ++ E) (S := Unit) (fun _ => (f_g a b)) (fun _ => True) (fun _ => wM ad cI cJ cZ th td pr up dn dv n K St Ex Am Ov Bi As BL AL He Co Ca mo sh co sd Cz Ab be ++ E) := by
  refine jj_start (cc := cX4_common) (nL := 10) (ret := (some .long)) (lv := [(0, .long (lI a)), (2, .long (lI b))]) (fun A => jj_Ql _ _ _ _ _ _ A) hEV (by decide) rfl (Nat.le_of_ble_eq_true rfl) rfl ?_
  intro p9 e9 s9 m9 a9 b9 me9 c9 A9 C1 hr hin
  have C0 : jj_C p9 s9 m9 a9 me9 c9 (dC, dI) vwCl A9 10 cX4_common "StrikehallModel" lw_U _ EV := jj_toU C1
  have hw := C0.2.2.2.2.1
  refine jj_lload_n C0 0 rfl dX4_common_0 ?_
  refine jj_lstore C0 (lv' := [(4, .long (lI a)), (0, .long (lI a)), (2, .long (lI b))]) (by decide) rfl dX4_common_1 ?_
  refine jj_lload_n C0 2 rfl dX4_common_3 ?_
  refine jj_lstore C0 (lv' := [(6, .long (lI b)), (4, .long (lI a)), (0, .long (lI a)), (2, .long (lI b))]) (by decide) rfl dX4_common_4 ?_
  refine jj_ind (X := Int × Int) (fun q9 => match q9 with | ⟨p, q⟩ => q.toNat) (fun q9 => match q9 with | ⟨p, q⟩ => [(6, .long (lI q)), (4, .long (lI p)), (0, .long (lI a)), (2, .long (lI b))]) (fun q9 => match q9 with | ⟨p, q⟩ => []) (fun q9 => match q9 with | ⟨p, q⟩ => wM ad cI cJ cZ th td pr up dn dv n K St Ex Am Ov Bi As BL AL He Co Ca mo sh co sd Cz Ab be ++ E) (fun q9 => match q9 with | ⟨p, q⟩ => (0 ≤ p ∧ p ≤ 2000000000000000000) ∧ (0 ≤ q ∧ q ≤ 2000000000000000000) ∧ f_g p q = f_g a b) ?_ (a, b) ⟨ha, hb, rfl⟩
  intro q9 hq9 ih6
  obtain ⟨p, q⟩ := q9
  obtain ⟨hp, hq, hg⟩ : (0 ≤ p ∧ p ≤ 2000000000000000000) ∧ (0 ≤ q ∧ q ≤ 2000000000000000000) ∧ f_g p q = f_g a b := hq9
  show jj_W _ _ _ _ _ _ _ _ _ _ _ _ _ _ _ _ _ 6 [(6, .long (lI q)), (4, .long (lI p)), (0, .long (lI a)), (2, .long (lI b))] [] (wM ad cI cJ cZ th td pr up dn dv n K St Ex Am Ov Bi As BL AL He Co Ca mo sh co sd Cz Ab be ++ E)
  refine jj_lload C0 0 rfl dX4_common_6 ?_
  refine jj_lconst C0 (z := 0) (by decide) dX4_common_8 ?_
  refine jj_lcmp_le C0 (by omega) (by omega) dX4_common_9 dX4_common_10 (tgt := 31) (by decide) (fun c_1 => ?_) (fun c_1 => ?_)
  · refine jj_lload C0 1 rfl dX4_common_31 ?_
    exact jj_lret C0 hr () (trivial) (by rw [← hg, show q = 0 by omega, f_g_0 hp.1]) (rfl) (by decide) (by decide) dX4_common_33
  · refine jj_lload C0 1 rfl dX4_common_13 ?_
    refine jj_lload C0 0 rfl dX4_common_15 ?_
    refine jj_lrem C0 (by omega) (by omega) (by omega) (by omega) dX4_common_17 ?_
    have hm : 0 ≤ p % q ∧ p % q < q := ⟨Int.emod_nonneg _ (by omega), Int.emod_lt_of_pos _ (by omega)⟩
    refine jj_lstore C0 (lv' := [(8, .long (lI (p % q))), (6, .long (lI q)), (4, .long (lI p)), (0, .long (lI a)), (2, .long (lI b))]) (by decide) rfl dX4_common_18 ?_
    refine jj_lload C0 1 rfl dX4_common_20 ?_
    refine jj_lstore C0 (lv' := [(4, .long (lI q)), (8, .long (lI (p % q))), (6, .long (lI q)), (0, .long (lI a)), (2, .long (lI b))]) (by decide) rfl dX4_common_22 ?_
    refine jj_lload C0 1 rfl dX4_common_24 ?_
    refine jj_lstore C0 (lv' := [(6, .long (lI (p % q))), (4, .long (lI q)), (8, .long (lI (p % q))), (0, .long (lI a)), (2, .long (lI b))]) (by decide) rfl dX4_common_26 ?_
    refine jj_goto C0 (tgt := 6) dX4_common_28 (by decide) ?_
    refine jj_lv [0, 1, 3, 4] rfl ?_
    exact ih6 (q, p % q) ⟨hq, ⟨hm.1, by omega⟩, by rw [f_g_mod hp.1 (by omega)]; exact hg⟩ (by dsimp only; omega)
set_option maxHeartbeats 4000000 in
set_option maxRecDepth 100000 in
theorem cc_X4_value (hEV : jj_EV EV) {c : Nat} {v : Int} (hv : v = 0 ∨ v = 1) (hcn : c < n) (hovs : ∀ c, c < n → (Ov c = 1 ∧ Ex c < (td : Int)) ∨ (Ov c = 0 ∧ (td : Int) ≤ Ex c)) (hexs : ∀ c, c < n → Ex c ≤ (td : Int) + 10 ∧ Ex c ≤ 200) (hn : n ≤ 12) (htd : td ≤ 200) (hpr : 0 ≤ pr ∧ pr ≤ 20000) (hup : 1 ≤ up ∧ up ≤ 10) (hdn : 1 ≤ dn ∧ dn ≤ 10) (hdv : ∀ j, 0 ≤ dv j ∧ dv j ≤ 1000) (hK : ∀ j, 0 ≤ K j ∧ K j ≤ 1) (hSt : ∀ j, 0 ≤ St j ∧ St j ≤ 20000) (hEx : ∀ j, 0 ≤ Ex j ∧ Ex j ≤ 200) (hAm : ∀ j, 0 ≤ Am j ∧ Am j ≤ 1) (hOv : ∀ j, 0 ≤ Ov j ∧ Ov j ≤ 1) : jj_Ml EV (dC, dI) vwCl [(cI, .int), (cJ, .long), (cZ, .boolean), (cO, .object "java/lang/Object")] l yX4_value (Cond.code yX4_value cX4_value 5 (some .long) :: lw_U) ({ frames := 2, cells := 0, slots := 0, locals := 55 } : Room) [.ref (ad 0), .int (iI (c : Int)), .int (iI v)] (wM ad cI cJ cZ th td pr up dn dv n K St Ex Am Ov Bi As BL AL He Co Ca mo sh co sd Cz Ab be ++ E) (S := (Nat → Int) × Int) (fun ⟨ab, b⟩ => (if v = 0 then (f_num up dn dv td (K c) (St c) (Ex c) (Am c) pr) / f_g (f_den up dn td (Ex c)) (f_num up dn dv td (K c) (St c) (Ex c) (Am c) pr) else (f_den up dn td (Ex c)) / f_g (f_den up dn td (Ex c)) (f_num up dn dv td (K c) (St c) (Ex c) (Am c) pr))) (fun ⟨ab, b⟩ => True) (fun ⟨ab, b⟩ => wM ad cI cJ cZ 0 td pr up dn dv n K St Ex Am Ov Bi As BL AL He Co Ca mo sh co sd Cz ab b ++ E) := by
  refine jj_start (cc := cX4_value) (nL := 5) (ret := (some .long)) (lv := [(0, .ref (ad 0)), (1, .int (iI (c : Int))), (2, .int (iI v))]) (fun A => jj_Ql _ _ _ _ _ _ A) hEV (by decide) rfl (Nat.le_of_ble_eq_true rfl) rfl ?_
  intro p9 e9 s9 m9 a9 b9 me9 c9 A9 C1 hr hin
  have C0 : jj_C p9 s9 m9 a9 me9 c9 (dC, dI) vwCl A9 5 cX4_value "StrikehallModel" lw_U _ EV := jj_toU C1
  have hw := C0.2.2.2.2.1
  have hov := hovs c hcn
  have hex := hexs c hcn
  have hfr : -30000 ≤ pr ∧ pr ≤ 30000 := by omega
  obtain ⟨N, hNe⟩ : ∃ N : Nat, N = (Ex c - (td : Int)).toNat := ⟨_, rfl⟩
  have hN : (Ov c = 1 ∧ N = 0) ∨ (Ov c = 0 ∧ (N : Int) = Ex c - (td : Int)) := by omega
  have hN10 : N ≤ 10 := by omega
  have htN : td + N ≤ 200 := by omega
  refine jj_aload_n C0 0 rfl dX4_value_0 ?_
  refine jj_aload_n C0 0 rfl dX4_value_1 ?_
  refine jj_iload_n C0 1 rfl dX4_value_2 ?_
  refine jj_callVi C0 (cc_X4_isContract1 hEV (c := c) (by first | exact hcn | omega) (by first | exact hn | omega)) (cwV 1 hw (lw_gV hU_920 hU_922 hU_47 hU_66 hU_923) rfl rfl rfl (by decide +kernel) ⟨Nat.le_of_ble_eq_true rfl, Nat.le_of_ble_eq_true rfl⟩) (ci := 5) (q0 := 0) rfl (rfl) rfl rfl (Nat.le_of_ble_eq_true rfl) ⟨by decide, by decide⟩ rfl rfl dX4_value_3 ?_
  intro _ hu
  show jj_W _ _ _ _ _ _ _ _ _ _ _ _ _ _ _ _ _ 6 _ [.int (iI 1), .ref (ad 0)] (wM ad cI cJ cZ th td pr up dn dv n K St Ex Am Ov Bi As BL AL He Co Ca mo sh co sd Cz Ab be ++ E)
  refine jj_if_eq C0 (by omega) dX4_value_6 (tgt := 13) (by decide) (fun c_1 => absurd c_1 (by omega)) (fun c_1 => ?_)
  refine jj_iconst C0 dX4_value_9 ?_
  refine jj_goto C0 (tgt := 14) dX4_value_10 (by decide) ?_
  refine jj_put C0 (ci := 5) (v := .int (iI 0)) (ty := .int) hin_X4 tyX4 tyX4_ok nmX4 (0) (rfl) rfl 0 (by decide) (hw _ hU_786) (fun _ h9 => h9) rfl (by decide +kernel) (rfl) rfl (Nat.le_of_ble_eq_true rfl) (ws' := wM ad cI cJ cZ 0 td pr up dn dv n K St Ex Am Ov Bi As BL AL He Co Ca mo sh co sd Cz Ab be ++ E) (rfl) dX4_value_14 ?_
  refine jj_aload_n C0 0 rfl dX4_value_17 ?_
  refine jj_get C0 (ci := 5) (v := .int (iI 0)) hin_X4 (0) (rfl) rfl 0 (by decide) (hw _ hU_786) (fun _ h9 => h9) rfl dX4_value_18 ?_
  refine jj_if_le C0 (by omega) dX4_value_21 (tgt := 26) (by decide) (fun c_2 => ?_) (fun c_2 => absurd c_2 (by omega))
  refine jj_aload_n C0 0 rfl dX4_value_26 ?_
  refine jj_iload_n C0 1 rfl dX4_value_27 ?_
  refine jj_aload_n C0 0 rfl dX4_value_28 ?_
  refine jj_get C0 (ci := 5) (v := .int (iI pr)) hin_X4 (0) (rfl) rfl 2 (by decide) (hw _ hU_788) (fun _ h9 => h9) rfl dX4_value_29 ?_
  refine jj_callVv C0 (cc_X4_finds hEV (c := c) (fr := pr) (N := N) (by omega) (by first | exact hN | omega) (by first | exact hN10 | omega) (by first | exact htN | omega) (by first | exact hfr | omega) (by first | exact hup | omega) (by first | exact hdn | omega) (by first | exact hdv | omega) (by first | exact hK | omega) (by first | exact hSt | omega) (by first | exact hEx | omega) (by first | exact hAm | omega) (by first | exact hOv | omega)) (cwV 2 hw (lw_gV hU_889 hU_891 hU_44 hU_66 hU_892) rfl rfl rfl (by decide +kernel) ⟨Nat.le_of_ble_eq_true rfl, Nat.le_of_ble_eq_true rfl⟩) (ci := 5) (q0 := 0) rfl (rfl) rfl rfl (Nat.le_of_ble_eq_true rfl) ⟨by decide, by decide⟩ rfl rfl dX4_value_32 ?_
  intro ab_3 hu
  have hu3 : ab_3 0 = f_gV (Ov c) up dn dv td (K c) (St c) (Am c) pr N 0 0 := hu
  show jj_W _ _ _ _ _ _ _ _ _ _ _ _ _ _ _ _ _ 35 _ [] (wM ad cI cJ cZ 0 td pr up dn dv n K St Ex Am Ov Bi As BL AL He Co Ca mo sh co sd Cz ab_3 ((up + dn) ^ N) ++ E)
  have hd := f_den_bd (w := up + dn) (by omega) hN10
  have hab0 : 0 ≤ ab_3 0 ∧ ab_3 0 ≤ 1024000000000000000 := by rw [hu3]; unfold f_gV; split; exact f_V_lR hup hdn hdv (hSt c) hfr (by omega) (by omega); omega
  have hnum : (f_num up dn dv td (K c) (St c) (Ex c) (Am c) pr) = ab_3 0 := by rw [hu3]; unfold f_num f_gV; rcases hov with ⟨h1, h2⟩ | ⟨h1, h2⟩; rw [if_pos h2, if_neg (by omega)]; rw [if_neg (by omega), if_pos h1, ← hNe]
  have hden : (f_den up dn td (Ex c)) = (up + dn) ^ N := by unfold f_den; rw [← hNe]
  have hgb := f_g_bd (a := (up + dn) ^ N) (b := ab_3 0) hd.1
  refine jj_aload_n C0 0 rfl dX4_value_35 ?_
  refine jj_get C0 (ci := 5) (v := .long (lI ((up + dn) ^ N))) hin_X4 (0) (rfl) rfl 25 (by decide) (hw _ hU_811) (fun _ h9 => h9) rfl dX4_value_36 ?_
  refine jj_aload_n C0 0 rfl dX4_value_39 ?_
  refine jj_get C0 (ci := 5) (v := .ref (ad 15)) hin_X4 (0) (rfl) rfl 24 (by decide) (hw _ hU_810) (fun _ h9 => h9) rfl dX4_value_40 ?_
  refine jj_iconst C0 dX4_value_43 ?_
  refine jj_lald C0 (q0 := 15) (t0 := 1) (f := ab_3) (rfl) rfl (k := 0) (by omega) (by omega) (by decide) dX4_value_44 ?_
  refine jj_callSl C0 (cc_X4_common hEV (a := ((up + dn) ^ N)) (b := (ab_3 0)) (by omega) (by omega)) (cwS 2 hw (lw_gS hU_1021 hU_1022 hU_66 hU_1023) rfl rfl rfl (by decide +kernel) ⟨Nat.le_of_ble_eq_true rfl, Nat.le_of_ble_eq_true rfl⟩) rfl rfl (Nat.le_of_ble_eq_true rfl) ⟨by decide, by decide⟩ rfl rfl dX4_value_45 ?_
  intro _ hu
  show jj_W _ _ _ _ _ _ _ _ _ _ _ _ _ _ _ _ _ 48 _ [.long (lI (f_g ((up + dn) ^ N) (ab_3 0)))] (wM ad cI cJ cZ 0 td pr up dn dv n K St Ex Am Ov Bi As BL AL He Co Ca mo sh co sd Cz ab_3 ((up + dn) ^ N) ++ E)
  refine jj_lstore_n C0 (i := 3) rfl (lv' := [(3, .long (lI (f_g ((up + dn) ^ N) (ab_3 0)))), (0, .ref (ad 0)), (1, .int (iI (c : Int))), (2, .int (iI v))]) (by decide) rfl dX4_value_48 ?_
  refine jj_iload_n C0 3 rfl dX4_value_49 ?_
  refine jj_if_eq C0 (by omega) dX4_value_50 (tgt := 62) (by decide) (fun c_4 => ?_) (fun c_4 => ?_)
  · refine jj_aload_n C0 1 rfl dX4_value_62 ?_
    refine jj_get C0 (ci := 5) (v := .ref (ad 15)) hin_X4 (0) (rfl) rfl 24 (by decide) (hw _ hU_810) (fun _ h9 => h9) rfl dX4_value_63 ?_
    refine jj_iconst C0 dX4_value_66 ?_
    refine jj_lald C0 (q0 := 15) (t0 := 1) (f := ab_3) (rfl) rfl (k := 0) (by omega) (by omega) (by decide) dX4_value_67 ?_
    refine jj_lload_n C0 0 rfl dX4_value_68 ?_
    refine jj_ldiv C0 (by omega) (by omega) (by omega) (by omega) dX4_value_69 ?_
    exact jj_lret C0 hr (ab_3, ((up + dn) ^ N)) (trivial) (by show _ = (if v = 0 then _ else _); rw [hnum, hden]; first | rw [if_pos (by omega)] | rw [if_neg (by omega)]) (rfl) (by decide) (by decide) dX4_value_70
  · refine jj_aload_n C0 1 rfl dX4_value_53 ?_
    refine jj_get C0 (ci := 5) (v := .long (lI ((up + dn) ^ N))) hin_X4 (0) (rfl) rfl 25 (by decide) (hw _ hU_811) (fun _ h9 => h9) rfl dX4_value_54 ?_
    refine jj_lload_n C0 0 rfl dX4_value_57 ?_
    refine jj_ldiv C0 (by omega) (by omega) (by omega) (by omega) dX4_value_58 ?_
    refine jj_goto C0 (tgt := 70) dX4_value_59 (by decide) ?_
    exact jj_lret C0 hr (ab_3, ((up + dn) ^ N)) (trivial) (by show _ = (if v = 0 then _ else _); rw [hnum, hden]; first | rw [if_pos (by omega)] | rw [if_neg (by omega)]) (rfl) (by decide) (by decide) dX4_value_70
set_option maxHeartbeats 4000000 in
set_option maxRecDepth 100000 in
theorem cb_X4_value (hEV : jj_EV EV) {z v : Int} {kk : Int} (hz : iR z) (hn : n ≤ 12) (hbad : ¬ (0 ≤ z ∧ z < (n : Int)) ∧ kk = 1) : jj_Ml EV (dC, dI) vwCl [(cI, .int), (cJ, .long), (cZ, .boolean), (cO, .object "java/lang/Object")] l yX4_value (Cond.code yX4_value cX4_value 5 (some .long) :: lw_U) ({ frames := 2, cells := 0, slots := 0, locals := 46 } : Room) [.ref (ad 0), .int (iI z), .int (iI v)] (wM ad cI cJ cZ th td pr up dn dv n K St Ex Am Ov Bi As BL AL He Co Ca mo sh co sd Cz Ab be ++ E) (S := Int) (fun u => u) (fun u => True) (fun u => wM ad cI cJ cZ kk td pr up dn dv n K St Ex Am Ov Bi As BL AL He Co Ca mo sh co sd Cz Ab be ++ E) := by
  refine jj_start (cc := cX4_value) (nL := 5) (ret := (some .long)) (lv := [(0, .ref (ad 0)), (1, .int (iI z)), (2, .int (iI v))]) (fun A => jj_Ql _ _ _ _ _ _ A) hEV (by decide) rfl (Nat.le_of_ble_eq_true rfl) rfl ?_
  intro p9 e9 s9 m9 a9 b9 me9 c9 A9 C1 hr hin
  have C0 : jj_C p9 s9 m9 a9 me9 c9 (dC, dI) vwCl A9 5 cX4_value "StrikehallModel" lw_U _ EV := jj_toU C1
  have hw := C0.2.2.2.2.1
  refine jj_aload_n C0 0 rfl dX4_value_0 ?_
  refine jj_aload_n C0 0 rfl dX4_value_1 ?_
  refine jj_iload_n C0 1 rfl dX4_value_2 ?_
  refine jj_callVi C0 (cc_X4_isContract hEV (z := z) (by first | exact hz | omega) (by first | exact hn | omega)) (cwV 1 hw (lw_gV hU_920 hU_922 hU_47 hU_66 hU_923) rfl rfl rfl (by decide +kernel) ⟨Nat.le_of_ble_eq_true rfl, Nat.le_of_ble_eq_true rfl⟩) (ci := 5) (q0 := 0) rfl (rfl) rfl rfl (Nat.le_of_ble_eq_true rfl) ⟨by decide, by decide⟩ rfl rfl dX4_value_3 ?_
  intro u_1 hu
  have hu_3 : (u_1 = 1 ∧ 0 ≤ z ∧ z ≤ (n : Int) - 1) ∨ (u_1 = 0 ∧ (z < 0 ∨ (n : Int) - 1 < z)) := hu
  show jj_W _ _ _ _ _ _ _ _ _ _ _ _ _ _ _ _ _ 6 _ [.int (iI u_1), .ref (ad 0)] (wM ad cI cJ cZ th td pr up dn dv n K St Ex Am Ov Bi As BL AL He Co Ca mo sh co sd Cz Ab be ++ E)
  refine jj_if_eq C0 (by omega) dX4_value_6 (tgt := 13) (by decide) (fun c_2 => ?_) (fun c_2 => ?_)
  · refine jj_iconst C0 dX4_value_13 ?_
    refine jj_put C0 (ci := 5) (v := .int (iI 1)) (ty := .int) hin_X4 tyX4 tyX4_ok nmX4 (0) (rfl) rfl 0 (by decide) (hw _ hU_786) (fun _ h9 => h9) rfl (by decide +kernel) (rfl) rfl (Nat.le_of_ble_eq_true rfl) (ws' := wM ad cI cJ cZ 1 td pr up dn dv n K St Ex Am Ov Bi As BL AL He Co Ca mo sh co sd Cz Ab be ++ E) (rfl) dX4_value_14 ?_
    refine jj_aload_n C0 0 rfl dX4_value_17 ?_
    refine jj_get C0 (ci := 5) (v := .int (iI 1)) hin_X4 (0) (rfl) rfl 0 (by decide) (hw _ hU_786) (fun _ h9 => h9) rfl dX4_value_18 ?_
    refine jj_if_le C0 (by omega) dX4_value_21 (tgt := 26) (by decide) (fun c_3 => absurd c_3 (by omega)) (fun c_3 => ?_)
    refine jj_lconst C0 (z := 0) (by decide) dX4_value_24 ?_
    obtain rfl : kk = 1 := by omega
    exact jj_lret C0 hr 0 (trivial) (rfl) (rfl) (by decide) (by decide) dX4_value_25
  · refine jj_iconst C0 dX4_value_9 ?_
    refine jj_goto C0 (tgt := 14) dX4_value_10 (by decide) ?_
    refine jj_put C0 (ci := 5) (v := .int (iI 0)) (ty := .int) hin_X4 tyX4 tyX4_ok nmX4 (0) (rfl) rfl 0 (by decide) (hw _ hU_786) (fun _ h9 => h9) rfl (by decide +kernel) (rfl) rfl (Nat.le_of_ble_eq_true rfl) (ws' := wM ad cI cJ cZ 0 td pr up dn dv n K St Ex Am Ov Bi As BL AL He Co Ca mo sh co sd Cz Ab be ++ E) (rfl) dX4_value_14 ?_
    refine jj_aload_n C0 0 rfl dX4_value_17 ?_
    refine jj_get C0 (ci := 5) (v := .int (iI 0)) hin_X4 (0) (rfl) rfl 0 (by decide) (hw _ hU_786) (fun _ h9 => h9) rfl dX4_value_18 ?_
    refine jj_if_le C0 (by omega) dX4_value_21 (tgt := 26) (by decide) (fun c_4 => ?_) (fun c_4 => absurd c_4 (by omega))
    exfalso
    omega
end MM3
