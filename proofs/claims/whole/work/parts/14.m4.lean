section MM4
variable {EV : (Nat → Prop) → State → Heap → Prop} {l : Launch} {dC : Nat → ClassId} {dI : Nat → Nat → Nat} {cI cJ cZ cO : ClassId} {E : va_W} {ad : Nat → Nat} {ws : va_W} {th : Int} {td : Nat} {pr up dn : Int} {dv : Nat → Int} {n : Nat} {K St Ex Am Ov Bi As BL AL He Co Ca : Nat → Int} {mo sh co sd : Int} {Cz Ab : Nat → Int} {be : Int}
set_option maxHeartbeats 4000000 in
set_option maxRecDepth 100000 in
theorem cc_X4_hasBoth (hEV : jj_EV EV) {c : Nat} (hc : c < 12) (hOv : ∀ j, 0 ≤ Ov j ∧ Ov j ≤ 1) (hBL : ∀ j, 0 ≤ BL j ∧ BL j ≤ 100) (hAL : ∀ j, 0 ≤ AL j ∧ AL j ≤ 100) : jj_Mi EV (dC, dI) vwCl [(cI, .int), (cJ, .long), (cZ, .boolean), (cO, .object "java/lang/Object")] l yX4_hasBoth (Cond.code yX4_hasBoth cX4_hasBoth 2 (some .boolean) :: lw_U) ({ frames := 0, cells := 0, slots := 0, locals := 0 } : Room) [.ref (ad 0), .int (iI (c : Int))] (wM ad cI cJ cZ th td pr up dn dv n K St Ex Am Ov Bi As BL AL He Co Ca mo sh co sd Cz Ab be ++ E) (S := Int) (fun u => u) (fun u => (u = 1 ∧ f_q Ov BL AL c) ∨ (u = 0 ∧ ¬ f_q Ov BL AL c)) (fun u => wM ad cI cJ cZ th td pr up dn dv n K St Ex Am Ov Bi As BL AL He Co Ca mo sh co sd Cz Ab be ++ E) := by
  refine jj_start (cc := cX4_hasBoth) (nL := 2) (ret := (some .boolean)) (lv := [(0, .ref (ad 0)), (1, .int (iI (c : Int)))]) (fun A => jj_Qi _ _ _ _ _ _ A) hEV (by decide) rfl (Nat.le_of_ble_eq_true rfl) rfl ?_
  intro p9 e9 s9 m9 a9 b9 me9 c9 A9 C1 hr hin
  have C0 : jj_C p9 s9 m9 a9 me9 c9 (dC, dI) vwCl A9 2 cX4_hasBoth "StrikehallModel" lw_U _ EV := jj_toU C1
  have hw := C0.2.2.2.2.1
  refine jj_aload_n C0 0 rfl dX4_hasBoth_0 ?_
  refine jj_get C0 (ci := 5) (v := .ref (ad 6)) hin_X4 (0) (rfl) rfl 11 (by decide) (hw _ hU_797) (fun _ h9 => h9) rfl dX4_hasBoth_1 ?_
  refine jj_iload_n C0 1 rfl dX4_hasBoth_4 ?_
  refine jj_zald C0 (q0 := 6) (t0 := 2) (f := Ov) (rfl) rfl (k := c) (by omega) (by omega) (by decide) dX4_hasBoth_5 ?_
  have hb_Ov_39972 := hOv c
  refine jj_if_ne C0 (by omega) dX4_hasBoth_6 (tgt := 31) (by decide) (fun c_1 => ?_) (fun c_1 => ?_)
  · refine jj_iconst C0 dX4_hasBoth_31 ?_
    exact jj_zret C0 hr 0 (by unfold f_q; omega) (rfl) (by omega) (rfl) (by decide) (by decide) dX4_hasBoth_32
  · refine jj_aload_n C0 0 rfl dX4_hasBoth_9 ?_
    refine jj_get C0 (ci := 5) (v := .ref (ad 9)) hin_X4 (0) (rfl) rfl 14 (by decide) (hw _ hU_800) (fun _ h9 => h9) rfl dX4_hasBoth_10 ?_
    refine jj_iload_n C0 1 rfl dX4_hasBoth_13 ?_
    refine jj_iald C0 (q0 := 9) (t0 := 0) (f := BL) (rfl) rfl (k := c) (by omega) (by omega) (by decide) dX4_hasBoth_14 ?_
    have hb_BL_49931 := hBL c
    refine jj_if_le C0 (by omega) dX4_hasBoth_15 (tgt := 31) (by decide) (fun c_2 => ?_) (fun c_2 => ?_)
    · refine jj_iconst C0 dX4_hasBoth_31 ?_
      exact jj_zret C0 hr 0 (by unfold f_q; omega) (rfl) (by omega) (rfl) (by decide) (by decide) dX4_hasBoth_32
    · refine jj_aload_n C0 0 rfl dX4_hasBoth_18 ?_
      refine jj_get C0 (ci := 5) (v := .ref (ad 10)) hin_X4 (0) (rfl) rfl 15 (by decide) (hw _ hU_801) (fun _ h9 => h9) rfl dX4_hasBoth_19 ?_
      refine jj_iload_n C0 1 rfl dX4_hasBoth_22 ?_
      refine jj_iald C0 (q0 := 10) (t0 := 0) (f := AL) (rfl) rfl (k := c) (by omega) (by omega) (by decide) dX4_hasBoth_23 ?_
      have hb_AL_29887 := hAL c
      refine jj_if_le C0 (by omega) dX4_hasBoth_24 (tgt := 31) (by decide) (fun c_3 => ?_) (fun c_3 => ?_)
      · refine jj_iconst C0 dX4_hasBoth_31 ?_
        exact jj_zret C0 hr 0 (by unfold f_q; omega) (rfl) (by omega) (rfl) (by decide) (by decide) dX4_hasBoth_32
      · refine jj_iconst C0 dX4_hasBoth_27 ?_
        refine jj_goto C0 (tgt := 32) dX4_hasBoth_28 (by decide) ?_
        exact jj_zret C0 hr 1 (by unfold f_q; omega) (rfl) (by omega) (rfl) (by decide) (by decide) dX4_hasBoth_32
set_option maxHeartbeats 4000000 in
set_option maxRecDepth 100000 in
theorem cc_X4_isAlikeS (hEV : jj_EV EV) {c o : Nat} (hc : c < 12) (ho : o < 12) (hK : ∀ j, 0 ≤ K j ∧ K j ≤ 1) (hSt : ∀ j, 0 ≤ St j ∧ St j ≤ 20000) (hEx : ∀ j, 0 ≤ Ex j ∧ Ex j ≤ 200) (hAm : ∀ j, 0 ≤ Am j ∧ Am j ≤ 1) : jj_Mi EV (dC, dI) vwCl [(cI, .int), (cJ, .long), (cZ, .boolean), (cO, .object "java/lang/Object")] l yX4_isAlike (Cond.code yX4_isAlike cX4_isAlike 5 (some .boolean) :: lw_U) ({ frames := 0, cells := 0, slots := 0, locals := 0 } : Room) [.ref (ad 0), .int (iI (c : Int)), .int (iI (o : Int)), .int (iI 1)] (wM ad cI cJ cZ th td pr up dn dv n K St Ex Am Ov Bi As BL AL He Co Ca mo sh co sd Cz Ab be ++ E) (S := Int) (fun u => u) (fun u => (u = 1 ∧ f_AS K St Ex Am c o) ∨ (u = 0 ∧ ¬ f_AS K St Ex Am c o)) (fun u => wM ad cI cJ cZ th td pr up dn dv n K St Ex Am Ov Bi As BL AL He Co Ca mo sh co sd Cz Ab be ++ E) := by
  refine jj_start (cc := cX4_isAlike) (nL := 5) (ret := (some .boolean)) (lv := [(0, .ref (ad 0)), (1, .int (iI (c : Int))), (2, .int (iI (o : Int))), (3, .int (iI 1))]) (fun A => jj_Qi _ _ _ _ _ _ A) hEV (by decide) rfl (Nat.le_of_ble_eq_true rfl) rfl ?_
  intro p9 e9 s9 m9 a9 b9 me9 c9 A9 C1 hr hin
  have C0 : jj_C p9 s9 m9 a9 me9 c9 (dC, dI) vwCl A9 5 cX4_isAlike "StrikehallModel" lw_U _ EV := jj_toU C1
  have hw := C0.2.2.2.2.1
  refine jj_aload_n C0 0 rfl dX4_isAlike_0 ?_
  refine jj_get C0 (ci := 5) (v := .ref (ad 2)) hin_X4 (0) (rfl) rfl 7 (by decide) (hw _ hU_793) (fun _ h9 => h9) rfl dX4_isAlike_1 ?_
  refine jj_iload_n C0 1 rfl dX4_isAlike_4 ?_
  refine jj_iald C0 (q0 := 2) (t0 := 0) (f := K) (rfl) rfl (k := c) (by omega) (by omega) (by decide) dX4_isAlike_5 ?_
  have hb_K_76719 := hK c
  refine jj_aload_n C0 0 rfl dX4_isAlike_6 ?_
  refine jj_get C0 (ci := 5) (v := .ref (ad 2)) hin_X4 (0) (rfl) rfl 7 (by decide) (hw _ hU_793) (fun _ h9 => h9) rfl dX4_isAlike_7 ?_
  refine jj_iload_n C0 2 rfl dX4_isAlike_10 ?_
  refine jj_iald C0 (q0 := 2) (t0 := 0) (f := K) (rfl) rfl (k := o) (by omega) (by omega) (by decide) dX4_isAlike_11 ?_
  have hb_K_57659 := hK o
  refine jj_icmp_ne C0 (by omega) (by omega) dX4_isAlike_12 (tgt := 34) (by decide) (fun c_1 => ?_) (fun c_1 => ?_)
  · refine jj_iconst C0 dX4_isAlike_34 ?_
    refine jj_istore C0 (lv' := [(4, .int (iI 0)), (0, .ref (ad 0)), (1, .int (iI (c : Int))), (2, .int (iI (o : Int))), (3, .int (iI 1))]) (by decide) rfl dX4_isAlike_35 ?_
    refine jj_iload C0 0 rfl dX4_isAlike_37 ?_
    refine jj_if_eq C0 (by omega) dX4_isAlike_39 (tgt := 113) (by decide) (fun c_2 => ?_) (fun c_2 => absurd c_2 (by omega))
    refine jj_iconst C0 dX4_isAlike_113 ?_
    exact jj_zret C0 hr 0 (by unfold f_AS; omega) (rfl) (by omega) (rfl) (by decide) (by decide) dX4_isAlike_114
  · refine jj_aload_n C0 0 rfl dX4_isAlike_15 ?_
    refine jj_get C0 (ci := 5) (v := .ref (ad 5)) hin_X4 (0) (rfl) rfl 10 (by decide) (hw _ hU_796) (fun _ h9 => h9) rfl dX4_isAlike_16 ?_
    refine jj_iload_n C0 1 rfl dX4_isAlike_19 ?_
    refine jj_zald C0 (q0 := 5) (t0 := 2) (f := Am) (rfl) rfl (k := c) (by omega) (by omega) (by decide) dX4_isAlike_20 ?_
    have hb_Am_6591 := hAm c
    refine jj_aload_n C0 0 rfl dX4_isAlike_21 ?_
    refine jj_get C0 (ci := 5) (v := .ref (ad 5)) hin_X4 (0) (rfl) rfl 10 (by decide) (hw _ hU_796) (fun _ h9 => h9) rfl dX4_isAlike_22 ?_
    refine jj_iload_n C0 2 rfl dX4_isAlike_25 ?_
    refine jj_zald C0 (q0 := 5) (t0 := 2) (f := Am) (rfl) rfl (k := o) (by omega) (by omega) (by decide) dX4_isAlike_26 ?_
    have hb_Am_40341 := hAm o
    refine jj_icmp_ne C0 (by omega) (by omega) dX4_isAlike_27 (tgt := 34) (by decide) (fun c_3 => ?_) (fun c_3 => ?_)
    · refine jj_iconst C0 dX4_isAlike_34 ?_
      refine jj_istore C0 (lv' := [(4, .int (iI 0)), (0, .ref (ad 0)), (1, .int (iI (c : Int))), (2, .int (iI (o : Int))), (3, .int (iI 1))]) (by decide) rfl dX4_isAlike_35 ?_
      refine jj_iload C0 0 rfl dX4_isAlike_37 ?_
      refine jj_if_eq C0 (by omega) dX4_isAlike_39 (tgt := 113) (by decide) (fun c_4 => ?_) (fun c_4 => absurd c_4 (by omega))
      refine jj_iconst C0 dX4_isAlike_113 ?_
      exact jj_zret C0 hr 0 (by unfold f_AS; omega) (rfl) (by omega) (rfl) (by decide) (by decide) dX4_isAlike_114
    · refine jj_iconst C0 dX4_isAlike_30 ?_
      refine jj_goto C0 (tgt := 35) dX4_isAlike_31 (by decide) ?_
      refine jj_istore C0 (lv' := [(4, .int (iI 1)), (0, .ref (ad 0)), (1, .int (iI (c : Int))), (2, .int (iI (o : Int))), (3, .int (iI 1))]) (by decide) rfl dX4_isAlike_35 ?_
      refine jj_iload C0 0 rfl dX4_isAlike_37 ?_
      refine jj_if_eq C0 (by omega) dX4_isAlike_39 (tgt := 113) (by decide) (fun c_5 => absurd c_5 (by omega)) (fun c_5 => ?_)
      refine jj_iload_n C0 4 rfl dX4_isAlike_42 ?_
      refine jj_if_eq C0 (by omega) dX4_isAlike_43 (tgt := 79) (by decide) (fun c_6 => absurd c_6 (by omega)) (fun c_6 => ?_)
      refine jj_aload_n C0 1 rfl dX4_isAlike_46 ?_
      refine jj_get C0 (ci := 5) (v := .ref (ad 4)) hin_X4 (0) (rfl) rfl 9 (by decide) (hw _ hU_795) (fun _ h9 => h9) rfl dX4_isAlike_47 ?_
      refine jj_iload_n C0 2 rfl dX4_isAlike_50 ?_
      refine jj_iald C0 (q0 := 4) (t0 := 0) (f := Ex) (rfl) rfl (k := c) (by omega) (by omega) (by decide) dX4_isAlike_51 ?_
      have hb_Ex_18436 := hEx c
      refine jj_aload_n C0 1 rfl dX4_isAlike_52 ?_
      refine jj_get C0 (ci := 5) (v := .ref (ad 4)) hin_X4 (0) (rfl) rfl 9 (by decide) (hw _ hU_795) (fun _ h9 => h9) rfl dX4_isAlike_53 ?_
      refine jj_iload_n C0 3 rfl dX4_isAlike_56 ?_
      refine jj_iald C0 (q0 := 4) (t0 := 0) (f := Ex) (rfl) rfl (k := o) (by omega) (by omega) (by decide) dX4_isAlike_57 ?_
      have hb_Ex_72139 := hEx o
      refine jj_icmp_ne C0 (by omega) (by omega) dX4_isAlike_58 (tgt := 113) (by decide) (fun c_7 => ?_) (fun c_7 => ?_)
      · refine jj_iconst C0 dX4_isAlike_113 ?_
        exact jj_zret C0 hr 0 (by unfold f_AS; omega) (rfl) (by omega) (rfl) (by decide) (by decide) dX4_isAlike_114
      · refine jj_aload_n C0 1 rfl dX4_isAlike_61 ?_
        refine jj_get C0 (ci := 5) (v := .ref (ad 3)) hin_X4 (0) (rfl) rfl 8 (by decide) (hw _ hU_794) (fun _ h9 => h9) rfl dX4_isAlike_62 ?_
        refine jj_iload_n C0 2 rfl dX4_isAlike_65 ?_
        refine jj_iald C0 (q0 := 3) (t0 := 0) (f := St) (rfl) rfl (k := c) (by omega) (by omega) (by decide) dX4_isAlike_66 ?_
        have hb_St_55614 := hSt c
        refine jj_aload_n C0 1 rfl dX4_isAlike_67 ?_
        refine jj_get C0 (ci := 5) (v := .ref (ad 3)) hin_X4 (0) (rfl) rfl 8 (by decide) (hw _ hU_794) (fun _ h9 => h9) rfl dX4_isAlike_68 ?_
        refine jj_iload_n C0 3 rfl dX4_isAlike_71 ?_
        refine jj_iald C0 (q0 := 3) (t0 := 0) (f := St) (rfl) rfl (k := o) (by omega) (by omega) (by decide) dX4_isAlike_72 ?_
        have hb_St_34961 := hSt o
        refine jj_icmp_eq C0 (by omega) (by omega) dX4_isAlike_73 (tgt := 113) (by decide) (fun c_8 => ?_) (fun c_8 => ?_)
        · refine jj_iconst C0 dX4_isAlike_113 ?_
          exact jj_zret C0 hr 0 (by unfold f_AS; omega) (rfl) (by omega) (rfl) (by decide) (by decide) dX4_isAlike_114
        · refine jj_goto C0 (tgt := 109) dX4_isAlike_76 (by decide) ?_
          refine jj_iconst C0 dX4_isAlike_109 ?_
          refine jj_goto C0 (tgt := 114) dX4_isAlike_110 (by decide) ?_
          exact jj_zret C0 hr 1 (by unfold f_AS; omega) (rfl) (by omega) (rfl) (by decide) (by decide) dX4_isAlike_114
set_option maxHeartbeats 4000000 in
set_option maxRecDepth 100000 in
theorem cc_X4_isAlikeE (hEV : jj_EV EV) {c o : Nat} (hc : c < 12) (ho : o < 12) (hK : ∀ j, 0 ≤ K j ∧ K j ≤ 1) (hSt : ∀ j, 0 ≤ St j ∧ St j ≤ 20000) (hEx : ∀ j, 0 ≤ Ex j ∧ Ex j ≤ 200) (hAm : ∀ j, 0 ≤ Am j ∧ Am j ≤ 1) : jj_Mi EV (dC, dI) vwCl [(cI, .int), (cJ, .long), (cZ, .boolean), (cO, .object "java/lang/Object")] l yX4_isAlike (Cond.code yX4_isAlike cX4_isAlike 5 (some .boolean) :: lw_U) ({ frames := 0, cells := 0, slots := 0, locals := 0 } : Room) [.ref (ad 0), .int (iI (c : Int)), .int (iI (o : Int)), .int (iI 0)] (wM ad cI cJ cZ th td pr up dn dv n K St Ex Am Ov Bi As BL AL He Co Ca mo sh co sd Cz Ab be ++ E) (S := Int) (fun u => u) (fun u => (u = 1 ∧ f_AE K St Ex Am c o) ∨ (u = 0 ∧ ¬ f_AE K St Ex Am c o)) (fun u => wM ad cI cJ cZ th td pr up dn dv n K St Ex Am Ov Bi As BL AL He Co Ca mo sh co sd Cz Ab be ++ E) := by
  refine jj_start (cc := cX4_isAlike) (nL := 5) (ret := (some .boolean)) (lv := [(0, .ref (ad 0)), (1, .int (iI (c : Int))), (2, .int (iI (o : Int))), (3, .int (iI 0))]) (fun A => jj_Qi _ _ _ _ _ _ A) hEV (by decide) rfl (Nat.le_of_ble_eq_true rfl) rfl ?_
  intro p9 e9 s9 m9 a9 b9 me9 c9 A9 C1 hr hin
  have C0 : jj_C p9 s9 m9 a9 me9 c9 (dC, dI) vwCl A9 5 cX4_isAlike "StrikehallModel" lw_U _ EV := jj_toU C1
  have hw := C0.2.2.2.2.1
  refine jj_aload_n C0 0 rfl dX4_isAlike_0 ?_
  refine jj_get C0 (ci := 5) (v := .ref (ad 2)) hin_X4 (0) (rfl) rfl 7 (by decide) (hw _ hU_793) (fun _ h9 => h9) rfl dX4_isAlike_1 ?_
  refine jj_iload_n C0 1 rfl dX4_isAlike_4 ?_
  refine jj_iald C0 (q0 := 2) (t0 := 0) (f := K) (rfl) rfl (k := c) (by omega) (by omega) (by decide) dX4_isAlike_5 ?_
  have hb_K_76719 := hK c
  refine jj_aload_n C0 0 rfl dX4_isAlike_6 ?_
  refine jj_get C0 (ci := 5) (v := .ref (ad 2)) hin_X4 (0) (rfl) rfl 7 (by decide) (hw _ hU_793) (fun _ h9 => h9) rfl dX4_isAlike_7 ?_
  refine jj_iload_n C0 2 rfl dX4_isAlike_10 ?_
  refine jj_iald C0 (q0 := 2) (t0 := 0) (f := K) (rfl) rfl (k := o) (by omega) (by omega) (by decide) dX4_isAlike_11 ?_
  have hb_K_57659 := hK o
  refine jj_icmp_ne C0 (by omega) (by omega) dX4_isAlike_12 (tgt := 34) (by decide) (fun c_1 => ?_) (fun c_1 => ?_)
  · refine jj_iconst C0 dX4_isAlike_34 ?_
    refine jj_istore C0 (lv' := [(4, .int (iI 0)), (0, .ref (ad 0)), (1, .int (iI (c : Int))), (2, .int (iI (o : Int))), (3, .int (iI 0))]) (by decide) rfl dX4_isAlike_35 ?_
    refine jj_iload C0 0 rfl dX4_isAlike_37 ?_
    refine jj_if_eq C0 (by omega) dX4_isAlike_39 (tgt := 113) (by decide) (fun c_2 => ?_) (fun c_2 => absurd c_2 (by omega))
    refine jj_iconst C0 dX4_isAlike_113 ?_
    exact jj_zret C0 hr 0 (by unfold f_AE; omega) (rfl) (by omega) (rfl) (by decide) (by decide) dX4_isAlike_114
  · refine jj_aload_n C0 0 rfl dX4_isAlike_15 ?_
    refine jj_get C0 (ci := 5) (v := .ref (ad 5)) hin_X4 (0) (rfl) rfl 10 (by decide) (hw _ hU_796) (fun _ h9 => h9) rfl dX4_isAlike_16 ?_
    refine jj_iload_n C0 1 rfl dX4_isAlike_19 ?_
    refine jj_zald C0 (q0 := 5) (t0 := 2) (f := Am) (rfl) rfl (k := c) (by omega) (by omega) (by decide) dX4_isAlike_20 ?_
    have hb_Am_6591 := hAm c
    refine jj_aload_n C0 0 rfl dX4_isAlike_21 ?_
    refine jj_get C0 (ci := 5) (v := .ref (ad 5)) hin_X4 (0) (rfl) rfl 10 (by decide) (hw _ hU_796) (fun _ h9 => h9) rfl dX4_isAlike_22 ?_
    refine jj_iload_n C0 2 rfl dX4_isAlike_25 ?_
    refine jj_zald C0 (q0 := 5) (t0 := 2) (f := Am) (rfl) rfl (k := o) (by omega) (by omega) (by decide) dX4_isAlike_26 ?_
    have hb_Am_40341 := hAm o
    refine jj_icmp_ne C0 (by omega) (by omega) dX4_isAlike_27 (tgt := 34) (by decide) (fun c_3 => ?_) (fun c_3 => ?_)
    · refine jj_iconst C0 dX4_isAlike_34 ?_
      refine jj_istore C0 (lv' := [(4, .int (iI 0)), (0, .ref (ad 0)), (1, .int (iI (c : Int))), (2, .int (iI (o : Int))), (3, .int (iI 0))]) (by decide) rfl dX4_isAlike_35 ?_
      refine jj_iload C0 0 rfl dX4_isAlike_37 ?_
      refine jj_if_eq C0 (by omega) dX4_isAlike_39 (tgt := 113) (by decide) (fun c_4 => ?_) (fun c_4 => absurd c_4 (by omega))
      refine jj_iconst C0 dX4_isAlike_113 ?_
      exact jj_zret C0 hr 0 (by unfold f_AE; omega) (rfl) (by omega) (rfl) (by decide) (by decide) dX4_isAlike_114
    · refine jj_iconst C0 dX4_isAlike_30 ?_
      refine jj_goto C0 (tgt := 35) dX4_isAlike_31 (by decide) ?_
      refine jj_istore C0 (lv' := [(4, .int (iI 1)), (0, .ref (ad 0)), (1, .int (iI (c : Int))), (2, .int (iI (o : Int))), (3, .int (iI 0))]) (by decide) rfl dX4_isAlike_35 ?_
      refine jj_iload C0 0 rfl dX4_isAlike_37 ?_
      refine jj_if_eq C0 (by omega) dX4_isAlike_39 (tgt := 113) (by decide) (fun c_5 => absurd c_5 (by omega)) (fun c_5 => ?_)
      refine jj_iload_n C0 4 rfl dX4_isAlike_42 ?_
      refine jj_if_eq C0 (by omega) dX4_isAlike_43 (tgt := 79) (by decide) (fun c_6 => ?_) (fun c_6 => absurd c_6 (by omega))
      refine jj_aload_n C0 1 rfl dX4_isAlike_79 ?_
      refine jj_get C0 (ci := 5) (v := .ref (ad 3)) hin_X4 (0) (rfl) rfl 8 (by decide) (hw _ hU_794) (fun _ h9 => h9) rfl dX4_isAlike_80 ?_
      refine jj_iload_n C0 2 rfl dX4_isAlike_83 ?_
      refine jj_iald C0 (q0 := 3) (t0 := 0) (f := St) (rfl) rfl (k := c) (by omega) (by omega) (by decide) dX4_isAlike_84 ?_
      have hb_St_55614 := hSt c
      refine jj_aload_n C0 1 rfl dX4_isAlike_85 ?_
      refine jj_get C0 (ci := 5) (v := .ref (ad 3)) hin_X4 (0) (rfl) rfl 8 (by decide) (hw _ hU_794) (fun _ h9 => h9) rfl dX4_isAlike_86 ?_
      refine jj_iload_n C0 3 rfl dX4_isAlike_89 ?_
      refine jj_iald C0 (q0 := 3) (t0 := 0) (f := St) (rfl) rfl (k := o) (by omega) (by omega) (by decide) dX4_isAlike_90 ?_
      have hb_St_34961 := hSt o
      refine jj_icmp_ne C0 (by omega) (by omega) dX4_isAlike_91 (tgt := 113) (by decide) (fun c_7 => ?_) (fun c_7 => ?_)
      · refine jj_iconst C0 dX4_isAlike_113 ?_
        exact jj_zret C0 hr 0 (by unfold f_AE; omega) (rfl) (by omega) (rfl) (by decide) (by decide) dX4_isAlike_114
      · refine jj_aload_n C0 1 rfl dX4_isAlike_94 ?_
        refine jj_get C0 (ci := 5) (v := .ref (ad 4)) hin_X4 (0) (rfl) rfl 9 (by decide) (hw _ hU_795) (fun _ h9 => h9) rfl dX4_isAlike_95 ?_
        refine jj_iload_n C0 2 rfl dX4_isAlike_98 ?_
        refine jj_iald C0 (q0 := 4) (t0 := 0) (f := Ex) (rfl) rfl (k := c) (by omega) (by omega) (by decide) dX4_isAlike_99 ?_
        have hb_Ex_18436 := hEx c
        refine jj_aload_n C0 1 rfl dX4_isAlike_100 ?_
        refine jj_get C0 (ci := 5) (v := .ref (ad 4)) hin_X4 (0) (rfl) rfl 9 (by decide) (hw _ hU_795) (fun _ h9 => h9) rfl dX4_isAlike_101 ?_
        refine jj_iload_n C0 3 rfl dX4_isAlike_104 ?_
        refine jj_iald C0 (q0 := 4) (t0 := 0) (f := Ex) (rfl) rfl (k := o) (by omega) (by omega) (by decide) dX4_isAlike_105 ?_
        have hb_Ex_72139 := hEx o
        refine jj_icmp_eq C0 (by omega) (by omega) dX4_isAlike_106 (tgt := 113) (by decide) (fun c_8 => ?_) (fun c_8 => ?_)
        · refine jj_iconst C0 dX4_isAlike_113 ?_
          exact jj_zret C0 hr 0 (by unfold f_AE; omega) (rfl) (by omega) (rfl) (by decide) (by decide) dX4_isAlike_114
        · refine jj_iconst C0 dX4_isAlike_109 ?_
          refine jj_goto C0 (tgt := 114) dX4_isAlike_110 (by decide) ?_
          exact jj_zret C0 hr 1 (by unfold f_AE; omega) (rfl) (by omega) (rfl) (by decide) (by decide) dX4_isAlike_114
set_option maxHeartbeats 4000000 in
set_option maxRecDepth 100000 in
theorem cc_X4_faultOf (hEV : jj_EV EV) {c o : Nat} (hc : c < 12) (ho : o < 12) (hK : ∀ j, 0 ≤ K j ∧ K j ≤ 1) (hSt : ∀ j, 0 ≤ St j ∧ St j ≤ 20000) (hEx : ∀ j, 0 ≤ Ex j ∧ Ex j ≤ 200) (hAm : ∀ j, 0 ≤ Am j ∧ Am j ≤ 1) (hBi : ∀ j, 0 ≤ Bi j ∧ Bi j ≤ 20000) (hAs : ∀ j, 0 ≤ As j ∧ As j ≤ 20000) : jj_Mi EV (dC, dI) vwCl [(cI, .int), (cJ, .long), (cZ, .boolean), (cO, .object "java/lang/Object")] l yX4_faultOf (Cond.code yX4_faultOf cX4_faultOf 4 (some .int) :: lw_U) ({ frames := 1, cells := 0, slots := 0, locals := 24 } : Room) [.ref (ad 0), .int (iI (c : Int)), .int (iI (o : Int))] (wM ad cI cJ cZ th td pr up dn dv n K St Ex Am Ov Bi As BL AL He Co Ca mo sh co sd Cz Ab be ++ E) (S := Int) (fun u => u) (fun u => f_fo K St Ex Am Bi As c o u) (fun u => wM ad cI cJ cZ th td pr up dn dv n K St Ex Am Ov Bi As BL AL He Co Ca mo sh co sd Cz Ab be ++ E) := by
  refine jj_start (cc := cX4_faultOf) (nL := 4) (ret := (some .int)) (lv := [(0, .ref (ad 0)), (1, .int (iI (c : Int))), (2, .int (iI (o : Int)))]) (fun A => jj_Qi _ _ _ _ _ _ A) hEV (by decide) rfl (Nat.le_of_ble_eq_true rfl) rfl ?_
  intro p9 e9 s9 m9 a9 b9 me9 c9 A9 C1 hr hin
  have C0 : jj_C p9 s9 m9 a9 me9 c9 (dC, dI) vwCl A9 4 cX4_faultOf "StrikehallModel" lw_U _ EV := jj_toU C1
  have hw := C0.2.2.2.2.1
  refine jj_iload_n C0 1 rfl dX4_faultOf_0 ?_
  refine jj_iload_n C0 2 rfl dX4_faultOf_1 ?_
  refine jj_icmp_ne C0 (by omega) (by omega) dX4_faultOf_2 (tgt := 27) (by decide) (fun c_1 => ?_) (fun c_1 => ?_)
  · refine jj_join (X := Unit) (pcj := 111) (fun q9 => match q9 with | () => [(0, .ref (ad 0)), (1, .int (iI (c : Int))), (2, .int (iI (o : Int)))]) (fun q9 => match q9 with | () => []) (fun q9 => match q9 with | () => wM ad cI cJ cZ th td pr up dn dv n K St Ex Am Ov Bi As BL AL He Co Ca mo sh co sd Cz Ab be ++ E) (fun q9 => match q9 with | () => ¬ f_F2 K St Ex Am Bi As c o) ?_ ?_
    · intro q9 hq9
      obtain ⟨⟩ := q9
      have hn2 : ¬ f_F2 K St Ex Am Bi As c o := hq9
      refine jj_aload_n C0 0 rfl dX4_faultOf_111 ?_
      refine jj_get C0 (ci := 5) (v := .ref (ad 5)) hin_X4 (0) (rfl) rfl 10 (by decide) (hw _ hU_796) (fun _ h9 => h9) rfl dX4_faultOf_112 ?_
      refine jj_iload_n C0 1 rfl dX4_faultOf_115 ?_
      refine jj_zald C0 (q0 := 5) (t0 := 2) (f := Am) (rfl) rfl (k := c) (by omega) (by omega) (by decide) dX4_faultOf_116 ?_
      have hb_Am_6591 := hAm c
      refine jj_if_eq C0 (by omega) dX4_faultOf_117 (tgt := 164) (by decide) (fun c_2 => ?_) (fun c_2 => ?_)
      · refine jj_bipush C0 dX4_faultOf_164 (by decide) ?_
        exact jj_iret C0 hr 9 (by unfold f_fo f_F2 f_F4 f_AS f_AE at *; omega) (rfl) (rfl) (by decide) (by decide) dX4_faultOf_166
      · refine jj_aload_n C0 0 rfl dX4_faultOf_120 ?_
        refine jj_iload_n C0 1 rfl dX4_faultOf_121 ?_
        refine jj_iload_n C0 2 rfl dX4_faultOf_122 ?_
        refine jj_iconst C0 dX4_faultOf_123 ?_
        refine jj_callVi C0 (cc_X4_isAlikeE hEV (c := c) (o := o) (by first | exact hc | omega) (by first | exact ho | omega) (by first | exact hK | omega) (by first | exact hSt | omega) (by first | exact hEx | omega) (by first | exact hAm | omega)) (cwV 3 hw (lw_gV hU_936 hU_938 hU_51 hU_66 hU_939) rfl rfl rfl (by decide +kernel) ⟨Nat.le_of_ble_eq_true rfl, Nat.le_of_ble_eq_true rfl⟩) (ci := 5) (q0 := 0) rfl (rfl) rfl rfl (Nat.le_of_ble_eq_true rfl) ⟨by decide, by decide⟩ rfl rfl dX4_faultOf_124 ?_
        intro u_3 hu
        have hu_124 : (u_3 = 1 ∧ f_AE K St Ex Am c o) ∨ (u_3 = 0 ∧ ¬ f_AE K St Ex Am c o) := hu
        show jj_W _ _ _ _ _ _ _ _ _ _ _ _ _ _ _ _ _ 127 _ [.int (iI u_3)] (wM ad cI cJ cZ th td pr up dn dv n K St Ex Am Ov Bi As BL AL He Co Ca mo sh co sd Cz Ab be ++ E)
        refine jj_if_eq C0 (by omega) dX4_faultOf_127 (tgt := 164) (by decide) (fun c_4 => ?_) (fun c_4 => ?_)
        · refine jj_bipush C0 dX4_faultOf_164 (by decide) ?_
          exact jj_iret C0 hr 9 (by unfold f_fo f_F2 f_F4 f_AS f_AE at *; omega) (rfl) (rfl) (by decide) (by decide) dX4_faultOf_166
        · refine jj_aload_n C0 0 rfl dX4_faultOf_130 ?_
          refine jj_get C0 (ci := 5) (v := .ref (ad 4)) hin_X4 (0) (rfl) rfl 9 (by decide) (hw _ hU_795) (fun _ h9 => h9) rfl dX4_faultOf_131 ?_
          refine jj_iload_n C0 1 rfl dX4_faultOf_134 ?_
          refine jj_iald C0 (q0 := 4) (t0 := 0) (f := Ex) (rfl) rfl (k := c) (by omega) (by omega) (by decide) dX4_faultOf_135 ?_
          have hb_Ex_18436 := hEx c
          refine jj_aload_n C0 0 rfl dX4_faultOf_136 ?_
          refine jj_get C0 (ci := 5) (v := .ref (ad 4)) hin_X4 (0) (rfl) rfl 9 (by decide) (hw _ hU_795) (fun _ h9 => h9) rfl dX4_faultOf_137 ?_
          refine jj_iload_n C0 2 rfl dX4_faultOf_140 ?_
          refine jj_iald C0 (q0 := 4) (t0 := 0) (f := Ex) (rfl) rfl (k := o) (by omega) (by omega) (by decide) dX4_faultOf_141 ?_
          have hb_Ex_72139 := hEx o
          refine jj_icmp_ge C0 (by omega) (by omega) dX4_faultOf_142 (tgt := 164) (by decide) (fun c_5 => ?_) (fun c_5 => ?_)
          · refine jj_bipush C0 dX4_faultOf_164 (by decide) ?_
            exact jj_iret C0 hr 9 (by unfold f_fo f_F2 f_F4 f_AS f_AE at *; omega) (rfl) (rfl) (by decide) (by decide) dX4_faultOf_166
          · refine jj_aload_n C0 0 rfl dX4_faultOf_145 ?_
            refine jj_get C0 (ci := 5) (v := .ref (ad 7)) hin_X4 (0) (rfl) rfl 12 (by decide) (hw _ hU_798) (fun _ h9 => h9) rfl dX4_faultOf_146 ?_
            refine jj_iload_n C0 1 rfl dX4_faultOf_149 ?_
            refine jj_iald C0 (q0 := 7) (t0 := 0) (f := Bi) (rfl) rfl (k := c) (by omega) (by omega) (by decide) dX4_faultOf_150 ?_
            have hb_Bi_35971 := hBi c
            refine jj_aload_n C0 0 rfl dX4_faultOf_151 ?_
            refine jj_get C0 (ci := 5) (v := .ref (ad 8)) hin_X4 (0) (rfl) rfl 13 (by decide) (hw _ hU_799) (fun _ h9 => h9) rfl dX4_faultOf_152 ?_
            refine jj_iload_n C0 2 rfl dX4_faultOf_155 ?_
            refine jj_iald C0 (q0 := 8) (t0 := 0) (f := As) (rfl) rfl (k := o) (by omega) (by omega) (by decide) dX4_faultOf_156 ?_
            have hb_As_34900 := hAs o
            refine jj_icmp_le C0 (by omega) (by omega) dX4_faultOf_157 (tgt := 164) (by decide) (fun c_6 => ?_) (fun c_6 => ?_)
            · refine jj_bipush C0 dX4_faultOf_164 (by decide) ?_
              exact jj_iret C0 hr 9 (by unfold f_fo f_F2 f_F4 f_AS f_AE at *; omega) (rfl) (rfl) (by decide) (by decide) dX4_faultOf_166
            · refine jj_iconst C0 dX4_faultOf_160 ?_
              refine jj_goto C0 (tgt := 166) dX4_faultOf_161 (by decide) ?_
              exact jj_iret C0 hr 4 (by unfold f_fo f_F2 f_F4 f_AS f_AE at *; omega) (rfl) (rfl) (by decide) (by decide) dX4_faultOf_166
    intro j111
    refine jj_join (X := Int) (pcj := 79) (fun q9 => match q9 with | h => [(0, .ref (ad 0)), (1, .int (iI (c : Int))), (2, .int (iI (o : Int)))]) (fun q9 => match q9 with | h => [.int (iI h)]) (fun q9 => match q9 with | h => wM ad cI cJ cZ th td pr up dn dv n K St Ex Am Ov Bi As BL AL He Co Ca mo sh co sd Cz Ab be ++ E) (fun q9 => match q9 with | h => (h = 1 ∧ ((K c = 0 ∧ St o < St c) ∨ (K c ≠ 0 ∧ St c < St o))) ∨ (h = 0 ∧ ¬ ((K c = 0 ∧ St o < St c) ∨ (K c ≠ 0 ∧ St c < St o)))) ?_ ?_
    · intro q9 hq9
      obtain ⟨h, rfl⟩ : ∃ z, z = q9 := ⟨_, rfl⟩
      have hh : (h = 1 ∧ ((K c = 0 ∧ St o < St c) ∨ (K c ≠ 0 ∧ St c < St o))) ∨ (h = 0 ∧ ¬ ((K c = 0 ∧ St o < St c) ∨ (K c ≠ 0 ∧ St c < St o))) := hq9
      refine jj_istore_n C0 (i := 3) rfl (lv' := [(3, .int (iI h)), (0, .ref (ad 0)), (1, .int (iI (c : Int))), (2, .int (iI (o : Int)))]) (by decide) rfl dX4_faultOf_79 ?_
      refine jj_aload_n C0 1 rfl dX4_faultOf_80 ?_
      refine jj_iload_n C0 2 rfl dX4_faultOf_81 ?_
      refine jj_iload_n C0 3 rfl dX4_faultOf_82 ?_
      refine jj_iconst C0 dX4_faultOf_83 ?_
      refine jj_callVi C0 (cc_X4_isAlikeS hEV (c := c) (o := o) (by first | exact hc | omega) (by first | exact ho | omega) (by first | exact hK | omega) (by first | exact hSt | omega) (by first | exact hEx | omega) (by first | exact hAm | omega)) (cwV 3 hw (lw_gV hU_936 hU_938 hU_51 hU_66 hU_939) rfl rfl rfl (by decide +kernel) ⟨Nat.le_of_ble_eq_true rfl, Nat.le_of_ble_eq_true rfl⟩) (ci := 5) (q0 := 0) rfl (rfl) rfl rfl (Nat.le_of_ble_eq_true rfl) ⟨by decide, by decide⟩ rfl rfl dX4_faultOf_84 ?_
      intro u_7 hu
      have hu_84 : (u_7 = 1 ∧ f_AS K St Ex Am c o) ∨ (u_7 = 0 ∧ ¬ f_AS K St Ex Am c o) := hu
      show jj_W _ _ _ _ _ _ _ _ _ _ _ _ _ _ _ _ _ 87 _ [.int (iI u_7)] (wM ad cI cJ cZ th td pr up dn dv n K St Ex Am Ov Bi As BL AL He Co Ca mo sh co sd Cz Ab be ++ E)
      refine jj_if_eq C0 (by omega) dX4_faultOf_87 (tgt := 111) (by decide) (fun c_8 => ?_) (fun c_8 => ?_)
      · refine jj_lv [1, 2, 3] rfl ?_
        exact j111 () (by unfold f_F2 f_AS at *; omega)
      · refine jj_iload_n C0 0 rfl dX4_faultOf_90 ?_
        refine jj_if_eq C0 (by omega) dX4_faultOf_91 (tgt := 111) (by decide) (fun c_9 => ?_) (fun c_9 => ?_)
        · refine jj_lv [1, 2, 3] rfl ?_
          exact j111 () (by unfold f_F2 f_AS at *; omega)
        · refine jj_aload_n C0 1 rfl dX4_faultOf_94 ?_
          refine jj_get C0 (ci := 5) (v := .ref (ad 7)) hin_X4 (0) (rfl) rfl 12 (by decide) (hw _ hU_798) (fun _ h9 => h9) rfl dX4_faultOf_95 ?_
          refine jj_iload_n C0 2 rfl dX4_faultOf_98 ?_
          refine jj_iald C0 (q0 := 7) (t0 := 0) (f := Bi) (rfl) rfl (k := c) (by omega) (by omega) (by decide) dX4_faultOf_99 ?_
          have hb_Bi_35971 := hBi c
          refine jj_aload_n C0 1 rfl dX4_faultOf_100 ?_
          refine jj_get C0 (ci := 5) (v := .ref (ad 8)) hin_X4 (0) (rfl) rfl 13 (by decide) (hw _ hU_799) (fun _ h9 => h9) rfl dX4_faultOf_101 ?_
          refine jj_iload_n C0 3 rfl dX4_faultOf_104 ?_
          refine jj_iald C0 (q0 := 8) (t0 := 0) (f := As) (rfl) rfl (k := o) (by omega) (by omega) (by decide) dX4_faultOf_105 ?_
          have hb_As_34900 := hAs o
          refine jj_icmp_le C0 (by omega) (by omega) dX4_faultOf_106 (tgt := 111) (by decide) (fun c_10 => ?_) (fun c_10 => ?_)
          · refine jj_lv [1, 2, 3] rfl ?_
            exact j111 () (by unfold f_F2 f_AS at *; omega)
          · refine jj_iconst C0 dX4_faultOf_109 ?_
            exact jj_iret C0 hr 2 (by unfold f_fo f_F2 f_F4 f_AS f_AE at *; omega) (rfl) (rfl) (by decide) (by decide) dX4_faultOf_110
    intro j79
    refine jj_aload_n C0 0 rfl dX4_faultOf_27 ?_
    refine jj_get C0 (ci := 5) (v := .ref (ad 2)) hin_X4 (0) (rfl) rfl 7 (by decide) (hw _ hU_793) (fun _ h9 => h9) rfl dX4_faultOf_28 ?_
    refine jj_iload_n C0 1 rfl dX4_faultOf_31 ?_
    refine jj_iald C0 (q0 := 2) (t0 := 0) (f := K) (rfl) rfl (k := c) (by omega) (by omega) (by decide) dX4_faultOf_32 ?_
    have hb_K_76719 := hK c
    refine jj_if_ne C0 (by omega) dX4_faultOf_33 (tgt := 59) (by decide) (fun c_11 => ?_) (fun c_11 => ?_)
    · refine jj_aload_n C0 0 rfl dX4_faultOf_59 ?_
      refine jj_get C0 (ci := 5) (v := .ref (ad 3)) hin_X4 (0) (rfl) rfl 8 (by decide) (hw _ hU_794) (fun _ h9 => h9) rfl dX4_faultOf_60 ?_
      refine jj_iload_n C0 1 rfl dX4_faultOf_63 ?_
      refine jj_iald C0 (q0 := 3) (t0 := 0) (f := St) (rfl) rfl (k := c) (by omega) (by omega) (by decide) dX4_faultOf_64 ?_
      have hb_St_55614 := hSt c
      refine jj_aload_n C0 0 rfl dX4_faultOf_65 ?_
      refine jj_get C0 (ci := 5) (v := .ref (ad 3)) hin_X4 (0) (rfl) rfl 8 (by decide) (hw _ hU_794) (fun _ h9 => h9) rfl dX4_faultOf_66 ?_
      refine jj_iload_n C0 2 rfl dX4_faultOf_69 ?_
      refine jj_iald C0 (q0 := 3) (t0 := 0) (f := St) (rfl) rfl (k := o) (by omega) (by omega) (by decide) dX4_faultOf_70 ?_
      have hb_St_34961 := hSt o
      refine jj_icmp_ge C0 (by omega) (by omega) dX4_faultOf_71 (tgt := 78) (by decide) (fun c_12 => ?_) (fun c_12 => ?_)
      · refine jj_iconst C0 dX4_faultOf_78 ?_
        exact j79 (0) (by omega)
      · refine jj_iconst C0 dX4_faultOf_74 ?_
        refine jj_goto C0 (tgt := 79) dX4_faultOf_75 (by decide) ?_
        exact j79 (1) (by omega)
    · refine jj_aload_n C0 0 rfl dX4_faultOf_36 ?_
      refine jj_get C0 (ci := 5) (v := .ref (ad 3)) hin_X4 (0) (rfl) rfl 8 (by decide) (hw _ hU_794) (fun _ h9 => h9) rfl dX4_faultOf_37 ?_
      refine jj_iload_n C0 1 rfl dX4_faultOf_40 ?_
      refine jj_iald C0 (q0 := 3) (t0 := 0) (f := St) (rfl) rfl (k := c) (by omega) (by omega) (by decide) dX4_faultOf_41 ?_
      have hb_St_55614 := hSt c
      refine jj_aload_n C0 0 rfl dX4_faultOf_42 ?_
      refine jj_get C0 (ci := 5) (v := .ref (ad 3)) hin_X4 (0) (rfl) rfl 8 (by decide) (hw _ hU_794) (fun _ h9 => h9) rfl dX4_faultOf_43 ?_
      refine jj_iload_n C0 2 rfl dX4_faultOf_46 ?_
      refine jj_iald C0 (q0 := 3) (t0 := 0) (f := St) (rfl) rfl (k := o) (by omega) (by omega) (by decide) dX4_faultOf_47 ?_
      have hb_St_34961 := hSt o
      refine jj_icmp_le C0 (by omega) (by omega) dX4_faultOf_48 (tgt := 55) (by decide) (fun c_13 => ?_) (fun c_13 => ?_)
      · refine jj_iconst C0 dX4_faultOf_55 ?_
        refine jj_goto C0 (tgt := 79) dX4_faultOf_56 (by decide) ?_
        exact j79 (0) (by omega)
      · refine jj_iconst C0 dX4_faultOf_51 ?_
        refine jj_goto C0 (tgt := 79) dX4_faultOf_52 (by decide) ?_
        exact j79 (1) (by omega)
  · refine jj_aload_n C0 0 rfl dX4_faultOf_5 ?_
    refine jj_get C0 (ci := 5) (v := .ref (ad 7)) hin_X4 (0) (rfl) rfl 12 (by decide) (hw _ hU_798) (fun _ h9 => h9) rfl dX4_faultOf_6 ?_
    refine jj_iload_n C0 1 rfl dX4_faultOf_9 ?_
    refine jj_iald C0 (q0 := 7) (t0 := 0) (f := Bi) (rfl) rfl (k := c) (by omega) (by omega) (by decide) dX4_faultOf_10 ?_
    have hb_Bi_35971 := hBi c
    refine jj_aload_n C0 0 rfl dX4_faultOf_11 ?_
    refine jj_get C0 (ci := 5) (v := .ref (ad 8)) hin_X4 (0) (rfl) rfl 13 (by decide) (hw _ hU_799) (fun _ h9 => h9) rfl dX4_faultOf_12 ?_
    refine jj_iload_n C0 1 rfl dX4_faultOf_15 ?_
    refine jj_iald C0 (q0 := 8) (t0 := 0) (f := As) (rfl) rfl (k := c) (by omega) (by omega) (by decide) dX4_faultOf_16 ?_
    have hb_As_68650 := hAs c
    refine jj_icmp_lt C0 (by omega) (by omega) dX4_faultOf_17 (tgt := 24) (by decide) (fun c_14 => ?_) (fun c_14 => ?_)
    · refine jj_bipush C0 dX4_faultOf_24 (by decide) ?_
      exact jj_iret C0 hr 9 (by unfold f_fo; omega) (rfl) (rfl) (by decide) (by decide) dX4_faultOf_26
    · refine jj_iconst C0 dX4_faultOf_20 ?_
      refine jj_goto C0 (tgt := 26) dX4_faultOf_21 (by decide) ?_
      exact jj_iret C0 hr 1 (by unfold f_fo; omega) (rfl) (rfl) (by decide) (by decide) dX4_faultOf_26
set_option maxHeartbeats 4000000 in
set_option maxRecDepth 100000 in
theorem cc_X4_isMiddle (hEV : jj_EV EV) {c o : Nat} (hc : c < 12) (ho : o < 12) (hn : n ≤ 12) (hK : ∀ j, 0 ≤ K j ∧ K j ≤ 1) (hSt : ∀ j, 0 ≤ St j ∧ St j ≤ 20000) (hEx : ∀ j, 0 ≤ Ex j ∧ Ex j ≤ 200) (hAm : ∀ j, 0 ≤ Am j ∧ Am j ≤ 1) (hOv : ∀ j, 0 ≤ Ov j ∧ Ov j ≤ 1) (hBi : ∀ j, 0 ≤ Bi j ∧ Bi j ≤ 20000) (hAs : ∀ j, 0 ≤ As j ∧ As j ≤ 20000) (hBL : ∀ j, 0 ≤ BL j ∧ BL j ≤ 100) (hAL : ∀ j, 0 ≤ AL j ∧ AL j ≤ 100) : jj_Mi EV (dC, dI) vwCl [(cI, .int), (cJ, .long), (cZ, .boolean), (cO, .object "java/lang/Object")] l yX4_isMiddle (Cond.code yX4_isMiddle cX4_isMiddle 6 (some .boolean) :: lw_U) ({ frames := 1, cells := 0, slots := 0, locals := 24 } : Room) [.ref (ad 0), .int (iI (c : Int)), .int (iI (o : Int))] (wM ad cI cJ cZ th td pr up dn dv n K St Ex Am Ov Bi As BL AL He Co Ca mo sh co sd Cz Ab be ++ E) (S := Int) (fun u => u) (fun u => (u = 1 ∧ ∃ p, p < n ∧ f_M K St Ex Am Ov Bi As BL AL c o p) ∨ (u = 0 ∧ ∀ p, p < n → ¬ f_M K St Ex Am Ov Bi As BL AL c o p)) (fun u => wM ad cI cJ cZ th td pr up dn dv n K St Ex Am Ov Bi As BL AL He Co Ca mo sh co sd Cz Ab be ++ E) := by
  refine jj_start (cc := cX4_isMiddle) (nL := 6) (ret := (some .boolean)) (lv := [(0, .ref (ad 0)), (1, .int (iI (c : Int))), (2, .int (iI (o : Int)))]) (fun A => jj_Qi _ _ _ _ _ _ A) hEV (by decide) rfl (Nat.le_of_ble_eq_true rfl) rfl ?_
  intro p9 e9 s9 m9 a9 b9 me9 c9 A9 C1 hr hin
  have C0 : jj_C p9 s9 m9 a9 me9 c9 (dC, dI) vwCl A9 6 cX4_isMiddle "StrikehallModel" lw_U _ EV := jj_toU C1
  have hw := C0.2.2.2.2.1
  refine jj_iconst C0 dX4_isMiddle_0 ?_
  refine jj_istore_n C0 (i := 3) rfl (lv' := [(3, .int (iI 0)), (0, .ref (ad 0)), (1, .int (iI (c : Int))), (2, .int (iI (o : Int)))]) (by decide) rfl dX4_isMiddle_1 ?_
  refine jj_iconst C0 dX4_isMiddle_2 ?_
  refine jj_istore C0 (lv' := [(4, .int (iI 0)), (3, .int (iI 0)), (0, .ref (ad 0)), (1, .int (iI (c : Int))), (2, .int (iI (o : Int)))]) (by decide) rfl dX4_isMiddle_3 ?_
  refine jj_ind (X := Nat × Int) (fun q9 => match q9 with | ⟨i, x⟩ => (n + 1 - i : Nat)) (fun q9 => match q9 with | ⟨i, x⟩ => [(4, .int (iI (i : Int))), (3, .int (iI x)), (0, .ref (ad 0)), (1, .int (iI (c : Int))), (2, .int (iI (o : Int)))]) (fun q9 => match q9 with | ⟨i, x⟩ => []) (fun q9 => match q9 with | ⟨i, x⟩ => wM ad cI cJ cZ th td pr up dn dv n K St Ex Am Ov Bi As BL AL He Co Ca mo sh co sd Cz Ab be ++ E) (fun q9 => match q9 with | ⟨i, x⟩ => i ≤ n ∧ ((x = 1 ∧ ∃ p, p < i ∧ f_M K St Ex Am Ov Bi As BL AL c o p) ∨ (x = 0 ∧ ∀ p, p < i → ¬ f_M K St Ex Am Ov Bi As BL AL c o p))) ?_ (0, 0) ⟨Nat.zero_le _, Or.inr ⟨rfl, fun p hp => absurd hp (Nat.not_lt_zero _)⟩⟩
  intro q9 hq9 ih5
  obtain ⟨i, x⟩ := q9
  obtain ⟨hi, hx⟩ : i ≤ n ∧ ((x = 1 ∧ ∃ p, p < i ∧ f_M K St Ex Am Ov Bi As BL AL c o p) ∨ (x = 0 ∧ ∀ p, p < i → ¬ f_M K St Ex Am Ov Bi As BL AL c o p)) := hq9
  show jj_W _ _ _ _ _ _ _ _ _ _ _ _ _ _ _ _ _ 5 [(4, .int (iI (i : Int))), (3, .int (iI x)), (0, .ref (ad 0)), (1, .int (iI (c : Int))), (2, .int (iI (o : Int)))] [] (wM ad cI cJ cZ th td pr up dn dv n K St Ex Am Ov Bi As BL AL He Co Ca mo sh co sd Cz Ab be ++ E)
  refine jj_iload C0 0 rfl dX4_isMiddle_5 ?_
  refine jj_aload_n C0 2 rfl dX4_isMiddle_7 ?_
  refine jj_get C0 (ci := 5) (v := .int (iI (n : Int))) hin_X4 (0) (rfl) rfl 6 (by decide) (hw _ hU_792) (fun _ h9 => h9) rfl dX4_isMiddle_8 ?_
  have hx0 : x = 0 ∨ x = 1 := by rcases hx with h | h <;> omega
  refine jj_icmp_ge C0 (by omega) (by omega) dX4_isMiddle_11 (tgt := 138) (by decide) (fun c_1 => ?_) (fun c_1 => ?_)
  · refine jj_iload_n C0 1 rfl dX4_isMiddle_138 ?_
    obtain rfl : i = n := by omega
    exact jj_zret C0 hr x (by exact hx) (rfl) (by omega) (rfl) (by decide) (by decide) dX4_isMiddle_139
  · refine jj_join (X := Int) (pcj := 90) (fun q9 => match q9 with | y => [(4, .int (iI (i : Int))), (3, .int (iI x)), (0, .ref (ad 0)), (1, .int (iI (c : Int))), (2, .int (iI (o : Int)))]) (fun q9 => match q9 with | y => [.int (iI y)]) (fun q9 => match q9 with | y => wM ad cI cJ cZ th td pr up dn dv n K St Ex Am Ov Bi As BL AL He Co Ca mo sh co sd Cz Ab be ++ E) (fun q9 => match q9 with | y => (y = 1 ∧ f_I K St Ex Am Ov BL AL c o i) ∨ (y = 0 ∧ ¬ f_I K St Ex Am Ov BL AL c o i)) ?_ ?_
    · intro q9 hq9
      obtain ⟨y, rfl⟩ : ∃ z, z = q9 := ⟨_, rfl⟩
      have hy : (y = 1 ∧ f_I K St Ex Am Ov BL AL c o i) ∨ (y = 0 ∧ ¬ f_I K St Ex Am Ov BL AL c o i) := hq9
      refine jj_istore C0 (lv' := [(5, .int (iI y)), (4, .int (iI (i : Int))), (3, .int (iI x)), (0, .ref (ad 0)), (1, .int (iI (c : Int))), (2, .int (iI (o : Int)))]) (by decide) rfl dX4_isMiddle_90 ?_
      refine jj_iload_n C0 2 rfl dX4_isMiddle_92 ?_
      refine jj_if_ne C0 (by omega) dX4_isMiddle_93 (tgt := 126) (by decide) (fun c_2 => ?_) (fun c_2 => ?_)
      · refine jj_iconst C0 dX4_isMiddle_126 ?_
        refine jj_goto C0 (tgt := 131) dX4_isMiddle_127 (by decide) ?_
        refine jj_istore_n C0 (i := 3) rfl (lv' := [(3, .int (iI 1)), (5, .int (iI y)), (4, .int (iI (i : Int))), (0, .ref (ad 0)), (1, .int (iI (c : Int))), (2, .int (iI (o : Int)))]) (by decide) rfl dX4_isMiddle_131 ?_
        refine jj_iinc C0 (z := ((i + 1 : Nat) : Int)) (lv' := [(4, .int (iI ((i + 1 : Nat) : Int))), (3, .int (iI 1)), (5, .int (iI y)), (0, .ref (ad 0)), (1, .int (iI (c : Int))), (2, .int (iI (o : Int)))]) 2 rfl (by omega) (by decide) rfl dX4_isMiddle_132 ?_
        refine jj_goto C0 (tgt := 5) dX4_isMiddle_135 (by decide) ?_
        refine jj_lv [0, 1, 3, 4, 5] rfl ?_
        exact ih5 (i + 1, 1) ⟨by omega, ex_step hx (by rcases hy with ⟨hy1, hy2⟩ | ⟨hy1, hy2⟩ <;> first | omega | exact Or.inl ⟨rfl, Or.inr ⟨hy2, by omega⟩⟩ | exact Or.inl ⟨rfl, Or.inl (by omega)⟩ | exact Or.inr ⟨rfl, by omega, fun h => hy2 h.1⟩ | exact Or.inr ⟨rfl, by omega, fun h => absurd h.2 (by omega)⟩)⟩ (by dsimp only; omega)
      · refine jj_iload C0 0 rfl dX4_isMiddle_96 ?_
        refine jj_if_eq C0 (by omega) dX4_isMiddle_98 (tgt := 130) (by decide) (fun c_3 => ?_) (fun c_3 => ?_)
        · refine jj_iconst C0 dX4_isMiddle_130 ?_
          refine jj_istore_n C0 (i := 3) rfl (lv' := [(3, .int (iI 0)), (5, .int (iI y)), (4, .int (iI (i : Int))), (0, .ref (ad 0)), (1, .int (iI (c : Int))), (2, .int (iI (o : Int)))]) (by decide) rfl dX4_isMiddle_131 ?_
          refine jj_iinc C0 (z := ((i + 1 : Nat) : Int)) (lv' := [(4, .int (iI ((i + 1 : Nat) : Int))), (3, .int (iI 0)), (5, .int (iI y)), (0, .ref (ad 0)), (1, .int (iI (c : Int))), (2, .int (iI (o : Int)))]) 2 rfl (by omega) (by decide) rfl dX4_isMiddle_132 ?_
          refine jj_goto C0 (tgt := 5) dX4_isMiddle_135 (by decide) ?_
          refine jj_lv [0, 1, 3, 4, 5] rfl ?_
          exact ih5 (i + 1, 0) ⟨by omega, ex_step hx (by rcases hy with ⟨hy1, hy2⟩ | ⟨hy1, hy2⟩ <;> first | omega | exact Or.inl ⟨rfl, Or.inr ⟨hy2, by omega⟩⟩ | exact Or.inl ⟨rfl, Or.inl (by omega)⟩ | exact Or.inr ⟨rfl, by omega, fun h => hy2 h.1⟩ | exact Or.inr ⟨rfl, by omega, fun h => absurd h.2 (by omega)⟩)⟩ (by dsimp only; omega)
        · refine jj_iconst C0 dX4_isMiddle_101 ?_
          refine jj_aload_n C0 3 rfl dX4_isMiddle_102 ?_
          refine jj_get C0 (ci := 5) (v := .ref (ad 7)) hin_X4 (0) (rfl) rfl 12 (by decide) (hw _ hU_798) (fun _ h9 => h9) rfl dX4_isMiddle_103 ?_
          refine jj_iload_n C0 4 rfl dX4_isMiddle_106 ?_
          refine jj_iald C0 (q0 := 7) (t0 := 0) (f := Bi) (rfl) rfl (k := c) (by omega) (by omega) (by decide) dX4_isMiddle_107 ?_
          have hb_Bi_35971 := hBi c
          refine jj_imul C0 dX4_isMiddle_108 ?_
          refine jj_aload_n C0 3 rfl dX4_isMiddle_109 ?_
          refine jj_get C0 (ci := 5) (v := .ref (ad 8)) hin_X4 (0) (rfl) rfl 13 (by decide) (hw _ hU_799) (fun _ h9 => h9) rfl dX4_isMiddle_110 ?_
          refine jj_iload_n C0 5 rfl dX4_isMiddle_113 ?_
          refine jj_iald C0 (q0 := 8) (t0 := 0) (f := As) (rfl) rfl (k := o) (by omega) (by omega) (by decide) dX4_isMiddle_114 ?_
          have hb_As_34900 := hAs o
          refine jj_aload_n C0 3 rfl dX4_isMiddle_115 ?_
          refine jj_get C0 (ci := 5) (v := .ref (ad 8)) hin_X4 (0) (rfl) rfl 13 (by decide) (hw _ hU_799) (fun _ h9 => h9) rfl dX4_isMiddle_116 ?_
          refine jj_iload C0 1 rfl dX4_isMiddle_119 ?_
          refine jj_iald C0 (q0 := 8) (t0 := 0) (f := As) (rfl) rfl (k := i) (by omega) (by omega) (by decide) dX4_isMiddle_121 ?_
          have hb_As_48853 := hAs i
          refine jj_iadd C0 dX4_isMiddle_122 ?_
          refine jj_icmp_le C0 (by omega) (by omega) dX4_isMiddle_123 (tgt := 130) (by decide) (fun c_4 => ?_) (fun c_4 => ?_)
          · refine jj_iconst C0 dX4_isMiddle_130 ?_
            refine jj_istore_n C0 (i := 3) rfl (lv' := [(3, .int (iI 0)), (5, .int (iI y)), (4, .int (iI (i : Int))), (0, .ref (ad 0)), (1, .int (iI (c : Int))), (2, .int (iI (o : Int)))]) (by decide) rfl dX4_isMiddle_131 ?_
            refine jj_iinc C0 (z := ((i + 1 : Nat) : Int)) (lv' := [(4, .int (iI ((i + 1 : Nat) : Int))), (3, .int (iI 0)), (5, .int (iI y)), (0, .ref (ad 0)), (1, .int (iI (c : Int))), (2, .int (iI (o : Int)))]) 2 rfl (by omega) (by decide) rfl dX4_isMiddle_132 ?_
            refine jj_goto C0 (tgt := 5) dX4_isMiddle_135 (by decide) ?_
            refine jj_lv [0, 1, 3, 4, 5] rfl ?_
            exact ih5 (i + 1, 0) ⟨by omega, ex_step hx (by rcases hy with ⟨hy1, hy2⟩ | ⟨hy1, hy2⟩ <;> first | omega | exact Or.inl ⟨rfl, Or.inr ⟨hy2, by omega⟩⟩ | exact Or.inl ⟨rfl, Or.inl (by omega)⟩ | exact Or.inr ⟨rfl, by omega, fun h => hy2 h.1⟩ | exact Or.inr ⟨rfl, by omega, fun h => absurd h.2 (by omega)⟩)⟩ (by dsimp only; omega)
          · refine jj_iconst C0 dX4_isMiddle_126 ?_
            refine jj_goto C0 (tgt := 131) dX4_isMiddle_127 (by decide) ?_
            refine jj_istore_n C0 (i := 3) rfl (lv' := [(3, .int (iI 1)), (5, .int (iI y)), (4, .int (iI (i : Int))), (0, .ref (ad 0)), (1, .int (iI (c : Int))), (2, .int (iI (o : Int)))]) (by decide) rfl dX4_isMiddle_131 ?_
            refine jj_iinc C0 (z := ((i + 1 : Nat) : Int)) (lv' := [(4, .int (iI ((i + 1 : Nat) : Int))), (3, .int (iI 1)), (5, .int (iI y)), (0, .ref (ad 0)), (1, .int (iI (c : Int))), (2, .int (iI (o : Int)))]) 2 rfl (by omega) (by decide) rfl dX4_isMiddle_132 ?_
            refine jj_goto C0 (tgt := 5) dX4_isMiddle_135 (by decide) ?_
            refine jj_lv [0, 1, 3, 4, 5] rfl ?_
            exact ih5 (i + 1, 1) ⟨by omega, ex_step hx (by rcases hy with ⟨hy1, hy2⟩ | ⟨hy1, hy2⟩ <;> first | omega | exact Or.inl ⟨rfl, Or.inr ⟨hy2, by omega⟩⟩ | exact Or.inl ⟨rfl, Or.inl (by omega)⟩ | exact Or.inr ⟨rfl, by omega, fun h => hy2 h.1⟩ | exact Or.inr ⟨rfl, by omega, fun h => absurd h.2 (by omega)⟩)⟩ (by dsimp only; omega)
    intro j90
    have hx0 : x = 0 ∨ x = 1 := by rcases hx with h | h <;> omega
    refine jj_aload_n C0 2 rfl dX4_isMiddle_14 ?_
    refine jj_iload C0 0 rfl dX4_isMiddle_15 ?_
    refine jj_callVi C0 (cc_X4_hasBoth hEV (c := i) (by first | exact hc | omega) (by first | exact hOv | omega) (by first | exact hBL | omega) (by first | exact hAL | omega)) (cwV 1 hw (lw_gV hU_928 hU_930 hU_49 hU_66 hU_931) rfl rfl rfl (by decide +kernel) ⟨Nat.le_of_ble_eq_true rfl, Nat.le_of_ble_eq_true rfl⟩) (ci := 5) (q0 := 0) rfl (rfl) rfl rfl (Nat.le_of_ble_eq_true rfl) ⟨by decide, by decide⟩ rfl rfl dX4_isMiddle_17 ?_
    intro u_5 hu
    have hu_17 : (u_5 = 1 ∧ f_q Ov BL AL i) ∨ (u_5 = 0 ∧ ¬ f_q Ov BL AL i) := hu
    show jj_W _ _ _ _ _ _ _ _ _ _ _ _ _ _ _ _ _ 20 _ [.int (iI u_5)] (wM ad cI cJ cZ th td pr up dn dv n K St Ex Am Ov Bi As BL AL He Co Ca mo sh co sd Cz Ab be ++ E)
    refine jj_if_eq C0 (by omega) dX4_isMiddle_20 (tgt := 89) (by decide) (fun c_6 => ?_) (fun c_6 => ?_)
    · refine jj_iconst C0 dX4_isMiddle_89 ?_
      exact j90 (0) (by unfold f_I f_q f_AS at *; omega)
    · refine jj_aload_n C0 2 rfl dX4_isMiddle_23 ?_
      refine jj_iload_n C0 3 rfl dX4_isMiddle_24 ?_
      refine jj_iload_n C0 4 rfl dX4_isMiddle_25 ?_
      refine jj_iconst C0 dX4_isMiddle_26 ?_
      refine jj_callVi C0 (cc_X4_isAlikeS hEV (c := c) (o := o) (by first | exact hc | omega) (by first | exact ho | omega) (by first | exact hK | omega) (by first | exact hSt | omega) (by first | exact hEx | omega) (by first | exact hAm | omega)) (cwV 3 hw (lw_gV hU_936 hU_938 hU_51 hU_66 hU_939) rfl rfl rfl (by decide +kernel) ⟨Nat.le_of_ble_eq_true rfl, Nat.le_of_ble_eq_true rfl⟩) (ci := 5) (q0 := 0) rfl (rfl) rfl rfl (Nat.le_of_ble_eq_true rfl) ⟨by decide, by decide⟩ rfl rfl dX4_isMiddle_27 ?_
      intro u_7 hu
      have hu_27 : (u_7 = 1 ∧ f_AS K St Ex Am c o) ∨ (u_7 = 0 ∧ ¬ f_AS K St Ex Am c o) := hu
      show jj_W _ _ _ _ _ _ _ _ _ _ _ _ _ _ _ _ _ 30 _ [.int (iI u_7)] (wM ad cI cJ cZ th td pr up dn dv n K St Ex Am Ov Bi As BL AL He Co Ca mo sh co sd Cz Ab be ++ E)
      refine jj_if_eq C0 (by omega) dX4_isMiddle_30 (tgt := 89) (by decide) (fun c_8 => ?_) (fun c_8 => ?_)
      · refine jj_iconst C0 dX4_isMiddle_89 ?_
        exact j90 (0) (by unfold f_I f_q f_AS at *; omega)
      · refine jj_aload_n C0 2 rfl dX4_isMiddle_33 ?_
        refine jj_iload_n C0 3 rfl dX4_isMiddle_34 ?_
        refine jj_iload C0 0 rfl dX4_isMiddle_35 ?_
        refine jj_iconst C0 dX4_isMiddle_37 ?_
        refine jj_callVi C0 (cc_X4_isAlikeS hEV (c := c) (o := i) (by first | exact hc | omega) (by first | exact ho | omega) (by first | exact hK | omega) (by first | exact hSt | omega) (by first | exact hEx | omega) (by first | exact hAm | omega)) (cwV 3 hw (lw_gV hU_936 hU_938 hU_51 hU_66 hU_939) rfl rfl rfl (by decide +kernel) ⟨Nat.le_of_ble_eq_true rfl, Nat.le_of_ble_eq_true rfl⟩) (ci := 5) (q0 := 0) rfl (rfl) rfl rfl (Nat.le_of_ble_eq_true rfl) ⟨by decide, by decide⟩ rfl rfl dX4_isMiddle_38 ?_
        intro u_9 hu
        have hu_38 : (u_9 = 1 ∧ f_AS K St Ex Am c i) ∨ (u_9 = 0 ∧ ¬ f_AS K St Ex Am c i) := hu
        show jj_W _ _ _ _ _ _ _ _ _ _ _ _ _ _ _ _ _ 41 _ [.int (iI u_9)] (wM ad cI cJ cZ th td pr up dn dv n K St Ex Am Ov Bi As BL AL He Co Ca mo sh co sd Cz Ab be ++ E)
        refine jj_if_eq C0 (by omega) dX4_isMiddle_41 (tgt := 89) (by decide) (fun c_10 => ?_) (fun c_10 => ?_)
        · refine jj_iconst C0 dX4_isMiddle_89 ?_
          exact j90 (0) (by unfold f_I f_q f_AS at *; omega)
        · refine jj_aload_n C0 2 rfl dX4_isMiddle_44 ?_
          refine jj_get C0 (ci := 5) (v := .ref (ad 3)) hin_X4 (0) (rfl) rfl 8 (by decide) (hw _ hU_794) (fun _ h9 => h9) rfl dX4_isMiddle_45 ?_
          refine jj_iload_n C0 4 rfl dX4_isMiddle_48 ?_
          refine jj_iald C0 (q0 := 3) (t0 := 0) (f := St) (rfl) rfl (k := o) (by omega) (by omega) (by decide) dX4_isMiddle_49 ?_
          have hb_St_34961 := hSt o
          refine jj_aload_n C0 2 rfl dX4_isMiddle_50 ?_
          refine jj_get C0 (ci := 5) (v := .ref (ad 3)) hin_X4 (0) (rfl) rfl 8 (by decide) (hw _ hU_794) (fun _ h9 => h9) rfl dX4_isMiddle_51 ?_
          refine jj_iload C0 0 rfl dX4_isMiddle_54 ?_
          refine jj_iald C0 (q0 := 3) (t0 := 0) (f := St) (rfl) rfl (k := i) (by omega) (by omega) (by decide) dX4_isMiddle_56 ?_
          have hb_St_61889 := hSt i
          refine jj_icmp_ge C0 (by omega) (by omega) dX4_isMiddle_57 (tgt := 89) (by decide) (fun c_11 => ?_) (fun c_11 => ?_)
          · refine jj_iconst C0 dX4_isMiddle_89 ?_
            exact j90 (0) (by unfold f_I f_q f_AS at *; omega)
          · refine jj_aload_n C0 2 rfl dX4_isMiddle_60 ?_
            refine jj_get C0 (ci := 5) (v := .ref (ad 3)) hin_X4 (0) (rfl) rfl 8 (by decide) (hw _ hU_794) (fun _ h9 => h9) rfl dX4_isMiddle_61 ?_
            refine jj_iload_n C0 4 rfl dX4_isMiddle_64 ?_
            refine jj_iald C0 (q0 := 3) (t0 := 0) (f := St) (rfl) rfl (k := o) (by omega) (by omega) (by decide) dX4_isMiddle_65 ?_
            have hb_St_34961 := hSt o
            refine jj_aload_n C0 2 rfl dX4_isMiddle_66 ?_
            refine jj_get C0 (ci := 5) (v := .ref (ad 3)) hin_X4 (0) (rfl) rfl 8 (by decide) (hw _ hU_794) (fun _ h9 => h9) rfl dX4_isMiddle_67 ?_
            refine jj_iload C0 0 rfl dX4_isMiddle_70 ?_
            refine jj_iald C0 (q0 := 3) (t0 := 0) (f := St) (rfl) rfl (k := i) (by omega) (by omega) (by decide) dX4_isMiddle_72 ?_
            have hb_St_61889 := hSt i
            refine jj_iadd C0 dX4_isMiddle_73 ?_
            refine jj_iconst C0 dX4_isMiddle_74 ?_
            refine jj_aload_n C0 2 rfl dX4_isMiddle_75 ?_
            refine jj_get C0 (ci := 5) (v := .ref (ad 3)) hin_X4 (0) (rfl) rfl 8 (by decide) (hw _ hU_794) (fun _ h9 => h9) rfl dX4_isMiddle_76 ?_
            refine jj_iload_n C0 3 rfl dX4_isMiddle_79 ?_
            refine jj_iald C0 (q0 := 3) (t0 := 0) (f := St) (rfl) rfl (k := c) (by omega) (by omega) (by decide) dX4_isMiddle_80 ?_
            have hb_St_55614 := hSt c
            refine jj_imul C0 dX4_isMiddle_81 ?_
            refine jj_icmp_ne C0 (by omega) (by omega) dX4_isMiddle_82 (tgt := 89) (by decide) (fun c_12 => ?_) (fun c_12 => ?_)
            · refine jj_iconst C0 dX4_isMiddle_89 ?_
              exact j90 (0) (by unfold f_I f_q f_AS at *; omega)
            · refine jj_iconst C0 dX4_isMiddle_85 ?_
              refine jj_goto C0 (tgt := 90) dX4_isMiddle_86 (by decide) ?_
              exact j90 (1) (by unfold f_I f_q f_AS at *; omega)
set_option maxHeartbeats 4000000 in
set_option maxRecDepth 100000 in
theorem cc_X4_firstFault (hEV : jj_EV EV)  (hn : n ≤ 12) (hK : ∀ j, 0 ≤ K j ∧ K j ≤ 1) (hSt : ∀ j, 0 ≤ St j ∧ St j ≤ 20000) (hEx : ∀ j, 0 ≤ Ex j ∧ Ex j ≤ 200) (hAm : ∀ j, 0 ≤ Am j ∧ Am j ≤ 1) (hOv : ∀ j, 0 ≤ Ov j ∧ Ov j ≤ 1) (hBi : ∀ j, 0 ≤ Bi j ∧ Bi j ≤ 20000) (hAs : ∀ j, 0 ≤ As j ∧ As j ≤ 20000) (hBL : ∀ j, 0 ≤ BL j ∧ BL j ≤ 100) (hAL : ∀ j, 0 ≤ AL j ∧ AL j ≤ 100) : jj_Mi EV (dC, dI) vwCl [(cI, .int), (cJ, .long), (cZ, .boolean), (cO, .object "java/lang/Object")] l yX4_firstFault (Cond.code yX4_firstFault cX4_firstFault 5 (some .int) :: lw_U) ({ frames := 2, cells := 0, slots := 0, locals := 49 } : Room) [.ref (ad 0)] (wM ad cI cJ cZ th td pr up dn dv n K St Ex Am Ov Bi As BL AL He Co Ca mo sh co sd Cz Ab be ++ E) (S := Int) (fun u => u) (fun u => f_isF (f_F n K St Ex Am Ov Bi As BL AL) n u) (fun u => wM ad cI cJ cZ th td pr up dn dv n K St Ex Am Ov Bi As BL AL He Co Ca mo sh co sd Cz Ab be ++ E) := by
  refine jj_start (cc := cX4_firstFault) (nL := 5) (ret := (some .int)) (lv := [(0, .ref (ad 0))]) (fun A => jj_Qi _ _ _ _ _ _ A) hEV (by decide) rfl (Nat.le_of_ble_eq_true rfl) rfl ?_
  intro p9 e9 s9 m9 a9 b9 me9 c9 A9 C1 hr hin
  have C0 : jj_C p9 s9 m9 a9 me9 c9 (dC, dI) vwCl A9 5 cX4_firstFault "StrikehallModel" lw_U _ EV := jj_toU C1
  have hw := C0.2.2.2.2.1
  refine jj_bipush C0 dX4_firstFault_0 (by decide) ?_
  refine jj_istore_n C0 (i := 1) rfl (lv' := [(1, .int (iI 9)), (0, .ref (ad 0))]) (by decide) rfl dX4_firstFault_2 ?_
  refine jj_iconst C0 dX4_firstFault_3 ?_
  refine jj_istore_n C0 (i := 2) rfl (lv' := [(2, .int (iI 0)), (1, .int (iI 9)), (0, .ref (ad 0))]) (by decide) rfl dX4_firstFault_4 ?_
  refine jj_ind (X := Nat × Int) (fun q9 => match q9 with | ⟨i, x⟩ => (n + 1 - i : Nat)) (fun q9 => match q9 with | ⟨i, x⟩ => [(2, .int (iI (i : Int))), (1, .int (iI x)), (0, .ref (ad 0))]) (fun q9 => match q9 with | ⟨i, x⟩ => []) (fun q9 => match q9 with | ⟨i, x⟩ => wM ad cI cJ cZ th td pr up dn dv n K St Ex Am Ov Bi As BL AL He Co Ca mo sh co sd Cz Ab be ++ E) (fun q9 => match q9 with | ⟨i, x⟩ => i ≤ n ∧ f_L (f_F n K St Ex Am Ov Bi As BL AL) n x (fun c9 o9 => c9 < i ∧ o9 < n)) ?_ (0, 9) ⟨Nat.zero_le _, Or.inl rfl, fun c9 o9 k hd => absurd hd.1 (Nat.not_lt_zero _)⟩
  intro q9 hq9 ih5
  obtain ⟨i, x⟩ := q9
  obtain ⟨hi, hL0⟩ : i ≤ n ∧ f_L (f_F n K St Ex Am Ov Bi As BL AL) n x (fun c9 o9 => c9 < i ∧ o9 < n) := hq9
  show jj_W _ _ _ _ _ _ _ _ _ _ _ _ _ _ _ _ _ 5 [(2, .int (iI (i : Int))), (1, .int (iI x)), (0, .ref (ad 0))] [] (wM ad cI cJ cZ th td pr up dn dv n K St Ex Am Ov Bi As BL AL He Co Ca mo sh co sd Cz Ab be ++ E)
  refine jj_iload_n C0 0 rfl dX4_firstFault_5 ?_
  refine jj_aload_n C0 2 rfl dX4_firstFault_6 ?_
  refine jj_get C0 (ci := 5) (v := .int (iI (n : Int))) hin_X4 (0) (rfl) rfl 6 (by decide) (hw _ hU_792) (fun _ h9 => h9) rfl dX4_firstFault_7 ?_
  refine jj_icmp_ge C0 (by omega) (by omega) dX4_firstFault_10 (tgt := 95) (by decide) (fun c_1 => ?_) (fun c_1 => ?_)
  · have hxb := f_L_le hL0
    obtain rfl : i = n := by omega
    refine jj_iload_n C0 1 rfl dX4_firstFault_95 ?_
    refine jj_bipush C0 dX4_firstFault_96 (by decide) ?_
    refine jj_icmp_ne C0 (by omega) (by omega) dX4_firstFault_98 (tgt := 105) (by decide) (fun c_2 => ?_) (fun c_2 => ?_)
    · refine jj_iload_n C0 1 rfl dX4_firstFault_105 ?_
      exact jj_iret C0 hr x (by have h9 := f_L_end hL0 (fun c o hc ho => ⟨hc, ho⟩) (fun c o k h => (f_F_le h).2); first | (rw [if_pos (by omega)] at h9; exact h9) | (rw [if_neg (by omega)] at h9; exact h9)) (rfl) (rfl) (by decide) (by decide) dX4_firstFault_106
    · refine jj_iconst C0 dX4_firstFault_101 ?_
      refine jj_goto C0 (tgt := 106) dX4_firstFault_102 (by decide) ?_
      exact jj_iret C0 hr 0 (by have h9 := f_L_end hL0 (fun c o hc ho => ⟨hc, ho⟩) (fun c o k h => (f_F_le h).2); first | (rw [if_pos (by omega)] at h9; exact h9) | (rw [if_neg (by omega)] at h9; exact h9)) (rfl) (rfl) (by decide) (by decide) dX4_firstFault_106
  · refine jj_iconst C0 dX4_firstFault_13 ?_
    refine jj_istore_n C0 (i := 3) rfl (lv' := [(3, .int (iI 0)), (2, .int (iI (i : Int))), (1, .int (iI x)), (0, .ref (ad 0))]) (by decide) rfl dX4_firstFault_14 ?_
    refine jj_ind (X := Nat × Int) (fun q9 => match q9 with | ⟨j, x⟩ => (n + 1 - j : Nat)) (fun q9 => match q9 with | ⟨j, x⟩ => [(3, .int (iI (j : Int))), (2, .int (iI (i : Int))), (1, .int (iI x)), (0, .ref (ad 0))]) (fun q9 => match q9 with | ⟨j, x⟩ => []) (fun q9 => match q9 with | ⟨j, x⟩ => wM ad cI cJ cZ th td pr up dn dv n K St Ex Am Ov Bi As BL AL He Co Ca mo sh co sd Cz Ab be ++ E) (fun q9 => match q9 with | ⟨j, x⟩ => j ≤ n ∧ f_L (f_F n K St Ex Am Ov Bi As BL AL) n x (fun c9 o9 => (c9 < i ∧ o9 < n) ∨ (c9 = i ∧ o9 < j))) ?_ (0, x) ⟨Nat.zero_le _, f_L_more hL0 (fun c9 o9 hd => Or.inl (by omega))⟩
    intro q9 hq9 ih15
    obtain ⟨j, x⟩ := q9
    obtain ⟨hj, hL⟩ : j ≤ n ∧ f_L (f_F n K St Ex Am Ov Bi As BL AL) n x (fun c9 o9 => (c9 < i ∧ o9 < n) ∨ (c9 = i ∧ o9 < j)) := hq9
    have hxb := f_L_le hL
    show jj_W _ _ _ _ _ _ _ _ _ _ _ _ _ _ _ _ _ 15 [(3, .int (iI (j : Int))), (2, .int (iI (i : Int))), (1, .int (iI x)), (0, .ref (ad 0))] [] (wM ad cI cJ cZ th td pr up dn dv n K St Ex Am Ov Bi As BL AL He Co Ca mo sh co sd Cz Ab be ++ E)
    refine jj_iload_n C0 0 rfl dX4_firstFault_15 ?_
    refine jj_aload_n C0 3 rfl dX4_firstFault_16 ?_
    refine jj_get C0 (ci := 5) (v := .int (iI (n : Int))) hin_X4 (0) (rfl) rfl 6 (by decide) (hw _ hU_792) (fun _ h9 => h9) rfl dX4_firstFault_17 ?_
    refine jj_icmp_ge C0 (by omega) (by omega) dX4_firstFault_20 (tgt := 89) (by decide) (fun c_3 => ?_) (fun c_3 => ?_)
    · refine jj_iinc C0 (z := ((i + 1 : Nat) : Int)) (lv' := [(2, .int (iI ((i + 1 : Nat) : Int))), (3, .int (iI (j : Int))), (1, .int (iI x)), (0, .ref (ad 0))]) 1 rfl (by omega) (by decide) rfl dX4_firstFault_89 ?_
      refine jj_goto C0 (tgt := 5) dX4_firstFault_92 (by decide) ?_
      refine jj_lv [0, 2, 3] rfl ?_
      exact ih5 (i + 1, x) ⟨by omega, f_L_more hL (fun c9 o9 hd => Or.inl (by omega))⟩ (by dsimp only; omega)
    · refine jj_aload_n C0 3 rfl dX4_firstFault_23 ?_
      refine jj_iload_n C0 1 rfl dX4_firstFault_24 ?_
      refine jj_callVi C0 (cc_X4_hasBoth hEV (c := i) (by omega) (by first | exact hOv | omega) (by first | exact hBL | omega) (by first | exact hAL | omega)) (cwV 1 hw (lw_gV hU_928 hU_930 hU_49 hU_66 hU_931) rfl rfl rfl (by decide +kernel) ⟨Nat.le_of_ble_eq_true rfl, Nat.le_of_ble_eq_true rfl⟩) (ci := 5) (q0 := 0) rfl (rfl) rfl rfl (Nat.le_of_ble_eq_true rfl) ⟨by decide, by decide⟩ rfl rfl dX4_firstFault_25 ?_
      intro u_4 hu
      have hu_25 : (u_4 = 1 ∧ f_q Ov BL AL i) ∨ (u_4 = 0 ∧ ¬ f_q Ov BL AL i) := hu
      show jj_W _ _ _ _ _ _ _ _ _ _ _ _ _ _ _ _ _ 28 _ [.int (iI u_4)] (wM ad cI cJ cZ th td pr up dn dv n K St Ex Am Ov Bi As BL AL He Co Ca mo sh co sd Cz Ab be ++ E)
      refine jj_if_eq C0 (by omega) dX4_firstFault_28 (tgt := 83) (by decide) (fun c_5 => ?_) (fun c_5 => ?_)
      · have hnq : ¬ f_q Ov BL AL i := by rcases hu_25 with h | h; omega; exact h.2
        skip
        refine jj_iinc C0 (z := ((j + 1 : Nat) : Int)) (lv' := [(3, .int (iI ((j + 1 : Nat) : Int))), (2, .int (iI (i : Int))), (1, .int (iI x)), (0, .ref (ad 0))]) 0 rfl (by omega) (by decide) rfl dX4_firstFault_83 ?_
        refine jj_goto C0 (tgt := 15) dX4_firstFault_86 (by decide) ?_
        exact ih15 (j + 1, x) ⟨by omega, f_L_more hL (fun c9 o9 hd => by
            rcases hd with hd | ⟨h9, h8⟩
            · exact Or.inl (Or.inl hd)
            · by_cases e : o9 = j
              · subst e; subst h9; exact Or.inr (fun k hf => by first | exact hnq hf.1 | exact hnq hf.2.1)
              · exact Or.inl (Or.inr ⟨h9, by omega⟩))⟩ (by dsimp only; omega)
      · have hq1 : f_q Ov BL AL i := by rcases hu_25 with h | h; exact h.2; omega
        refine jj_aload_n C0 3 rfl dX4_firstFault_31 ?_
        refine jj_iload_n C0 0 rfl dX4_firstFault_32 ?_
        refine jj_callVi C0 (cc_X4_hasBoth hEV (c := j) (by omega) (by first | exact hOv | omega) (by first | exact hBL | omega) (by first | exact hAL | omega)) (cwV 1 hw (lw_gV hU_928 hU_930 hU_49 hU_66 hU_931) rfl rfl rfl (by decide +kernel) ⟨Nat.le_of_ble_eq_true rfl, Nat.le_of_ble_eq_true rfl⟩) (ci := 5) (q0 := 0) rfl (rfl) rfl rfl (Nat.le_of_ble_eq_true rfl) ⟨by decide, by decide⟩ rfl rfl dX4_firstFault_33 ?_
        intro u_6 hu
        have hu_33 : (u_6 = 1 ∧ f_q Ov BL AL j) ∨ (u_6 = 0 ∧ ¬ f_q Ov BL AL j) := hu
        show jj_W _ _ _ _ _ _ _ _ _ _ _ _ _ _ _ _ _ 36 _ [.int (iI u_6)] (wM ad cI cJ cZ th td pr up dn dv n K St Ex Am Ov Bi As BL AL He Co Ca mo sh co sd Cz Ab be ++ E)
        refine jj_if_eq C0 (by omega) dX4_firstFault_36 (tgt := 83) (by decide) (fun c_7 => ?_) (fun c_7 => ?_)
        · have hnq : ¬ f_q Ov BL AL j := by rcases hu_33 with h | h; omega; exact h.2
          skip
          refine jj_iinc C0 (z := ((j + 1 : Nat) : Int)) (lv' := [(3, .int (iI ((j + 1 : Nat) : Int))), (2, .int (iI (i : Int))), (1, .int (iI x)), (0, .ref (ad 0))]) 0 rfl (by omega) (by decide) rfl dX4_firstFault_83 ?_
          refine jj_goto C0 (tgt := 15) dX4_firstFault_86 (by decide) ?_
          exact ih15 (j + 1, x) ⟨by omega, f_L_more hL (fun c9 o9 hd => by
            rcases hd with hd | ⟨h9, h8⟩
            · exact Or.inl (Or.inl hd)
            · by_cases e : o9 = j
              · subst e; subst h9; exact Or.inr (fun k hf => by first | exact hnq hf.1 | exact hnq hf.2.1)
              · exact Or.inl (Or.inr ⟨h9, by omega⟩))⟩ (by dsimp only; omega)
        · have hq2 : f_q Ov BL AL j := by rcases hu_33 with h | h; exact h.2; omega
          refine jj_aload_n C0 3 rfl dX4_firstFault_39 ?_
          refine jj_iload_n C0 1 rfl dX4_firstFault_40 ?_
          refine jj_iload_n C0 0 rfl dX4_firstFault_41 ?_
          refine jj_callVi C0 (cc_X4_faultOf hEV (c := i) (o := j) (by omega) (by omega) (by first | exact hK | omega) (by first | exact hSt | omega) (by first | exact hEx | omega) (by first | exact hAm | omega) (by first | exact hBi | omega) (by first | exact hAs | omega)) (cwV 2 hw (lw_gV hU_932 hU_934 hU_50 hU_66 hU_935) rfl rfl rfl (by decide +kernel) ⟨Nat.le_of_ble_eq_true rfl, Nat.le_of_ble_eq_true rfl⟩) (ci := 5) (q0 := 0) rfl (rfl) rfl rfl (Nat.le_of_ble_eq_true rfl) ⟨by decide, by decide⟩ rfl rfl dX4_firstFault_42 ?_
          intro u_8 hu
          have hu_42 : f_fo K St Ex Am Bi As i j u_8 := hu
          show jj_W _ _ _ _ _ _ _ _ _ _ _ _ _ _ _ _ _ 45 _ [.int (iI u_8)] (wM ad cI cJ cZ th td pr up dn dv n K St Ex Am Ov Bi As BL AL He Co Ca mo sh co sd Cz Ab be ++ E)
          have hub := f_fo_in hu_42
          refine jj_istore C0 (lv' := [(4, .int (iI u_8)), (3, .int (iI (j : Int))), (2, .int (iI (i : Int))), (1, .int (iI x)), (0, .ref (ad 0))]) (by decide) rfl dX4_firstFault_45 ?_
          refine jj_iload C0 0 rfl dX4_firstFault_47 ?_
          refine jj_iconst C0 dX4_firstFault_49 ?_
          refine jj_icmp_le C0 (by omega) (by omega) dX4_firstFault_50 (tgt := 66) (by decide) (fun c_9 => ?_) (fun c_9 => ?_)
          · refine jj_iload C0 0 rfl dX4_firstFault_66 ?_
            have hv := f_v1 (n := n) hq1 hq2 hu_42 (by first | exact Or.inl (by omega) | exact Or.inr (by rcases hu_56 with h | h; omega; exact h.2))
            refine jj_istore C0 (lv' := [(4, .int (iI u_8)), (3, .int (iI (j : Int))), (2, .int (iI (i : Int))), (1, .int (iI x)), (0, .ref (ad 0))]) (by decide) rfl dX4_firstFault_68 ?_
            refine jj_iload C0 0 rfl dX4_firstFault_70 ?_
            refine jj_iload_n C0 3 rfl dX4_firstFault_72 ?_
            refine jj_icmp_ge C0 (by omega) (by omega) dX4_firstFault_73 (tgt := 81) (by decide) (fun c_10 => ?_) (fun c_10 => ?_)
            · refine jj_iload_n C0 3 rfl dX4_firstFault_81 ?_
              refine jj_istore_n C0 (i := 1) rfl (lv' := [(1, .int (iI x)), (4, .int (iI u_8)), (3, .int (iI (j : Int))), (2, .int (iI (i : Int))), (0, .ref (ad 0))]) (by decide) rfl dX4_firstFault_82 ?_
              skip
              refine jj_iinc C0 (z := ((j + 1 : Nat) : Int)) (lv' := [(3, .int (iI ((j + 1 : Nat) : Int))), (1, .int (iI x)), (4, .int (iI u_8)), (2, .int (iI (i : Int))), (0, .ref (ad 0))]) 2 rfl (by omega) (by decide) rfl dX4_firstFault_83 ?_
              refine jj_goto C0 (tgt := 15) dX4_firstFault_86 (by decide) ?_
              refine jj_lv [0, 3, 1, 4] rfl ?_
              exact ih15 (j + 1, x) ⟨by omega, f_L_put hL (by omega) (by omega) hv (by omega) (fun c9 o9 hd => by omega)⟩ (by dsimp only; omega)
            · refine jj_iload C0 0 rfl dX4_firstFault_76 ?_
              refine jj_goto C0 (tgt := 82) dX4_firstFault_78 (by decide) ?_
              refine jj_istore_n C0 (i := 1) rfl (lv' := [(1, .int (iI u_8)), (4, .int (iI u_8)), (3, .int (iI (j : Int))), (2, .int (iI (i : Int))), (0, .ref (ad 0))]) (by decide) rfl dX4_firstFault_82 ?_
              skip
              refine jj_iinc C0 (z := ((j + 1 : Nat) : Int)) (lv' := [(3, .int (iI ((j + 1 : Nat) : Int))), (1, .int (iI u_8)), (4, .int (iI u_8)), (2, .int (iI (i : Int))), (0, .ref (ad 0))]) 2 rfl (by omega) (by decide) rfl dX4_firstFault_83 ?_
              refine jj_goto C0 (tgt := 15) dX4_firstFault_86 (by decide) ?_
              refine jj_lv [0, 3, 1, 4] rfl ?_
              exact ih15 (j + 1, u_8) ⟨by omega, f_L_put hL (by omega) (by omega) hv (by omega) (fun c9 o9 hd => by omega)⟩ (by dsimp only; omega)
          · refine jj_aload_n C0 4 rfl dX4_firstFault_53 ?_
            refine jj_iload_n C0 2 rfl dX4_firstFault_54 ?_
            refine jj_iload_n C0 1 rfl dX4_firstFault_55 ?_
            refine jj_callVi C0 (cc_X4_isMiddle hEV (c := i) (o := j) (by omega) (by omega) (by first | exact hn | omega) (by first | exact hK | omega) (by first | exact hSt | omega) (by first | exact hEx | omega) (by first | exact hAm | omega) (by first | exact hOv | omega) (by first | exact hBi | omega) (by first | exact hAs | omega) (by first | exact hBL | omega) (by first | exact hAL | omega)) (cwV 2 hw (lw_gV hU_940 hU_942 hU_52 hU_66 hU_943) rfl rfl rfl (by decide +kernel) ⟨Nat.le_of_ble_eq_true rfl, Nat.le_of_ble_eq_true rfl⟩) (ci := 5) (q0 := 0) rfl (rfl) rfl rfl (Nat.le_of_ble_eq_true rfl) ⟨by decide, by decide⟩ rfl rfl dX4_firstFault_56 ?_
            intro u_11 hu
            have hu_56 : (u_11 = 1 ∧ ∃ p, p < n ∧ f_M K St Ex Am Ov Bi As BL AL i j p) ∨ (u_11 = 0 ∧ ∀ p, p < n → ¬ f_M K St Ex Am Ov Bi As BL AL i j p) := hu
            show jj_W _ _ _ _ _ _ _ _ _ _ _ _ _ _ _ _ _ 59 _ [.int (iI u_11)] (wM ad cI cJ cZ th td pr up dn dv n K St Ex Am Ov Bi As BL AL He Co Ca mo sh co sd Cz Ab be ++ E)
            refine jj_if_eq C0 (by omega) dX4_firstFault_59 (tgt := 66) (by decide) (fun c_12 => ?_) (fun c_12 => ?_)
            · refine jj_iload C0 0 rfl dX4_firstFault_66 ?_
              have hv := f_v1 (n := n) hq1 hq2 hu_42 (by first | exact Or.inl (by omega) | exact Or.inr (by rcases hu_56 with h | h; omega; exact h.2))
              refine jj_istore C0 (lv' := [(4, .int (iI u_8)), (3, .int (iI (j : Int))), (2, .int (iI (i : Int))), (1, .int (iI x)), (0, .ref (ad 0))]) (by decide) rfl dX4_firstFault_68 ?_
              refine jj_iload C0 0 rfl dX4_firstFault_70 ?_
              refine jj_iload_n C0 3 rfl dX4_firstFault_72 ?_
              refine jj_icmp_ge C0 (by omega) (by omega) dX4_firstFault_73 (tgt := 81) (by decide) (fun c_13 => ?_) (fun c_13 => ?_)
              · refine jj_iload_n C0 3 rfl dX4_firstFault_81 ?_
                refine jj_istore_n C0 (i := 1) rfl (lv' := [(1, .int (iI x)), (4, .int (iI u_8)), (3, .int (iI (j : Int))), (2, .int (iI (i : Int))), (0, .ref (ad 0))]) (by decide) rfl dX4_firstFault_82 ?_
                skip
                refine jj_iinc C0 (z := ((j + 1 : Nat) : Int)) (lv' := [(3, .int (iI ((j + 1 : Nat) : Int))), (1, .int (iI x)), (4, .int (iI u_8)), (2, .int (iI (i : Int))), (0, .ref (ad 0))]) 2 rfl (by omega) (by decide) rfl dX4_firstFault_83 ?_
                refine jj_goto C0 (tgt := 15) dX4_firstFault_86 (by decide) ?_
                refine jj_lv [0, 3, 1, 4] rfl ?_
                exact ih15 (j + 1, x) ⟨by omega, f_L_put hL (by omega) (by omega) hv (by omega) (fun c9 o9 hd => by omega)⟩ (by dsimp only; omega)
              · refine jj_iload C0 0 rfl dX4_firstFault_76 ?_
                refine jj_goto C0 (tgt := 82) dX4_firstFault_78 (by decide) ?_
                refine jj_istore_n C0 (i := 1) rfl (lv' := [(1, .int (iI u_8)), (4, .int (iI u_8)), (3, .int (iI (j : Int))), (2, .int (iI (i : Int))), (0, .ref (ad 0))]) (by decide) rfl dX4_firstFault_82 ?_
                skip
                refine jj_iinc C0 (z := ((j + 1 : Nat) : Int)) (lv' := [(3, .int (iI ((j + 1 : Nat) : Int))), (1, .int (iI u_8)), (4, .int (iI u_8)), (2, .int (iI (i : Int))), (0, .ref (ad 0))]) 2 rfl (by omega) (by decide) rfl dX4_firstFault_83 ?_
                refine jj_goto C0 (tgt := 15) dX4_firstFault_86 (by decide) ?_
                refine jj_lv [0, 3, 1, 4] rfl ?_
                exact ih15 (j + 1, u_8) ⟨by omega, f_L_put hL (by omega) (by omega) hv (by omega) (fun c9 o9 hd => by omega)⟩ (by dsimp only; omega)
            · refine jj_iconst C0 dX4_firstFault_62 ?_
              refine jj_goto C0 (tgt := 68) dX4_firstFault_63 (by decide) ?_
              have hv := f_v3 hq1 hq2 hu_42 (by omega) (show ∃ p, p < n ∧ f_M K St Ex Am Ov Bi As BL AL i j p from by rcases hu_56 with h | h; exact h.2; omega)
              refine jj_istore C0 (lv' := [(4, .int (iI 3)), (3, .int (iI (j : Int))), (2, .int (iI (i : Int))), (1, .int (iI x)), (0, .ref (ad 0))]) (by decide) rfl dX4_firstFault_68 ?_
              refine jj_iload C0 0 rfl dX4_firstFault_70 ?_
              refine jj_iload_n C0 3 rfl dX4_firstFault_72 ?_
              refine jj_icmp_ge C0 (by omega) (by omega) dX4_firstFault_73 (tgt := 81) (by decide) (fun c_14 => ?_) (fun c_14 => ?_)
              · refine jj_iload_n C0 3 rfl dX4_firstFault_81 ?_
                refine jj_istore_n C0 (i := 1) rfl (lv' := [(1, .int (iI x)), (4, .int (iI 3)), (3, .int (iI (j : Int))), (2, .int (iI (i : Int))), (0, .ref (ad 0))]) (by decide) rfl dX4_firstFault_82 ?_
                skip
                refine jj_iinc C0 (z := ((j + 1 : Nat) : Int)) (lv' := [(3, .int (iI ((j + 1 : Nat) : Int))), (1, .int (iI x)), (4, .int (iI 3)), (2, .int (iI (i : Int))), (0, .ref (ad 0))]) 2 rfl (by omega) (by decide) rfl dX4_firstFault_83 ?_
                refine jj_goto C0 (tgt := 15) dX4_firstFault_86 (by decide) ?_
                refine jj_lv [0, 3, 1, 4] rfl ?_
                exact ih15 (j + 1, x) ⟨by omega, f_L_put hL (by omega) (by omega) hv (by omega) (fun c9 o9 hd => by omega)⟩ (by dsimp only; omega)
              · refine jj_iload C0 0 rfl dX4_firstFault_76 ?_
                refine jj_goto C0 (tgt := 82) dX4_firstFault_78 (by decide) ?_
                refine jj_istore_n C0 (i := 1) rfl (lv' := [(1, .int (iI 3)), (4, .int (iI 3)), (3, .int (iI (j : Int))), (2, .int (iI (i : Int))), (0, .ref (ad 0))]) (by decide) rfl dX4_firstFault_82 ?_
                skip
                refine jj_iinc C0 (z := ((j + 1 : Nat) : Int)) (lv' := [(3, .int (iI ((j + 1 : Nat) : Int))), (1, .int (iI 3)), (4, .int (iI 3)), (2, .int (iI (i : Int))), (0, .ref (ad 0))]) 2 rfl (by omega) (by decide) rfl dX4_firstFault_83 ?_
                refine jj_goto C0 (tgt := 15) dX4_firstFault_86 (by decide) ?_
                refine jj_lv [0, 3, 1, 4] rfl ?_
                exact ih15 (j + 1, 3) ⟨by omega, f_L_put hL (by omega) (by omega) hv (by omega) (fun c9 o9 hd => by omega)⟩ (by dsimp only; omega)
end MM4
