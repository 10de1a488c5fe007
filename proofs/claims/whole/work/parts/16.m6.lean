section MM6
variable {EV : (Nat → Prop) → State → Heap → Prop} {l : Launch} {dC : Nat → ClassId} {dI : Nat → Nat → Nat} {cI cJ cZ cO : ClassId} {E : va_W} {ad : Nat → Nat} {ws : va_W} {th : Int} {td : Nat} {pr up dn : Int} {dv : Nat → Int} {n : Nat} {K St Ex Am Ov Bi As BL AL He Co Ca : Nat → Int} {mo sh co sd : Int} {Cz Ab : Nat → Int} {be : Int}
set_option maxHeartbeats 4000000 in
set_option maxRecDepth 100000 in
theorem cc_X4_owed (hEV : jj_EV EV) {c : Nat} (hc : c < 12) (hHe : ∀ j, -1000000 ≤ He j ∧ He j ≤ 1000000) : jj_Mi EV (dC, dI) vwCl [(cI, .int), (cJ, .long), (cZ, .boolean), (cO, .object "java/lang/Object")] l yX4_owed (Cond.code yX4_owed cX4_owed 5 (some .int) :: lw_U) ({ frames := 0, cells := 0, slots := 0, locals := 0 } : Room) [.ref (ad 0), .int (iI (c : Int))] (wM ad cI cJ cZ th td pr up dn dv n K St Ex Am Ov Bi As BL AL He Co Ca mo sh co sd Cz Ab be ++ E) (S := Unit) (fun _ => (f_ow He c 7)) (fun _ => True) (fun _ => wM ad cI cJ cZ th td pr up dn dv n K St Ex Am Ov Bi As BL AL He Co Ca mo sh co sd Cz Ab be ++ E) := by
  refine jj_start (cc := cX4_owed) (nL := 5) (ret := (some .int)) (lv := [(0, .ref (ad 0)), (1, .int (iI (c : Int)))]) (fun A => jj_Qi _ _ _ _ _ _ A) hEV (by decide) rfl (Nat.le_of_ble_eq_true rfl) rfl ?_
  intro p9 e9 s9 m9 a9 b9 me9 c9 A9 C1 hr hin
  have C0 : jj_C p9 s9 m9 a9 me9 c9 (dC, dI) vwCl A9 5 cX4_owed "StrikehallModel" lw_U _ EV := jj_toU C1
  have hw := C0.2.2.2.2.1
  refine jj_iconst C0 dX4_owed_0 ?_
  refine jj_topi (b := (f_ow He c 0)) (rfl) ?_
  refine jj_istore_n C0 (i := 2) rfl (lv' := [(2, .int (iI (f_ow He c 0))), (0, .ref (ad 0)), (1, .int (iI (c : Int)))]) (by decide) rfl dX4_owed_1 ?_
  refine jj_iconst C0 dX4_owed_2 ?_
  refine jj_istore_n C0 (i := 3) rfl (lv' := [(3, .int (iI 0)), (2, .int (iI (f_ow He c 0))), (0, .ref (ad 0)), (1, .int (iI (c : Int)))]) (by decide) rfl dX4_owed_3 ?_
  refine jj_ind (X := Nat) (fun q9 => match q9 with | h => (8 - h : Nat)) (fun q9 => match q9 with | h => [(3, .int (iI (h : Int))), (2, .int (iI (f_ow He c h))), (0, .ref (ad 0)), (1, .int (iI (c : Int)))]) (fun q9 => match q9 with | h => []) (fun q9 => match q9 with | h => wM ad cI cJ cZ th td pr up dn dv n K St Ex Am Ov Bi As BL AL He Co Ca mo sh co sd Cz Ab be ++ E) (fun q9 => match q9 with | h => h ≤ 7) ?_ 0 (Nat.zero_le _)
  intro q9 hq9 ih4
  obtain ⟨h, rfl⟩ : ∃ z, z = q9 := ⟨_, rfl⟩
  have hh : h ≤ 7 := hq9
  show jj_W _ _ _ _ _ _ _ _ _ _ _ _ _ _ _ _ _ 4 [(3, .int (iI (h : Int))), (2, .int (iI (f_ow He c h))), (0, .ref (ad 0)), (1, .int (iI (c : Int)))] [] (wM ad cI cJ cZ th td pr up dn dv n K St Ex Am Ov Bi As BL AL He Co Ca mo sh co sd Cz Ab be ++ E)
  refine jj_iload_n C0 0 rfl dX4_owed_4 ?_
  refine jj_bipush C0 dX4_owed_5 (by decide) ?_
  refine jj_icmp_ge C0 (by omega) (by omega) dX4_owed_7 (tgt := 43) (by decide) (fun c_1 => ?_) (fun c_1 => ?_)
  · obtain rfl : h = 7 := by omega
    refine jj_iload_n C0 1 rfl dX4_owed_43 ?_
    exact jj_iret C0 hr () (trivial) (rfl) (rfl) (by decide) (by decide) dX4_owed_44
  · refine jj_aload_n C0 2 rfl dX4_owed_10 ?_
    refine jj_get C0 (ci := 5) (v := .ref (ad 11)) hin_X4 (0) (rfl) rfl 16 (by decide) (hw _ hU_802) (fun _ h9 => h9) rfl dX4_owed_11 ?_
    refine jj_bipush C0 dX4_owed_14 (by decide) ?_
    refine jj_iload_n C0 3 rfl dX4_owed_16 ?_
    refine jj_imul C0 dX4_owed_17 ?_
    refine jj_iload_n C0 0 rfl dX4_owed_18 ?_
    refine jj_iadd C0 dX4_owed_19 ?_
    refine jj_iald C0 (q0 := 11) (t0 := 0) (f := He) (rfl) rfl (k := ((7 * c) + h)) (by omega) (by omega) (by decide) dX4_owed_20 ?_
    have hb_He_50005 := hHe ((7 * c) + h)
    refine jj_istore C0 (lv' := [(4, .int (iI (He ((7 * c) + h)))), (3, .int (iI (h : Int))), (2, .int (iI (f_ow He c h))), (0, .ref (ad 0)), (1, .int (iI (c : Int)))]) (by decide) rfl dX4_owed_21 ?_
    refine jj_iload_n C0 2 rfl dX4_owed_23 ?_
    refine jj_iload C0 0 rfl dX4_owed_24 ?_
    refine jj_if_ge C0 (by omega) dX4_owed_26 (tgt := 34) (by decide) (fun c_2 => ?_) (fun c_2 => ?_)
    · refine jj_iconst C0 dX4_owed_34 ?_
      refine jj_isub C0 dX4_owed_35 ?_
      refine jj_topi (b := (f_ow He c (h + 1))) (by simp only [f_ow]; first | (rw [if_pos (by omega)]; omega) | (rw [if_neg (by omega)]; omega)) ?_
      refine jj_istore_n C0 (i := 2) rfl (lv' := [(2, .int (iI (f_ow He c (h + 1)))), (4, .int (iI (He ((7 * c) + h)))), (3, .int (iI (h : Int))), (0, .ref (ad 0)), (1, .int (iI (c : Int)))]) (by decide) rfl dX4_owed_36 ?_
      refine jj_iinc C0 (z := ((h + 1 : Nat) : Int)) (lv' := [(3, .int (iI ((h + 1 : Nat) : Int))), (2, .int (iI (f_ow He c (h + 1)))), (4, .int (iI (He ((7 * c) + h)))), (0, .ref (ad 0)), (1, .int (iI (c : Int)))]) 2 rfl (by omega) (by decide) rfl dX4_owed_37 ?_
      refine jj_goto C0 (tgt := 4) dX4_owed_40 (by decide) ?_
      refine jj_lv [0, 1, 3, 4] rfl ?_
      exact ih4 (h + 1) (by omega) (by dsimp only; omega)
    · refine jj_iload C0 0 rfl dX4_owed_29 ?_
      refine jj_goto C0 (tgt := 35) dX4_owed_31 (by decide) ?_
      refine jj_isub C0 dX4_owed_35 ?_
      refine jj_topi (b := (f_ow He c (h + 1))) (by simp only [f_ow]; first | (rw [if_pos (by omega)]; omega) | (rw [if_neg (by omega)]; omega)) ?_
      refine jj_istore_n C0 (i := 2) rfl (lv' := [(2, .int (iI (f_ow He c (h + 1)))), (4, .int (iI (He ((7 * c) + h)))), (3, .int (iI (h : Int))), (0, .ref (ad 0)), (1, .int (iI (c : Int)))]) (by decide) rfl dX4_owed_36 ?_
      refine jj_iinc C0 (z := ((h + 1 : Nat) : Int)) (lv' := [(3, .int (iI ((h + 1 : Nat) : Int))), (2, .int (iI (f_ow He c (h + 1)))), (4, .int (iI (He ((7 * c) + h)))), (0, .ref (ad 0)), (1, .int (iI (c : Int)))]) 2 rfl (by omega) (by decide) rfl dX4_owed_37 ?_
      refine jj_goto C0 (tgt := 4) dX4_owed_40 (by decide) ?_
      refine jj_lv [0, 1, 3, 4] rfl ?_
      exact ih4 (h + 1) (by omega) (by dsimp only; omega)
set_option maxHeartbeats 4000000 in
set_option maxRecDepth 100000 in
theorem cc_X4_draw (hEV : jj_EV EV) {w : Int} (hw1 : 1 ≤ w ∧ w ≤ 7000000) (hsd : 0 ≤ sd ∧ sd ≤ 2147483647) : jj_Mi EV (dC, dI) vwCl [(cI, .int), (cJ, .long), (cZ, .boolean), (cO, .object "java/lang/Object")] l yX4_draw (Cond.code yX4_draw cX4_draw 2 (some .int) :: lw_U) ({ frames := 0, cells := 0, slots := 0, locals := 0 } : Room) [.ref (ad 0), .int (iI w)] (wM ad cI cJ cZ th td pr up dn dv n K St Ex Am Ov Bi As BL AL He Co Ca mo sh co sd Cz Ab be ++ E) (S := Unit) (fun _ => (f_sd sd / 65536 % w)) (fun _ => True) (fun _ => wM ad cI cJ cZ th td pr up dn dv n K St Ex Am Ov Bi As BL AL He Co Ca mo sh co (f_sd sd) Cz Ab be ++ E) := by
  refine jj_start (cc := cX4_draw) (nL := 2) (ret := (some .int)) (lv := [(0, .ref (ad 0)), (1, .int (iI w))]) (fun A => jj_Qi _ _ _ _ _ _ A) hEV (by decide) rfl (Nat.le_of_ble_eq_true rfl) rfl ?_
  intro p9 e9 s9 m9 a9 b9 me9 c9 A9 C1 hr hin
  have C0 : jj_C p9 s9 m9 a9 me9 c9 (dC, dI) vwCl A9 2 cX4_draw "StrikehallModel" lw_U _ EV := jj_toU C1
  have hw := C0.2.2.2.2.1
  refine jj_aload_n C0 0 rfl dX4_draw_0 ?_
  refine jj_ldc2 C0 (z := 1103515245) (by decide) (hw _ hU_1001) dX4_draw_1 ?_
  refine jj_aload_n C0 0 rfl dX4_draw_4 ?_
  refine jj_get C0 (ci := 5) (v := .long (lI sd)) hin_X4 (0) (rfl) rfl 22 (by decide) (hw _ hU_808) (fun _ h9 => h9) rfl dX4_draw_5 ?_
  refine jj_lmul C0 dX4_draw_8 ?_
  refine jj_ldc2 C0 (z := 12345) (by decide) (hw _ hU_1002) dX4_draw_9 ?_
  refine jj_ladd C0 dX4_draw_12 ?_
  refine jj_ldc2 C0 (z := 2147483648) (by decide) (hw _ hU_1003) dX4_draw_13 ?_
  refine jj_lrem C0 (by omega) (by omega) (by omega) (by omega) dX4_draw_16 ?_
  refine jj_topl (b := (f_sd sd)) (rfl) ?_
  refine jj_put C0 (ci := 5) (v := .long (lI (f_sd sd))) (ty := .long) hin_X4 tyX4 tyX4_ok nmX4 (0) (rfl) rfl 22 (by decide) (hw _ hU_808) (fun _ h9 => h9) rfl (by decide +kernel) (rfl) rfl (Nat.le_of_ble_eq_true rfl) (ws' := wM ad cI cJ cZ th td pr up dn dv n K St Ex Am Ov Bi As BL AL He Co Ca mo sh co (f_sd sd) Cz Ab be ++ E) (rfl) dX4_draw_17 ?_
  refine jj_aload_n C0 0 rfl dX4_draw_20 ?_
  refine jj_get C0 (ci := 5) (v := .long (lI (f_sd sd))) hin_X4 (0) (rfl) rfl 22 (by decide) (hw _ hU_808) (fun _ h9 => h9) rfl dX4_draw_21 ?_
  refine jj_ldc2 C0 (z := 65536) (by decide) (hw _ hU_1004) dX4_draw_24 ?_
  have hs1 := f_sd_bd sd
  refine jj_ldiv C0 (by omega) (by omega) (by omega) (by omega) dX4_draw_27 ?_
  refine jj_iload_n C0 1 rfl dX4_draw_28 ?_
  refine jj_i2l C0 (by omega) dX4_draw_29 ?_
  have hs2 : 0 ≤ f_sd sd / 65536 := Int.ediv_nonneg hs1.1 (by omega)
  refine jj_lrem C0 (by omega) (by omega) (by omega) (by omega) dX4_draw_30 ?_
  refine jj_l2i C0 dX4_draw_31 ?_
  exact jj_iret C0 hr () (trivial) (rfl) (rfl) (by decide) (by decide) dX4_draw_32
set_option maxHeartbeats 4000000 in
set_option maxRecDepth 100000 in
theorem cc_X4_exercisesOne (hEV : jj_EV EV) {c k : Nat} {br : Int} (hpos : 1 ≤ f_ow He c 7 ∧ f_ow He c 7 ≤ 7000000) (hk6 : k ≤ 6) (hc : c < 12) (hHe : ∀ j, -1000000 ≤ He j ∧ He j ≤ 1000000) (hsd : 0 ≤ sd ∧ sd ≤ 2147483647) : jj_Mv EV (dC, dI) vwCl [(cI, .int), (cJ, .long), (cZ, .boolean), (cO, .object "java/lang/Object")] l yX4_exercisesOne (Cond.code yX4_exercisesOne cX4_exercisesOne 7 none :: lw_U) ({ frames := 1, cells := 0, slots := 0, locals := 24 } : Room) [.ref (ad 0), .int (iI (k : Int)), .int (iI (c : Int)), .long (lI br)] (wM ad cI cJ cZ th td pr up dn dv n K St Ex Am Ov Bi As BL AL He Co Ca mo sh co sd Cz Ab be ++ E) (S := Unit)  (fun _ => True) (fun _ => wM ad cI cJ cZ th td pr up dn dv n K St Ex Am Ov Bi As BL AL ((f_x1 c k br (He, Ca, sd)).1) Co ((f_x1 c k br (He, Ca, sd)).2.1) mo sh co ((f_x1 c k br (He, Ca, sd)).2.2) Cz Ab be ++ E) := by
  refine jj_start (cc := cX4_exercisesOne) (nL := 7) (ret := none) (lv := [(0, .ref (ad 0)), (1, .int (iI (k : Int))), (2, .int (iI (c : Int))), (3, .long (lI br))]) (fun A => jj_Qv _ _ _ _ _ A) hEV (by decide) rfl (Nat.le_of_ble_eq_true rfl) rfl ?_
  intro p9 e9 s9 m9 a9 b9 me9 c9 A9 C1 hr hin
  have C0 : jj_C p9 s9 m9 a9 me9 c9 (dC, dI) vwCl A9 7 cX4_exercisesOne "StrikehallModel" lw_U _ EV := jj_toU C1
  have hw := C0.2.2.2.2.1
  refine jj_aload_n C0 0 rfl dX4_exercisesOne_0 ?_
  refine jj_aload_n C0 0 rfl dX4_exercisesOne_1 ?_
  refine jj_iload_n C0 2 rfl dX4_exercisesOne_2 ?_
  refine jj_callVi C0 (cc_X4_owed hEV (c := c) (by first | exact hc | omega) (by first | exact hHe | omega)) (cwV 1 hw (lw_gV hU_993 hU_995 hU_56 hU_66 hU_996) rfl rfl rfl (by decide +kernel) ⟨Nat.le_of_ble_eq_true rfl, Nat.le_of_ble_eq_true rfl⟩) (ci := 5) (q0 := 0) rfl (rfl) rfl rfl (Nat.le_of_ble_eq_true rfl) ⟨by decide, by decide⟩ rfl rfl dX4_exercisesOne_3 ?_
  intro _ hu
  show jj_W _ _ _ _ _ _ _ _ _ _ _ _ _ _ _ _ _ 6 _ [.int (iI (f_ow He c 7)), .ref (ad 0)] (wM ad cI cJ cZ th td pr up dn dv n K St Ex Am Ov Bi As BL AL He Co Ca mo sh co sd Cz Ab be ++ E)
  refine jj_callVi C0 (cc_X4_draw hEV (w := (f_ow He c 7)) (by omega) (by first | exact hsd | omega)) (cwV 1 hw (lw_gV hU_997 hU_999 hU_57 hU_66 hU_1000) rfl rfl rfl (by decide +kernel) ⟨Nat.le_of_ble_eq_true rfl, Nat.le_of_ble_eq_true rfl⟩) (ci := 5) (q0 := 0) rfl (rfl) rfl rfl (Nat.le_of_ble_eq_true rfl) ⟨by decide, by decide⟩ rfl rfl dX4_exercisesOne_6 ?_
  intro _ hu
  show jj_W _ _ _ _ _ _ _ _ _ _ _ _ _ _ _ _ _ 9 _ [.int (iI (f_sd sd / 65536 % (f_ow He c 7)))] (wM ad cI cJ cZ th td pr up dn dv n K St Ex Am Ov Bi As BL AL He Co Ca mo sh co (f_sd sd) Cz Ab be ++ E)
  have hpk := f_pk_bd (He := He) (sd := sd) (c := c) (by omega)
  refine jj_topi (b := (f_pk He sd c - f_ow He c 0)) (by simp only [f_ow, Int.sub_zero]; rfl) ?_
  refine jj_istore C0 (lv' := [(5, .int (iI (f_pk He sd c - f_ow He c 0))), (0, .ref (ad 0)), (1, .int (iI (k : Int))), (2, .int (iI (c : Int))), (3, .long (lI br))]) (by decide) rfl dX4_exercisesOne_9 ?_
  refine jj_iconst C0 dX4_exercisesOne_11 ?_
  refine jj_istore C0 (lv' := [(6, .int (iI 0)), (5, .int (iI (f_pk He sd c - f_ow He c 0))), (0, .ref (ad 0)), (1, .int (iI (k : Int))), (2, .int (iI (c : Int))), (3, .long (lI br))]) (by decide) rfl dX4_exercisesOne_12 ?_
  refine jj_ind (X := Nat) (fun q9 => match q9 with | h => (7 - h : Nat)) (fun q9 => match q9 with | h => [(6, .int (iI (h : Int))), (5, .int (iI (f_pk He sd c - f_ow He c h))), (0, .ref (ad 0)), (1, .int (iI (k : Int))), (2, .int (iI (c : Int))), (3, .long (lI br))]) (fun q9 => match q9 with | h => []) (fun q9 => match q9 with | h => wM ad cI cJ cZ th td pr up dn dv n K St Ex Am Ov Bi As BL AL He Co Ca mo sh co (f_sd sd) Cz Ab be ++ E) (fun q9 => match q9 with | h => h ≤ 6 ∧ f_ow He c h ≤ f_pk He sd c) ?_ 0 ⟨Nat.zero_le _, by simp only [f_ow]; omega⟩
  intro q9 hq9 ih14
  obtain ⟨h, rfl⟩ : ∃ z, z = q9 := ⟨_, rfl⟩
  obtain ⟨hh, hI⟩ : h ≤ 6 ∧ f_ow He c h ≤ f_pk He sd c := hq9
  have hh1 := hHe (7 * c + h)
  have ho : (He (7 * c + h) < 0 ∧ f_ow He c (h + 1) = f_ow He c h - He (7 * c + h)) ∨ (0 ≤ He (7 * c + h) ∧ f_ow He c (h + 1) = f_ow He c h) := by simp only [f_ow]; split <;> omega
  have hon := f_ow_nn He c h
  have h66 : h ≠ 6 ∨ f_ow He c (h + 1) = f_ow He c 7 := by by_cases e : h = 6; exact Or.inr (by rw [e]); exact Or.inl e
  show jj_W _ _ _ _ _ _ _ _ _ _ _ _ _ _ _ _ _ 14 [(6, .int (iI (h : Int))), (5, .int (iI (f_pk He sd c - f_ow He c h))), (0, .ref (ad 0)), (1, .int (iI (k : Int))), (2, .int (iI (c : Int))), (3, .long (lI br))] [] (wM ad cI cJ cZ th td pr up dn dv n K St Ex Am Ov Bi As BL AL He Co Ca mo sh co (f_sd sd) Cz Ab be ++ E)
  refine jj_aload_n C0 2 rfl dX4_exercisesOne_14 ?_
  refine jj_get C0 (ci := 5) (v := .ref (ad 11)) hin_X4 (0) (rfl) rfl 16 (by decide) (hw _ hU_802) (fun _ h9 => h9) rfl dX4_exercisesOne_15 ?_
  refine jj_bipush C0 dX4_exercisesOne_18 (by decide) ?_
  refine jj_iload_n C0 4 rfl dX4_exercisesOne_20 ?_
  refine jj_imul C0 dX4_exercisesOne_21 ?_
  refine jj_iload C0 0 rfl dX4_exercisesOne_22 ?_
  refine jj_iadd C0 dX4_exercisesOne_24 ?_
  refine jj_iald C0 (q0 := 11) (t0 := 0) (f := He) (rfl) rfl (k := ((7 * c) + h)) (by omega) (by omega) (by decide) dX4_exercisesOne_25 ?_
  have hb_He_50005 := hHe ((7 * c) + h)
  refine jj_if_ge C0 (by omega) dX4_exercisesOne_26 (tgt := 47) (by decide) (fun c_1 => ?_) (fun c_1 => ?_)
  · refine jj_iload C0 1 rfl dX4_exercisesOne_47 ?_
    refine jj_aload_n C0 2 rfl dX4_exercisesOne_49 ?_
    refine jj_get C0 (ci := 5) (v := .ref (ad 11)) hin_X4 (0) (rfl) rfl 16 (by decide) (hw _ hU_802) (fun _ h9 => h9) rfl dX4_exercisesOne_50 ?_
    refine jj_bipush C0 dX4_exercisesOne_53 (by decide) ?_
    refine jj_iload_n C0 4 rfl dX4_exercisesOne_55 ?_
    refine jj_imul C0 dX4_exercisesOne_56 ?_
    refine jj_iload C0 0 rfl dX4_exercisesOne_57 ?_
    refine jj_iadd C0 dX4_exercisesOne_59 ?_
    refine jj_iald C0 (q0 := 11) (t0 := 0) (f := He) (rfl) rfl (k := ((7 * c) + h)) (by omega) (by omega) (by decide) dX4_exercisesOne_60 ?_
    have hb_He_50005 := hHe ((7 * c) + h)
    refine jj_if_ge C0 (by omega) dX4_exercisesOne_61 (tgt := 79) (by decide) (fun c_2 => ?_) (fun c_2 => ?_)
    · refine jj_iconst C0 dX4_exercisesOne_79 ?_
      refine jj_iadd C0 dX4_exercisesOne_80 ?_
      refine jj_topi (b := (f_pk He sd c - f_ow He c (h + 1))) (by omega) ?_
      refine jj_istore C0 (lv' := [(5, .int (iI (f_pk He sd c - f_ow He c (h + 1)))), (6, .int (iI (h : Int))), (0, .ref (ad 0)), (1, .int (iI (k : Int))), (2, .int (iI (c : Int))), (3, .long (lI br))]) (by decide) rfl dX4_exercisesOne_81 ?_
      refine jj_iinc C0 (z := ((h + 1 : Nat) : Int)) (lv' := [(6, .int (iI ((h + 1 : Nat) : Int))), (5, .int (iI (f_pk He sd c - f_ow He c (h + 1)))), (0, .ref (ad 0)), (1, .int (iI (k : Int))), (2, .int (iI (c : Int))), (3, .long (lI br))]) 1 rfl (by omega) (by decide) rfl dX4_exercisesOne_83 ?_
      refine jj_goto C0 (tgt := 14) dX4_exercisesOne_86 (by decide) ?_
      exact ih14 (h + 1) ⟨by omega, by omega⟩ (by dsimp only; omega)
    · refine jj_aload_n C0 2 rfl dX4_exercisesOne_64 ?_
      refine jj_get C0 (ci := 5) (v := .ref (ad 11)) hin_X4 (0) (rfl) rfl 16 (by decide) (hw _ hU_802) (fun _ h9 => h9) rfl dX4_exercisesOne_65 ?_
      refine jj_bipush C0 dX4_exercisesOne_68 (by decide) ?_
      refine jj_iload_n C0 4 rfl dX4_exercisesOne_70 ?_
      refine jj_imul C0 dX4_exercisesOne_71 ?_
      refine jj_iload C0 0 rfl dX4_exercisesOne_72 ?_
      refine jj_iadd C0 dX4_exercisesOne_74 ?_
      refine jj_iald C0 (q0 := 11) (t0 := 0) (f := He) (rfl) rfl (k := ((7 * c) + h)) (by omega) (by omega) (by decide) dX4_exercisesOne_75 ?_
      have hb_He_50005 := hHe ((7 * c) + h)
      refine jj_goto C0 (tgt := 80) dX4_exercisesOne_76 (by decide) ?_
      refine jj_iadd C0 dX4_exercisesOne_80 ?_
      refine jj_topi (b := (f_pk He sd c - f_ow He c (h + 1))) (by omega) ?_
      refine jj_istore C0 (lv' := [(5, .int (iI (f_pk He sd c - f_ow He c (h + 1)))), (6, .int (iI (h : Int))), (0, .ref (ad 0)), (1, .int (iI (k : Int))), (2, .int (iI (c : Int))), (3, .long (lI br))]) (by decide) rfl dX4_exercisesOne_81 ?_
      refine jj_iinc C0 (z := ((h + 1 : Nat) : Int)) (lv' := [(6, .int (iI ((h + 1 : Nat) : Int))), (5, .int (iI (f_pk He sd c - f_ow He c (h + 1)))), (0, .ref (ad 0)), (1, .int (iI (k : Int))), (2, .int (iI (c : Int))), (3, .long (lI br))]) 1 rfl (by omega) (by decide) rfl dX4_exercisesOne_83 ?_
      refine jj_goto C0 (tgt := 14) dX4_exercisesOne_86 (by decide) ?_
      exact ih14 (h + 1) ⟨by omega, by omega⟩ (by dsimp only; omega)
  · refine jj_iload C0 1 rfl dX4_exercisesOne_29 ?_
    refine jj_aload_n C0 2 rfl dX4_exercisesOne_31 ?_
    refine jj_get C0 (ci := 5) (v := .ref (ad 11)) hin_X4 (0) (rfl) rfl 16 (by decide) (hw _ hU_802) (fun _ h9 => h9) rfl dX4_exercisesOne_32 ?_
    refine jj_bipush C0 dX4_exercisesOne_35 (by decide) ?_
    refine jj_iload_n C0 4 rfl dX4_exercisesOne_37 ?_
    refine jj_imul C0 dX4_exercisesOne_38 ?_
    refine jj_iload C0 0 rfl dX4_exercisesOne_39 ?_
    refine jj_iadd C0 dX4_exercisesOne_41 ?_
    refine jj_iald C0 (q0 := 11) (t0 := 0) (f := He) (rfl) rfl (k := ((7 * c) + h)) (by omega) (by omega) (by decide) dX4_exercisesOne_42 ?_
    have hb_He_50005 := hHe ((7 * c) + h)
    refine jj_ineg C0 dX4_exercisesOne_43 ?_
    refine jj_icmp_lt C0 (by omega) (by omega) dX4_exercisesOne_44 (tgt := 89) (by decide) (fun c_3 => ?_) (fun c_3 => ?_)
    · have hpy : f_py He c (f_pk He sd c) = h := f_py_eq hh hI (by omega)
      refine jj_aload_n C0 2 rfl dX4_exercisesOne_89 ?_
      refine jj_get C0 (ci := 5) (v := .ref (ad 11)) hin_X4 (0) (rfl) rfl 16 (by decide) (hw _ hU_802) (fun _ h9 => h9) rfl dX4_exercisesOne_90 ?_
      refine jj_bipush C0 dX4_exercisesOne_93 (by decide) ?_
      refine jj_iload_n C0 4 rfl dX4_exercisesOne_95 ?_
      refine jj_imul C0 dX4_exercisesOne_96 ?_
      refine jj_iload C0 0 rfl dX4_exercisesOne_97 ?_
      refine jj_iadd C0 dX4_exercisesOne_99 ?_
      refine jj_dup2_11 C0 dX4_exercisesOne_100 rfl rfl ?_
      refine jj_iald C0 (q0 := 11) (t0 := 0) (f := He) (rfl) rfl (k := ((7 * c) + h)) (by omega) (by omega) (by decide) dX4_exercisesOne_101 ?_
      have hb_He_50005 := hHe ((7 * c) + h)
      refine jj_iconst C0 dX4_exercisesOne_102 ?_
      refine jj_iadd C0 dX4_exercisesOne_103 ?_
      refine jj_iast C0 (q0 := 11) (t0 := 0) (f := He) (rfl) rfl (k := ((7 * c) + h)) (by omega) (by omega) (by decide) (ws' := wM ad cI cJ cZ th td pr up dn dv n K St Ex Am Ov Bi As BL AL (va_up He ((7 * c) + h) ((He ((7 * c) + h)) + 1)) Co Ca mo sh co (f_sd sd) Cz Ab be ++ E) (rfl) dX4_exercisesOne_104 ?_
      refine jj_aload_n C0 2 rfl dX4_exercisesOne_105 ?_
      refine jj_get C0 (ci := 5) (v := .ref (ad 11)) hin_X4 (0) (rfl) rfl 16 (by decide) (hw _ hU_802) (fun _ h9 => h9) rfl dX4_exercisesOne_106 ?_
      refine jj_bipush C0 dX4_exercisesOne_109 (by decide) ?_
      refine jj_iload_n C0 4 rfl dX4_exercisesOne_111 ?_
      refine jj_imul C0 dX4_exercisesOne_112 ?_
      refine jj_iload_n C0 3 rfl dX4_exercisesOne_113 ?_
      refine jj_iadd C0 dX4_exercisesOne_114 ?_
      refine jj_dup2_11 C0 dX4_exercisesOne_115 rfl rfl ?_
      refine jj_iald C0 (q0 := 11) (t0 := 0) (f := va_up He ((7 * c) + h) ((He ((7 * c) + h)) + 1)) (rfl) rfl (k := ((7 * c) + k)) (by omega) (by omega) (by decide) dX4_exercisesOne_116 ?_
      refine jj_iconst C0 dX4_exercisesOne_117 ?_
      refine jj_isub C0 dX4_exercisesOne_118 ?_
      refine jj_iast C0 (q0 := 11) (t0 := 0) (f := va_up He ((7 * c) + h) ((He ((7 * c) + h)) + 1)) (rfl) rfl (k := ((7 * c) + k)) (by omega) (by omega) (by decide) (ws' := wM ad cI cJ cZ th td pr up dn dv n K St Ex Am Ov Bi As BL AL (va_up (va_up He ((7 * c) + h) ((He ((7 * c) + h)) + 1)) ((7 * c) + k) ((va_up He ((7 * c) + h) ((He ((7 * c) + h)) + 1) ((7 * c) + k)) - 1)) Co Ca mo sh co (f_sd sd) Cz Ab be ++ E) (rfl) dX4_exercisesOne_119 ?_
      refine jj_aload_n C0 2 rfl dX4_exercisesOne_120 ?_
      refine jj_get C0 (ci := 5) (v := .ref (ad 13)) hin_X4 (0) (rfl) rfl 18 (by decide) (hw _ hU_804) (fun _ h9 => h9) rfl dX4_exercisesOne_121 ?_
      refine jj_iload C0 0 rfl dX4_exercisesOne_124 ?_
      refine jj_dup2_11 C0 dX4_exercisesOne_126 rfl rfl ?_
      refine jj_lald C0 (q0 := 13) (t0 := 1) (f := Ca) (rfl) rfl (k := h) (by omega) (by omega) (by decide) dX4_exercisesOne_127 ?_
      refine jj_ldc2 C0 (z := 1000) (by decide) (hw _ hU_881) dX4_exercisesOne_128 ?_
      refine jj_lload_n C0 5 rfl dX4_exercisesOne_131 ?_
      refine jj_lmul C0 dX4_exercisesOne_132 ?_
      refine jj_lsub C0 dX4_exercisesOne_133 ?_
      refine jj_last C0 (q0 := 13) (t0 := 1) (f := Ca) (rfl) rfl (k := h) (by omega) (by omega) (by decide) (ws' := wM ad cI cJ cZ th td pr up dn dv n K St Ex Am Ov Bi As BL AL (va_up (va_up He ((7 * c) + h) ((He ((7 * c) + h)) + 1)) ((7 * c) + k) ((va_up He ((7 * c) + h) ((He ((7 * c) + h)) + 1) ((7 * c) + k)) - 1)) Co (va_up Ca h ((Ca h) - (1000 * br))) mo sh co (f_sd sd) Cz Ab be ++ E) (rfl) dX4_exercisesOne_134 ?_
      refine jj_aload_n C0 2 rfl dX4_exercisesOne_135 ?_
      refine jj_get C0 (ci := 5) (v := .ref (ad 13)) hin_X4 (0) (rfl) rfl 18 (by decide) (hw _ hU_804) (fun _ h9 => h9) rfl dX4_exercisesOne_136 ?_
      refine jj_iload_n C0 3 rfl dX4_exercisesOne_139 ?_
      refine jj_dup2_11 C0 dX4_exercisesOne_140 rfl rfl ?_
      refine jj_lald C0 (q0 := 13) (t0 := 1) (f := va_up Ca h ((Ca h) - (1000 * br))) (rfl) rfl (k := k) (by omega) (by omega) (by decide) dX4_exercisesOne_141 ?_
      refine jj_ldc2 C0 (z := 1000) (by decide) (hw _ hU_881) dX4_exercisesOne_142 ?_
      refine jj_lload_n C0 5 rfl dX4_exercisesOne_145 ?_
      refine jj_lmul C0 dX4_exercisesOne_146 ?_
      refine jj_ladd C0 dX4_exercisesOne_147 ?_
      refine jj_last C0 (q0 := 13) (t0 := 1) (f := va_up Ca h ((Ca h) - (1000 * br))) (rfl) rfl (k := k) (by omega) (by omega) (by decide) (ws' := wM ad cI cJ cZ th td pr up dn dv n K St Ex Am Ov Bi As BL AL (va_up (va_up He ((7 * c) + h) ((He ((7 * c) + h)) + 1)) ((7 * c) + k) ((va_up He ((7 * c) + h) ((He ((7 * c) + h)) + 1) ((7 * c) + k)) - 1)) Co (va_up (va_up Ca h ((Ca h) - (1000 * br))) k ((va_up Ca h ((Ca h) - (1000 * br)) k) + (1000 * br))) mo sh co (f_sd sd) Cz Ab be ++ E) (rfl) dX4_exercisesOne_148 ?_
      exact jj_vret C0 hr () (trivial) (by simp only [f_x1, hpy]; rfl) (by decide) (by decide) dX4_exercisesOne_149
    · refine jj_iload C0 1 rfl dX4_exercisesOne_47 ?_
      refine jj_aload_n C0 2 rfl dX4_exercisesOne_49 ?_
      refine jj_get C0 (ci := 5) (v := .ref (ad 11)) hin_X4 (0) (rfl) rfl 16 (by decide) (hw _ hU_802) (fun _ h9 => h9) rfl dX4_exercisesOne_50 ?_
      refine jj_bipush C0 dX4_exercisesOne_53 (by decide) ?_
      refine jj_iload_n C0 4 rfl dX4_exercisesOne_55 ?_
      refine jj_imul C0 dX4_exercisesOne_56 ?_
      refine jj_iload C0 0 rfl dX4_exercisesOne_57 ?_
      refine jj_iadd C0 dX4_exercisesOne_59 ?_
      refine jj_iald C0 (q0 := 11) (t0 := 0) (f := He) (rfl) rfl (k := ((7 * c) + h)) (by omega) (by omega) (by decide) dX4_exercisesOne_60 ?_
      have hb_He_50005 := hHe ((7 * c) + h)
      refine jj_if_ge C0 (by omega) dX4_exercisesOne_61 (tgt := 79) (by decide) (fun c_4 => ?_) (fun c_4 => ?_)
      · refine jj_iconst C0 dX4_exercisesOne_79 ?_
        refine jj_iadd C0 dX4_exercisesOne_80 ?_
        refine jj_topi (b := (f_pk He sd c - f_ow He c (h + 1))) (by omega) ?_
        refine jj_istore C0 (lv' := [(5, .int (iI (f_pk He sd c - f_ow He c (h + 1)))), (6, .int (iI (h : Int))), (0, .ref (ad 0)), (1, .int (iI (k : Int))), (2, .int (iI (c : Int))), (3, .long (lI br))]) (by decide) rfl dX4_exercisesOne_81 ?_
        refine jj_iinc C0 (z := ((h + 1 : Nat) : Int)) (lv' := [(6, .int (iI ((h + 1 : Nat) : Int))), (5, .int (iI (f_pk He sd c - f_ow He c (h + 1)))), (0, .ref (ad 0)), (1, .int (iI (k : Int))), (2, .int (iI (c : Int))), (3, .long (lI br))]) 1 rfl (by omega) (by decide) rfl dX4_exercisesOne_83 ?_
        refine jj_goto C0 (tgt := 14) dX4_exercisesOne_86 (by decide) ?_
        exact ih14 (h + 1) ⟨by omega, by omega⟩ (by dsimp only; omega)
      · refine jj_aload_n C0 2 rfl dX4_exercisesOne_64 ?_
        refine jj_get C0 (ci := 5) (v := .ref (ad 11)) hin_X4 (0) (rfl) rfl 16 (by decide) (hw _ hU_802) (fun _ h9 => h9) rfl dX4_exercisesOne_65 ?_
        refine jj_bipush C0 dX4_exercisesOne_68 (by decide) ?_
        refine jj_iload_n C0 4 rfl dX4_exercisesOne_70 ?_
        refine jj_imul C0 dX4_exercisesOne_71 ?_
        refine jj_iload C0 0 rfl dX4_exercisesOne_72 ?_
        refine jj_iadd C0 dX4_exercisesOne_74 ?_
        refine jj_iald C0 (q0 := 11) (t0 := 0) (f := He) (rfl) rfl (k := ((7 * c) + h)) (by omega) (by omega) (by decide) dX4_exercisesOne_75 ?_
        have hb_He_50005 := hHe ((7 * c) + h)
        refine jj_goto C0 (tgt := 80) dX4_exercisesOne_76 (by decide) ?_
        refine jj_iadd C0 dX4_exercisesOne_80 ?_
        refine jj_topi (b := (f_pk He sd c - f_ow He c (h + 1))) (by omega) ?_
        refine jj_istore C0 (lv' := [(5, .int (iI (f_pk He sd c - f_ow He c (h + 1)))), (6, .int (iI (h : Int))), (0, .ref (ad 0)), (1, .int (iI (k : Int))), (2, .int (iI (c : Int))), (3, .long (lI br))]) (by decide) rfl dX4_exercisesOne_81 ?_
        refine jj_iinc C0 (z := ((h + 1 : Nat) : Int)) (lv' := [(6, .int (iI ((h + 1 : Nat) : Int))), (5, .int (iI (f_pk He sd c - f_ow He c (h + 1)))), (0, .ref (ad 0)), (1, .int (iI (k : Int))), (2, .int (iI (c : Int))), (3, .long (lI br))]) 1 rfl (by omega) (by decide) rfl dX4_exercisesOne_83 ?_
        refine jj_goto C0 (tgt := 14) dX4_exercisesOne_86 (by decide) ?_
        exact ih14 (h + 1) ⟨by omega, by omega⟩ (by dsimp only; omega)
set_option maxHeartbeats 4000000 in
set_option maxRecDepth 100000 in
theorem cc_X4_exercise (hEV : jj_EV EV) {c k L : Nat} {z : Int} (hzk : (z = -1 ∧ k = 6) ∨ (z = (k : Int) ∧ k ≤ 5)) (hL : 1 ≤ L ∧ L ≤ 1000) (hHL : (L : Int) ≤ He (7 * c + k)) (hov : Ov c = 0) (ham : Am c ≠ 0 ∨ Ex c = (td : Int)) (hcn : c < n) (hsum : f_s7 He c 7 = 0) (hsd : 0 ≤ sd ∧ sd ≤ 2147483647) (hovs : ∀ c, c < n → (Ov c = 1 ∧ Ex c < (td : Int)) ∨ (Ov c = 0 ∧ (td : Int) ≤ Ex c)) (hexs : ∀ c, c < n → Ex c ≤ (td : Int) + 10 ∧ Ex c ≤ 200) (hn : n ≤ 12) (htd : td ≤ 200) (hpr : 0 ≤ pr ∧ pr ≤ 20000) (hup : 1 ≤ up ∧ up ≤ 10) (hdn : 1 ≤ dn ∧ dn ≤ 10) (hdv : ∀ j, 0 ≤ dv j ∧ dv j ≤ 1000) (hK : ∀ j, 0 ≤ K j ∧ K j ≤ 1) (hSt : ∀ j, 0 ≤ St j ∧ St j ≤ 20000) (hEx : ∀ j, 0 ≤ Ex j ∧ Ex j ≤ 200) (hAm : ∀ j, 0 ≤ Am j ∧ Am j ≤ 1) (hOv : ∀ j, 0 ≤ Ov j ∧ Ov j ≤ 1) (hHe : ∀ j, -1000000 ≤ He j ∧ He j ≤ 1000000) (hsh : -100000 ≤ sh ∧ sh ≤ 100000) : jj_Mi EV (dC, dI) vwCl [(cI, .int), (cJ, .long), (cZ, .boolean), (cO, .object "java/lang/Object")] l yX4_exercise (Cond.code yX4_exercise cX4_exercise 9 (some .int) :: lw_U) ({ frames := 4, cells := 0, slots := 0, locals := 102 } : Room) [.ref (ad 0), .int (iI z), .int (iI (c : Int)), .int (iI (L : Int))] (wM ad cI cJ cZ th td pr up dn dv n K St Ex Am Ov Bi As BL AL He Co Ca mo sh co sd Cz Ab be ++ E) (S := (Nat → Int) × Int) (fun ⟨ab, b⟩ => (f_pays (K c) (St c) pr)) (fun ⟨ab, b⟩ => True) (fun ⟨ab, b⟩ => wM ad cI cJ cZ 0 td pr up dn dv n K St Ex Am Ov Bi As BL AL ((f_xN c k (f_pays (K c) (St c) pr) L (He, Ca, sd)).1) Co ((f_xN c k (f_pays (K c) (St c) pr) L (He, Ca, sd)).2.1) mo sh co ((f_xN c k (f_pays (K c) (St c) pr) L (He, Ca, sd)).2.2) (va_up Cz 4 ((Cz 4) + ((f_W up dn dv td n K St Ex Am ((f_xN c k (f_pays (K c) (St c) pr) L (He, Ca, sd)).1) ((f_xN c k (f_pays (K c) (St c) pr) L (He, Ca, sd)).2.1) sh pr) - (f_W up dn dv td n K St Ex Am He Ca sh pr)))) ab b ++ E) := by
  refine jj_start (cc := cX4_exercise) (nL := 9) (ret := (some .int)) (lv := [(0, .ref (ad 0)), (1, .int (iI z)), (2, .int (iI (c : Int))), (3, .int (iI (L : Int)))]) (fun A => jj_Qi _ _ _ _ _ _ A) hEV (by decide) rfl (Nat.le_of_ble_eq_true rfl) rfl ?_
  intro p9 e9 s9 m9 a9 b9 me9 c9 A9 C1 hr hin
  have C0 : jj_C p9 s9 m9 a9 me9 c9 (dC, dI) vwCl A9 9 cX4_exercise "StrikehallModel" lw_U _ EV := jj_toU C1
  have hw := C0.2.2.2.2.1
  have hx0 : f_xI c k (He (7 * c + k)) (He, Ca, sd) := ⟨hHe, hsd, hsum, rfl⟩
  have hk6 : k ≤ 6 := by omega
  have hh1 := hHe (7 * c + k)
  refine jj_aload_n C0 0 rfl dX4_exercise_0 ?_
  refine jj_iload_n C0 1 rfl dX4_exercise_1 ?_
  refine jj_callSi C0 (cc_X4_isHolder1 hEV (z := z) (by omega)) (cwS 1 hw (lw_gS hU_985 hU_986 hU_66 hU_987) rfl rfl rfl (by decide +kernel) ⟨Nat.le_of_ble_eq_true rfl, Nat.le_of_ble_eq_true rfl⟩) rfl rfl (Nat.le_of_ble_eq_true rfl) ⟨by decide, by decide⟩ rfl rfl dX4_exercise_2 ?_
  intro _ hu
  show jj_W _ _ _ _ _ _ _ _ _ _ _ _ _ _ _ _ _ 5 _ [.int (iI 1), .ref (ad 0)] (wM ad cI cJ cZ th td pr up dn dv n K St Ex Am Ov Bi As BL AL He Co Ca mo sh co sd Cz Ab be ++ E)
  refine jj_if_eq C0 (by omega) dX4_exercise_5 (tgt := 16) (by decide) (fun c_1 => absurd c_1 (by omega)) (fun c_1 => ?_)
  refine jj_aload_n C0 0 rfl dX4_exercise_8 ?_
  refine jj_iload_n C0 2 rfl dX4_exercise_9 ?_
  refine jj_callVi C0 (cc_X4_isContract1 hEV (c := c) (by first | exact hcn | omega) (by first | exact hn | omega)) (cwV 1 hw (lw_gV hU_920 hU_922 hU_47 hU_66 hU_923) rfl rfl rfl (by decide +kernel) ⟨Nat.le_of_ble_eq_true rfl, Nat.le_of_ble_eq_true rfl⟩) (ci := 5) (q0 := 0) rfl (rfl) rfl rfl (Nat.le_of_ble_eq_true rfl) ⟨by decide, by decide⟩ rfl rfl dX4_exercise_10 ?_
  intro _ hu
  show jj_W _ _ _ _ _ _ _ _ _ _ _ _ _ _ _ _ _ 13 _ [.int (iI 1), .ref (ad 0)] (wM ad cI cJ cZ th td pr up dn dv n K St Ex Am Ov Bi As BL AL He Co Ca mo sh co sd Cz Ab be ++ E)
  refine jj_if_ne C0 (by omega) dX4_exercise_13 (tgt := 20) (by decide) (fun c_2 => ?_) (fun c_2 => absurd c_2 (by omega))
  refine jj_iload_n C0 3 rfl dX4_exercise_20 ?_
  refine jj_i2l C0 (by omega) dX4_exercise_21 ?_
  refine jj_lconst C0 (z := 1) (by decide) dX4_exercise_22 ?_
  refine jj_ldc2 C0 (z := 1000) (by decide) (hw _ hU_881) dX4_exercise_23 ?_
  refine jj_callSi C0 (cc_X4_in1 hEV (v := (L : Int)) (lo := 1) (hi := 1000) (by omega) (by omega) (by omega) (by omega)) (cwS 3 hw (lw_gS hU_874 hU_875 hU_66 hU_876) rfl rfl rfl (by decide +kernel) ⟨Nat.le_of_ble_eq_true rfl, Nat.le_of_ble_eq_true rfl⟩) rfl rfl (Nat.le_of_ble_eq_true rfl) ⟨by decide, by decide⟩ rfl rfl dX4_exercise_26 ?_
  intro _ hu
  show jj_W _ _ _ _ _ _ _ _ _ _ _ _ _ _ _ _ _ 29 _ [.int (iI 1), .ref (ad 0)] (wM ad cI cJ cZ th td pr up dn dv n K St Ex Am Ov Bi As BL AL He Co Ca mo sh co sd Cz Ab be ++ E)
  refine jj_if_ne C0 (by omega) dX4_exercise_29 (tgt := 36) (by decide) (fun c_3 => ?_) (fun c_3 => absurd c_3 (by omega))
  refine jj_iconst C0 dX4_exercise_36 ?_
  refine jj_put C0 (ci := 5) (v := .int (iI 0)) (ty := .int) hin_X4 tyX4 tyX4_ok nmX4 (0) (rfl) rfl 0 (by decide) (hw _ hU_786) (fun _ h9 => h9) rfl (by decide +kernel) (rfl) rfl (Nat.le_of_ble_eq_true rfl) (ws' := wM ad cI cJ cZ 0 td pr up dn dv n K St Ex Am Ov Bi As BL AL He Co Ca mo sh co sd Cz Ab be ++ E) (rfl) dX4_exercise_37 ?_
  refine jj_aload_n C0 0 rfl dX4_exercise_40 ?_
  refine jj_get C0 (ci := 5) (v := .int (iI 0)) hin_X4 (0) (rfl) rfl 0 (by decide) (hw _ hU_786) (fun _ h9 => h9) rfl dX4_exercise_41 ?_
  refine jj_if_ne C0 (by omega) dX4_exercise_44 (tgt := 113) (by decide) (fun c_4 => absurd c_4 (by omega)) (fun c_4 => ?_)
  refine jj_aload_n C0 0 rfl dX4_exercise_47 ?_
  refine jj_get C0 (ci := 5) (v := .ref (ad 11)) hin_X4 (0) (rfl) rfl 16 (by decide) (hw _ hU_802) (fun _ h9 => h9) rfl dX4_exercise_48 ?_
  refine jj_iload_n C0 1 rfl dX4_exercise_51 ?_
  refine jj_iload_n C0 2 rfl dX4_exercise_52 ?_
  refine jj_callSi C0 (cc_X4_atz hEV (z := z) (c := c) (k := k) (by first | exact hzk | omega) (by omega)) (cwS 2 hw (lw_gS hU_882 hU_883 hU_66 hU_884) rfl rfl rfl (by decide +kernel) ⟨Nat.le_of_ble_eq_true rfl, Nat.le_of_ble_eq_true rfl⟩) rfl rfl (Nat.le_of_ble_eq_true rfl) ⟨by decide, by decide⟩ rfl rfl dX4_exercise_53 ?_
  intro _ hu
  show jj_W _ _ _ _ _ _ _ _ _ _ _ _ _ _ _ _ _ 56 _ [.int (iI ((7 * c + k : Nat) : Int)), .ref (ad 11)] (wM ad cI cJ cZ 0 td pr up dn dv n K St Ex Am Ov Bi As BL AL He Co Ca mo sh co sd Cz Ab be ++ E)
  refine jj_iald C0 (q0 := 11) (t0 := 0) (f := He) (rfl) rfl (k := (7 * c + k)) (by omega) (by omega) (by decide) dX4_exercise_56 ?_
  have hb_He_48484 := hHe (7 * c + k)
  refine jj_iload_n C0 3 rfl dX4_exercise_57 ?_
  refine jj_icmp_lt C0 (by omega) (by omega) dX4_exercise_58 (tgt := 96) (by decide) (fun c_5 => absurd c_5 (by omega)) (fun c_5 => ?_)
  refine jj_aload_n C0 0 rfl dX4_exercise_61 ?_
  refine jj_get C0 (ci := 5) (v := .ref (ad 6)) hin_X4 (0) (rfl) rfl 11 (by decide) (hw _ hU_797) (fun _ h9 => h9) rfl dX4_exercise_62 ?_
  refine jj_iload_n C0 2 rfl dX4_exercise_65 ?_
  refine jj_zald C0 (q0 := 6) (t0 := 2) (f := Ov) (rfl) rfl (k := c) (by omega) (by omega) (by decide) dX4_exercise_66 ?_
  have hb_Ov_39972 := hOv c
  refine jj_if_ne C0 (by omega) dX4_exercise_67 (tgt := 96) (by decide) (fun c_6 => absurd c_6 (by omega)) (fun c_6 => ?_)
  refine jj_aload_n C0 0 rfl dX4_exercise_70 ?_
  refine jj_get C0 (ci := 5) (v := .ref (ad 5)) hin_X4 (0) (rfl) rfl 10 (by decide) (hw _ hU_796) (fun _ h9 => h9) rfl dX4_exercise_71 ?_
  refine jj_iload_n C0 2 rfl dX4_exercise_74 ?_
  refine jj_zald C0 (q0 := 5) (t0 := 2) (f := Am) (rfl) rfl (k := c) (by omega) (by omega) (by decide) dX4_exercise_75 ?_
  have hb_Am_6591 := hAm c
  refine jj_if_ne C0 (by omega) dX4_exercise_76 (tgt := 92) (by decide) (fun c_7 => ?_) (fun c_7 => ?_)
  · refine jj_iconst C0 dX4_exercise_92 ?_
    refine jj_goto C0 (tgt := 97) dX4_exercise_93 (by decide) ?_
    refine jj_istore C0 (lv' := [(4, .int (iI 1)), (0, .ref (ad 0)), (1, .int (iI z)), (2, .int (iI (c : Int))), (3, .int (iI (L : Int)))]) (by decide) rfl dX4_exercise_97 ?_
    refine jj_aload_n C0 1 rfl dX4_exercise_99 ?_
    refine jj_iload C0 0 rfl dX4_exercise_100 ?_
    refine jj_if_eq C0 (by omega) dX4_exercise_102 (tgt := 109) (by decide) (fun c_8 => absurd c_8 (by omega)) (fun c_8 => ?_)
    refine jj_iconst C0 dX4_exercise_105 ?_
    refine jj_goto C0 (tgt := 110) dX4_exercise_106 (by decide) ?_
    refine jj_put C0 (ci := 5) (v := .int (iI 0)) (ty := .int) hin_X4 tyX4 tyX4_ok nmX4 (0) (rfl) rfl 0 (by decide) (hw _ hU_786) (fun _ h9 => h9) rfl (by decide +kernel) (rfl) rfl (Nat.le_of_ble_eq_true rfl) (ws' := wM ad cI cJ cZ 0 td pr up dn dv n K St Ex Am Ov Bi As BL AL He Co Ca mo sh co sd Cz Ab be ++ E) (rfl) dX4_exercise_110 ?_
    refine jj_aload_n C0 1 rfl dX4_exercise_113 ?_
    refine jj_get C0 (ci := 5) (v := .int (iI 0)) hin_X4 (0) (rfl) rfl 0 (by decide) (hw _ hU_786) (fun _ h9 => h9) rfl dX4_exercise_114 ?_
    refine jj_if_le C0 (by omega) dX4_exercise_117 (tgt := 122) (by decide) (fun c_9 => ?_) (fun c_9 => absurd c_9 (by omega))
    refine jj_aload_n C0 1 rfl dX4_exercise_122 ?_
    refine jj_aload_n C0 1 rfl dX4_exercise_123 ?_
    refine jj_get C0 (ci := 5) (v := .int (iI pr)) hin_X4 (0) (rfl) rfl 2 (by decide) (hw _ hU_788) (fun _ h9 => h9) rfl dX4_exercise_124 ?_
    refine jj_callVl C0 (cc_X4_worthAt hEV (fr := pr) (fun c hc => Or.inr (hovs c hc)) (by first | exact hexs | omega) (by first | exact hn | omega) (by first | exact htd | omega) (by omega) (by first | exact hup | omega) (by first | exact hdn | omega) (by first | exact hdv | omega) (by first | exact hK | omega) (by first | exact hSt | omega) (by first | exact hEx | omega) (by first | exact hAm | omega) (by first | exact hOv | omega) (by first | exact hHe | omega) (by first | exact hsh | omega)) (cwV 1 hw (lw_gV hU_877 hU_879 hU_42 hU_66 hU_880) rfl rfl rfl (by decide +kernel) ⟨Nat.le_of_ble_eq_true rfl, Nat.le_of_ble_eq_true rfl⟩) (ci := 5) (q0 := 0) rfl (rfl) rfl rfl (Nat.le_of_ble_eq_true rfl) ⟨by decide, by decide⟩ rfl rfl dX4_exercise_127 ?_
    intro u hu
    obtain ⟨ab_10, b_10⟩ := u
    show jj_W _ _ _ _ _ _ _ _ _ _ _ _ _ _ _ _ _ 130 _ [.long (lI (f_W up dn dv td n K St Ex Am He Ca sh pr))] (wM ad cI cJ cZ 0 td pr up dn dv n K St Ex Am Ov Bi As BL AL He Co Ca mo sh co sd Cz ab_10 b_10 ++ E)
    refine jj_lstore C0 (lv' := [(4, .long (lI (f_W up dn dv td n K St Ex Am He Ca sh pr))), (0, .ref (ad 0)), (1, .int (iI z)), (2, .int (iI (c : Int))), (3, .int (iI (L : Int)))]) (by decide) rfl dX4_exercise_130 ?_
    refine jj_aload_n C0 1 rfl dX4_exercise_132 ?_
    refine jj_iload_n C0 3 rfl dX4_exercise_133 ?_
    refine jj_aload_n C0 1 rfl dX4_exercise_134 ?_
    refine jj_get C0 (ci := 5) (v := .int (iI pr)) hin_X4 (0) (rfl) rfl 2 (by decide) (hw _ hU_788) (fun _ h9 => h9) rfl dX4_exercise_135 ?_
    refine jj_i2l C0 (by omega) dX4_exercise_138 ?_
    refine jj_callVl C0 (cc_X4_pays hEV (c := c) (z := pr) (by omega) (by omega) (by first | exact hK | omega) (by first | exact hSt | omega)) (cwV 2 hw (lw_gV hU_897 hU_899 hU_46 hU_66 hU_900) rfl rfl rfl (by decide +kernel) ⟨Nat.le_of_ble_eq_true rfl, Nat.le_of_ble_eq_true rfl⟩) (ci := 5) (q0 := 0) rfl (rfl) rfl rfl (Nat.le_of_ble_eq_true rfl) ⟨by decide, by decide⟩ rfl rfl dX4_exercise_139 ?_
    intro _ hu
    show jj_W _ _ _ _ _ _ _ _ _ _ _ _ _ _ _ _ _ 142 _ [.long (lI (f_pays (K c) (St c) pr))] (wM ad cI cJ cZ 0 td pr up dn dv n K St Ex Am Ov Bi As BL AL He Co Ca mo sh co sd Cz ab_10 b_10 ++ E)
    refine jj_lstore C0 (lv' := [(6, .long (lI (f_pays (K c) (St c) pr))), (4, .long (lI (f_W up dn dv td n K St Ex Am He Ca sh pr))), (0, .ref (ad 0)), (1, .int (iI z)), (2, .int (iI (c : Int))), (3, .int (iI (L : Int)))]) (by decide) rfl dX4_exercise_142 ?_
    refine jj_iconst C0 dX4_exercise_144 ?_
    refine jj_istore C0 (lv' := [(8, .int (iI 0)), (6, .long (lI (f_pays (K c) (St c) pr))), (4, .long (lI (f_W up dn dv td n K St Ex Am He Ca sh pr))), (0, .ref (ad 0)), (1, .int (iI z)), (2, .int (iI (c : Int))), (3, .int (iI (L : Int)))]) (by decide) rfl dX4_exercise_145 ?_
    refine jj_ind (X := Nat) (fun q9 => match q9 with | i => (L + 1 - i : Nat)) (fun q9 => match q9 with | i => [(8, .int (iI (i : Int))), (6, .long (lI (f_pays (K c) (St c) pr))), (4, .long (lI (f_W up dn dv td n K St Ex Am He Ca sh pr))), (0, .ref (ad 0)), (1, .int (iI z)), (2, .int (iI (c : Int))), (3, .int (iI (L : Int)))]) (fun q9 => match q9 with | i => []) (fun q9 => match q9 with | i => wM ad cI cJ cZ 0 td pr up dn dv n K St Ex Am Ov Bi As BL AL ((f_xN c k (f_pays (K c) (St c) pr) i (He, Ca, sd)).1) Co ((f_xN c k (f_pays (K c) (St c) pr) i (He, Ca, sd)).2.1) mo sh co ((f_xN c k (f_pays (K c) (St c) pr) i (He, Ca, sd)).2.2) Cz ab_10 b_10 ++ E) (fun q9 => match q9 with | i => i ≤ L) ?_ 0 (Nat.zero_le _)
    intro q9 hq9 ih147
    obtain ⟨i, rfl⟩ : ∃ z, z = q9 := ⟨_, rfl⟩
    have hi : i ≤ L := hq9
    have hxi := f_xI_N (br := (f_pays (K c) (St c) pr)) hk6 hx0 i (by omega)
    show jj_W _ _ _ _ _ _ _ _ _ _ _ _ _ _ _ _ _ 147 [(8, .int (iI (i : Int))), (6, .long (lI (f_pays (K c) (St c) pr))), (4, .long (lI (f_W up dn dv td n K St Ex Am He Ca sh pr))), (0, .ref (ad 0)), (1, .int (iI z)), (2, .int (iI (c : Int))), (3, .int (iI (L : Int)))] [] (wM ad cI cJ cZ 0 td pr up dn dv n K St Ex Am Ov Bi As BL AL ((f_xN c k (f_pays (K c) (St c) pr) i (He, Ca, sd)).1) Co ((f_xN c k (f_pays (K c) (St c) pr) i (He, Ca, sd)).2.1) mo sh co ((f_xN c k (f_pays (K c) (St c) pr) i (He, Ca, sd)).2.2) Cz ab_10 b_10 ++ E)
    refine jj_iload C0 0 rfl dX4_exercise_147 ?_
    refine jj_iload_n C0 6 rfl dX4_exercise_149 ?_
    refine jj_icmp_ge C0 (by omega) (by omega) dX4_exercise_150 (tgt := 177) (by decide) (fun c_11 => ?_) (fun c_11 => ?_)
    · obtain rfl : i = L := by omega
      refine jj_aload_n C0 3 rfl dX4_exercise_177 ?_
      refine jj_get C0 (ci := 5) (v := .ref (ad 14)) hin_X4 (0) (rfl) rfl 23 (by decide) (hw _ hU_809) (fun _ h9 => h9) rfl dX4_exercise_178 ?_
      refine jj_iconst C0 dX4_exercise_181 ?_
      refine jj_dup2_11 C0 dX4_exercise_182 rfl rfl ?_
      refine jj_lald C0 (q0 := 14) (t0 := 1) (f := Cz) (rfl) rfl (k := 4) (by omega) (by omega) (by decide) dX4_exercise_183 ?_
      refine jj_aload_n C0 3 rfl dX4_exercise_184 ?_
      refine jj_aload_n C0 3 rfl dX4_exercise_185 ?_
      refine jj_get C0 (ci := 5) (v := .int (iI pr)) hin_X4 (0) (rfl) rfl 2 (by decide) (hw _ hU_788) (fun _ h9 => h9) rfl dX4_exercise_186 ?_
      refine jj_callVl C0 (cc_X4_worthAt hEV (fr := pr) (fun c hc => Or.inr (hovs c hc)) (by first | exact hexs | omega) (by first | exact hn | omega) (by first | exact htd | omega) (by omega) (by first | exact hup | omega) (by first | exact hdn | omega) (by first | exact hdv | omega) (by first | exact hK | omega) (by first | exact hSt | omega) (by first | exact hEx | omega) (by first | exact hAm | omega) (by first | exact hOv | omega) hxi.1 (by first | exact hsh | omega)) (cwV 1 hw (lw_gV hU_877 hU_879 hU_42 hU_66 hU_880) rfl rfl rfl (by decide +kernel) ⟨Nat.le_of_ble_eq_true rfl, Nat.le_of_ble_eq_true rfl⟩) (ci := 5) (q0 := 0) rfl (rfl) rfl rfl (Nat.le_of_ble_eq_true rfl) ⟨by decide, by decide⟩ rfl rfl dX4_exercise_189 ?_
      intro u hu
      obtain ⟨ab_12, b_12⟩ := u
      show jj_W _ _ _ _ _ _ _ _ _ _ _ _ _ _ _ _ _ 192 _ [.long (lI (f_W up dn dv td n K St Ex Am ((f_xN c k (f_pays (K c) (St c) pr) i (He, Ca, sd)).1) ((f_xN c k (f_pays (K c) (St c) pr) i (He, Ca, sd)).2.1) sh pr)), .long (lI (Cz 4)), .int (iI 4), .ref (ad 14)] (wM ad cI cJ cZ 0 td pr up dn dv n K St Ex Am Ov Bi As BL AL ((f_xN c k (f_pays (K c) (St c) pr) i (He, Ca, sd)).1) Co ((f_xN c k (f_pays (K c) (St c) pr) i (He, Ca, sd)).2.1) mo sh co ((f_xN c k (f_pays (K c) (St c) pr) i (He, Ca, sd)).2.2) Cz ab_12 b_12 ++ E)
      refine jj_lload C0 2 rfl dX4_exercise_192 ?_
      refine jj_lsub C0 dX4_exercise_194 ?_
      refine jj_ladd C0 dX4_exercise_195 ?_
      refine jj_last C0 (q0 := 14) (t0 := 1) (f := Cz) (rfl) rfl (k := 4) (by omega) (by omega) (by decide) (ws' := wM ad cI cJ cZ 0 td pr up dn dv n K St Ex Am Ov Bi As BL AL ((f_xN c k (f_pays (K c) (St c) pr) i (He, Ca, sd)).1) Co ((f_xN c k (f_pays (K c) (St c) pr) i (He, Ca, sd)).2.1) mo sh co ((f_xN c k (f_pays (K c) (St c) pr) i (He, Ca, sd)).2.2) (va_up Cz 4 ((Cz 4) + ((f_W up dn dv td n K St Ex Am ((f_xN c k (f_pays (K c) (St c) pr) i (He, Ca, sd)).1) ((f_xN c k (f_pays (K c) (St c) pr) i (He, Ca, sd)).2.1) sh pr) - (f_W up dn dv td n K St Ex Am He Ca sh pr)))) ab_12 b_12 ++ E) (rfl) dX4_exercise_196 ?_
      refine jj_lload C0 1 rfl dX4_exercise_197 ?_
      refine jj_l2i C0 dX4_exercise_199 ?_
      exact jj_iret C0 hr (ab_12, b_12) (trivial) (rfl) (rfl) (by decide) (by decide) dX4_exercise_200
    · refine jj_aload_n C0 3 rfl dX4_exercise_153 ?_
      refine jj_iload_n C0 4 rfl dX4_exercise_154 ?_
      refine jj_iconst C0 dX4_exercise_155 ?_
      refine jj_icmp_ne C0 (by omega) (by omega) dX4_exercise_156 (tgt := 164) (by decide) (fun c_13 => ?_) (fun c_13 => ?_)
      · refine jj_iload_n C0 4 rfl dX4_exercise_164 ?_
        refine jj_topi (b := (k : Int)) (by omega) ?_
        refine jj_iload_n C0 5 rfl dX4_exercise_165 ?_
        refine jj_lload C0 1 rfl dX4_exercise_166 ?_
        have hxo := f_xI_ow hk6 (by omega) hxi
        refine jj_callVv C0 (cc_X4_exercisesOne hEV (k := k) (c := c) (br := f_pays (K c) (St c) pr) (⟨by omega, by omega⟩) (by first | exact hk6 | omega) (by omega) hxi.1 hxi.2.1) (cwV 3 hw (lw_gV hU_989 hU_991 hU_55 hU_66 hU_992) rfl rfl rfl (by decide +kernel) ⟨Nat.le_of_ble_eq_true rfl, Nat.le_of_ble_eq_true rfl⟩) (ci := 5) (q0 := 0) rfl (rfl) rfl rfl (Nat.le_of_ble_eq_true rfl) ⟨by decide, by decide⟩ rfl rfl dX4_exercise_168 ?_
        intro _ hu
        show jj_W _ _ _ _ _ _ _ _ _ _ _ _ _ _ _ _ _ 171 _ [] (wM ad cI cJ cZ 0 td pr up dn dv n K St Ex Am Ov Bi As BL AL ((f_x1 c k (f_pays (K c) (St c) pr) (((f_xN c k (f_pays (K c) (St c) pr) i (He, Ca, sd)).1), ((f_xN c k (f_pays (K c) (St c) pr) i (He, Ca, sd)).2.1), ((f_xN c k (f_pays (K c) (St c) pr) i (He, Ca, sd)).2.2))).1) Co ((f_x1 c k (f_pays (K c) (St c) pr) (((f_xN c k (f_pays (K c) (St c) pr) i (He, Ca, sd)).1), ((f_xN c k (f_pays (K c) (St c) pr) i (He, Ca, sd)).2.1), ((f_xN c k (f_pays (K c) (St c) pr) i (He, Ca, sd)).2.2))).2.1) mo sh co ((f_x1 c k (f_pays (K c) (St c) pr) (((f_xN c k (f_pays (K c) (St c) pr) i (He, Ca, sd)).1), ((f_xN c k (f_pays (K c) (St c) pr) i (He, Ca, sd)).2.1), ((f_xN c k (f_pays (K c) (St c) pr) i (He, Ca, sd)).2.2))).2.2) Cz ab_10 b_10 ++ E)
        refine jj_iinc C0 (z := ((i + 1 : Nat) : Int)) (lv' := [(8, .int (iI ((i + 1 : Nat) : Int))), (6, .long (lI (f_pays (K c) (St c) pr))), (4, .long (lI (f_W up dn dv td n K St Ex Am He Ca sh pr))), (0, .ref (ad 0)), (1, .int (iI z)), (2, .int (iI (c : Int))), (3, .int (iI (L : Int)))]) 0 rfl (by omega) (by decide) rfl dX4_exercise_171 ?_
        refine jj_goto C0 (tgt := 147) dX4_exercise_174 (by decide) ?_
        exact ih147 (i + 1) (by omega) (by dsimp only; omega)
      · refine jj_bipush C0 dX4_exercise_159 (by decide) ?_
        refine jj_goto C0 (tgt := 165) dX4_exercise_161 (by decide) ?_
        refine jj_topi (b := (k : Int)) (by omega) ?_
        refine jj_iload_n C0 5 rfl dX4_exercise_165 ?_
        refine jj_lload C0 1 rfl dX4_exercise_166 ?_
        have hxo := f_xI_ow hk6 (by omega) hxi
        refine jj_callVv C0 (cc_X4_exercisesOne hEV (k := k) (c := c) (br := f_pays (K c) (St c) pr) (⟨by omega, by omega⟩) (by first | exact hk6 | omega) (by omega) hxi.1 hxi.2.1) (cwV 3 hw (lw_gV hU_989 hU_991 hU_55 hU_66 hU_992) rfl rfl rfl (by decide +kernel) ⟨Nat.le_of_ble_eq_true rfl, Nat.le_of_ble_eq_true rfl⟩) (ci := 5) (q0 := 0) rfl (rfl) rfl rfl (Nat.le_of_ble_eq_true rfl) ⟨by decide, by decide⟩ rfl rfl dX4_exercise_168 ?_
        intro _ hu
        show jj_W _ _ _ _ _ _ _ _ _ _ _ _ _ _ _ _ _ 171 _ [] (wM ad cI cJ cZ 0 td pr up dn dv n K St Ex Am Ov Bi As BL AL ((f_x1 c k (f_pays (K c) (St c) pr) (((f_xN c k (f_pays (K c) (St c) pr) i (He, Ca, sd)).1), ((f_xN c k (f_pays (K c) (St c) pr) i (He, Ca, sd)).2.1), ((f_xN c k (f_pays (K c) (St c) pr) i (He, Ca, sd)).2.2))).1) Co ((f_x1 c k (f_pays (K c) (St c) pr) (((f_xN c k (f_pays (K c) (St c) pr) i (He, Ca, sd)).1), ((f_xN c k (f_pays (K c) (St c) pr) i (He, Ca, sd)).2.1), ((f_xN c k (f_pays (K c) (St c) pr) i (He, Ca, sd)).2.2))).2.1) mo sh co ((f_x1 c k (f_pays (K c) (St c) pr) (((f_xN c k (f_pays (K c) (St c) pr) i (He, Ca, sd)).1), ((f_xN c k (f_pays (K c) (St c) pr) i (He, Ca, sd)).2.1), ((f_xN c k (f_pays (K c) (St c) pr) i (He, Ca, sd)).2.2))).2.2) Cz ab_10 b_10 ++ E)
        refine jj_iinc C0 (z := ((i + 1 : Nat) : Int)) (lv' := [(8, .int (iI ((i + 1 : Nat) : Int))), (6, .long (lI (f_pays (K c) (St c) pr))), (4, .long (lI (f_W up dn dv td n K St Ex Am He Ca sh pr))), (0, .ref (ad 0)), (1, .int (iI z)), (2, .int (iI (c : Int))), (3, .int (iI (L : Int)))]) 0 rfl (by omega) (by decide) rfl dX4_exercise_171 ?_
        refine jj_goto C0 (tgt := 147) dX4_exercise_174 (by decide) ?_
        exact ih147 (i + 1) (by omega) (by dsimp only; omega)
  · refine jj_aload_n C0 0 rfl dX4_exercise_79 ?_
    refine jj_get C0 (ci := 5) (v := .ref (ad 4)) hin_X4 (0) (rfl) rfl 9 (by decide) (hw _ hU_795) (fun _ h9 => h9) rfl dX4_exercise_80 ?_
    refine jj_iload_n C0 2 rfl dX4_exercise_83 ?_
    refine jj_iald C0 (q0 := 4) (t0 := 0) (f := Ex) (rfl) rfl (k := c) (by omega) (by omega) (by decide) dX4_exercise_84 ?_
    have hb_Ex_18436 := hEx c
    refine jj_aload_n C0 0 rfl dX4_exercise_85 ?_
    refine jj_get C0 (ci := 5) (v := .int (iI (td : Int))) hin_X4 (0) (rfl) rfl 1 (by decide) (hw _ hU_787) (fun _ h9 => h9) rfl dX4_exercise_86 ?_
    refine jj_icmp_ne C0 (by omega) (by omega) dX4_exercise_89 (tgt := 96) (by decide) (fun c_14 => absurd c_14 (by omega)) (fun c_14 => ?_)
    refine jj_iconst C0 dX4_exercise_92 ?_
    refine jj_goto C0 (tgt := 97) dX4_exercise_93 (by decide) ?_
    refine jj_istore C0 (lv' := [(4, .int (iI 1)), (0, .ref (ad 0)), (1, .int (iI z)), (2, .int (iI (c : Int))), (3, .int (iI (L : Int)))]) (by decide) rfl dX4_exercise_97 ?_
    refine jj_aload_n C0 1 rfl dX4_exercise_99 ?_
    refine jj_iload C0 0 rfl dX4_exercise_100 ?_
    refine jj_if_eq C0 (by omega) dX4_exercise_102 (tgt := 109) (by decide) (fun c_15 => absurd c_15 (by omega)) (fun c_15 => ?_)
    refine jj_iconst C0 dX4_exercise_105 ?_
    refine jj_goto C0 (tgt := 110) dX4_exercise_106 (by decide) ?_
    refine jj_put C0 (ci := 5) (v := .int (iI 0)) (ty := .int) hin_X4 tyX4 tyX4_ok nmX4 (0) (rfl) rfl 0 (by decide) (hw _ hU_786) (fun _ h9 => h9) rfl (by decide +kernel) (rfl) rfl (Nat.le_of_ble_eq_true rfl) (ws' := wM ad cI cJ cZ 0 td pr up dn dv n K St Ex Am Ov Bi As BL AL He Co Ca mo sh co sd Cz Ab be ++ E) (rfl) dX4_exercise_110 ?_
    refine jj_aload_n C0 1 rfl dX4_exercise_113 ?_
    refine jj_get C0 (ci := 5) (v := .int (iI 0)) hin_X4 (0) (rfl) rfl 0 (by decide) (hw _ hU_786) (fun _ h9 => h9) rfl dX4_exercise_114 ?_
    refine jj_if_le C0 (by omega) dX4_exercise_117 (tgt := 122) (by decide) (fun c_16 => ?_) (fun c_16 => absurd c_16 (by omega))
    refine jj_aload_n C0 1 rfl dX4_exercise_122 ?_
    refine jj_aload_n C0 1 rfl dX4_exercise_123 ?_
    refine jj_get C0 (ci := 5) (v := .int (iI pr)) hin_X4 (0) (rfl) rfl 2 (by decide) (hw _ hU_788) (fun _ h9 => h9) rfl dX4_exercise_124 ?_
    refine jj_callVl C0 (cc_X4_worthAt hEV (fr := pr) (fun c hc => Or.inr (hovs c hc)) (by first | exact hexs | omega) (by first | exact hn | omega) (by first | exact htd | omega) (by omega) (by first | exact hup | omega) (by first | exact hdn | omega) (by first | exact hdv | omega) (by first | exact hK | omega) (by first | exact hSt | omega) (by first | exact hEx | omega) (by first | exact hAm | omega) (by first | exact hOv | omega) (by first | exact hHe | omega) (by first | exact hsh | omega)) (cwV 1 hw (lw_gV hU_877 hU_879 hU_42 hU_66 hU_880) rfl rfl rfl (by decide +kernel) ⟨Nat.le_of_ble_eq_true rfl, Nat.le_of_ble_eq_true rfl⟩) (ci := 5) (q0 := 0) rfl (rfl) rfl rfl (Nat.le_of_ble_eq_true rfl) ⟨by decide, by decide⟩ rfl rfl dX4_exercise_127 ?_
    intro u hu
    obtain ⟨ab_17, b_17⟩ := u
    show jj_W _ _ _ _ _ _ _ _ _ _ _ _ _ _ _ _ _ 130 _ [.long (lI (f_W up dn dv td n K St Ex Am He Ca sh pr))] (wM ad cI cJ cZ 0 td pr up dn dv n K St Ex Am Ov Bi As BL AL He Co Ca mo sh co sd Cz ab_17 b_17 ++ E)
    refine jj_lstore C0 (lv' := [(4, .long (lI (f_W up dn dv td n K St Ex Am He Ca sh pr))), (0, .ref (ad 0)), (1, .int (iI z)), (2, .int (iI (c : Int))), (3, .int (iI (L : Int)))]) (by decide) rfl dX4_exercise_130 ?_
    refine jj_aload_n C0 1 rfl dX4_exercise_132 ?_
    refine jj_iload_n C0 3 rfl dX4_exercise_133 ?_
    refine jj_aload_n C0 1 rfl dX4_exercise_134 ?_
    refine jj_get C0 (ci := 5) (v := .int (iI pr)) hin_X4 (0) (rfl) rfl 2 (by decide) (hw _ hU_788) (fun _ h9 => h9) rfl dX4_exercise_135 ?_
    refine jj_i2l C0 (by omega) dX4_exercise_138 ?_
    refine jj_callVl C0 (cc_X4_pays hEV (c := c) (z := pr) (by omega) (by omega) (by first | exact hK | omega) (by first | exact hSt | omega)) (cwV 2 hw (lw_gV hU_897 hU_899 hU_46 hU_66 hU_900) rfl rfl rfl (by decide +kernel) ⟨Nat.le_of_ble_eq_true rfl, Nat.le_of_ble_eq_true rfl⟩) (ci := 5) (q0 := 0) rfl (rfl) rfl rfl (Nat.le_of_ble_eq_true rfl) ⟨by decide, by decide⟩ rfl rfl dX4_exercise_139 ?_
    intro _ hu
    show jj_W _ _ _ _ _ _ _ _ _ _ _ _ _ _ _ _ _ 142 _ [.long (lI (f_pays (K c) (St c) pr))] (wM ad cI cJ cZ 0 td pr up dn dv n K St Ex Am Ov Bi As BL AL He Co Ca mo sh co sd Cz ab_17 b_17 ++ E)
    refine jj_lstore C0 (lv' := [(6, .long (lI (f_pays (K c) (St c) pr))), (4, .long (lI (f_W up dn dv td n K St Ex Am He Ca sh pr))), (0, .ref (ad 0)), (1, .int (iI z)), (2, .int (iI (c : Int))), (3, .int (iI (L : Int)))]) (by decide) rfl dX4_exercise_142 ?_
    refine jj_iconst C0 dX4_exercise_144 ?_
    refine jj_istore C0 (lv' := [(8, .int (iI 0)), (6, .long (lI (f_pays (K c) (St c) pr))), (4, .long (lI (f_W up dn dv td n K St Ex Am He Ca sh pr))), (0, .ref (ad 0)), (1, .int (iI z)), (2, .int (iI (c : Int))), (3, .int (iI (L : Int)))]) (by decide) rfl dX4_exercise_145 ?_
    refine jj_ind (X := Nat) (fun q9 => match q9 with | i => (L + 1 - i : Nat)) (fun q9 => match q9 with | i => [(8, .int (iI (i : Int))), (6, .long (lI (f_pays (K c) (St c) pr))), (4, .long (lI (f_W up dn dv td n K St Ex Am He Ca sh pr))), (0, .ref (ad 0)), (1, .int (iI z)), (2, .int (iI (c : Int))), (3, .int (iI (L : Int)))]) (fun q9 => match q9 with | i => []) (fun q9 => match q9 with | i => wM ad cI cJ cZ 0 td pr up dn dv n K St Ex Am Ov Bi As BL AL ((f_xN c k (f_pays (K c) (St c) pr) i (He, Ca, sd)).1) Co ((f_xN c k (f_pays (K c) (St c) pr) i (He, Ca, sd)).2.1) mo sh co ((f_xN c k (f_pays (K c) (St c) pr) i (He, Ca, sd)).2.2) Cz ab_17 b_17 ++ E) (fun q9 => match q9 with | i => i ≤ L) ?_ 0 (Nat.zero_le _)
    intro q9 hq9 ih147
    obtain ⟨i, rfl⟩ : ∃ z, z = q9 := ⟨_, rfl⟩
    have hi : i ≤ L := hq9
    have hxi := f_xI_N (br := (f_pays (K c) (St c) pr)) hk6 hx0 i (by omega)
    show jj_W _ _ _ _ _ _ _ _ _ _ _ _ _ _ _ _ _ 147 [(8, .int (iI (i : Int))), (6, .long (lI (f_pays (K c) (St c) pr))), (4, .long (lI (f_W up dn dv td n K St Ex Am He Ca sh pr))), (0, .ref (ad 0)), (1, .int (iI z)), (2, .int (iI (c : Int))), (3, .int (iI (L : Int)))] [] (wM ad cI cJ cZ 0 td pr up dn dv n K St Ex Am Ov Bi As BL AL ((f_xN c k (f_pays (K c) (St c) pr) i (He, Ca, sd)).1) Co ((f_xN c k (f_pays (K c) (St c) pr) i (He, Ca, sd)).2.1) mo sh co ((f_xN c k (f_pays (K c) (St c) pr) i (He, Ca, sd)).2.2) Cz ab_17 b_17 ++ E)
    refine jj_iload C0 0 rfl dX4_exercise_147 ?_
    refine jj_iload_n C0 6 rfl dX4_exercise_149 ?_
    refine jj_icmp_ge C0 (by omega) (by omega) dX4_exercise_150 (tgt := 177) (by decide) (fun c_18 => ?_) (fun c_18 => ?_)
    · obtain rfl : i = L := by omega
      refine jj_aload_n C0 3 rfl dX4_exercise_177 ?_
      refine jj_get C0 (ci := 5) (v := .ref (ad 14)) hin_X4 (0) (rfl) rfl 23 (by decide) (hw _ hU_809) (fun _ h9 => h9) rfl dX4_exercise_178 ?_
      refine jj_iconst C0 dX4_exercise_181 ?_
      refine jj_dup2_11 C0 dX4_exercise_182 rfl rfl ?_
      refine jj_lald C0 (q0 := 14) (t0 := 1) (f := Cz) (rfl) rfl (k := 4) (by omega) (by omega) (by decide) dX4_exercise_183 ?_
      refine jj_aload_n C0 3 rfl dX4_exercise_184 ?_
      refine jj_aload_n C0 3 rfl dX4_exercise_185 ?_
      refine jj_get C0 (ci := 5) (v := .int (iI pr)) hin_X4 (0) (rfl) rfl 2 (by decide) (hw _ hU_788) (fun _ h9 => h9) rfl dX4_exercise_186 ?_
      refine jj_callVl C0 (cc_X4_worthAt hEV (fr := pr) (fun c hc => Or.inr (hovs c hc)) (by first | exact hexs | omega) (by first | exact hn | omega) (by first | exact htd | omega) (by omega) (by first | exact hup | omega) (by first | exact hdn | omega) (by first | exact hdv | omega) (by first | exact hK | omega) (by first | exact hSt | omega) (by first | exact hEx | omega) (by first | exact hAm | omega) (by first | exact hOv | omega) hxi.1 (by first | exact hsh | omega)) (cwV 1 hw (lw_gV hU_877 hU_879 hU_42 hU_66 hU_880) rfl rfl rfl (by decide +kernel) ⟨Nat.le_of_ble_eq_true rfl, Nat.le_of_ble_eq_true rfl⟩) (ci := 5) (q0 := 0) rfl (rfl) rfl rfl (Nat.le_of_ble_eq_true rfl) ⟨by decide, by decide⟩ rfl rfl dX4_exercise_189 ?_
      intro u hu
      obtain ⟨ab_19, b_19⟩ := u
      show jj_W _ _ _ _ _ _ _ _ _ _ _ _ _ _ _ _ _ 192 _ [.long (lI (f_W up dn dv td n K St Ex Am ((f_xN c k (f_pays (K c) (St c) pr) i (He, Ca, sd)).1) ((f_xN c k (f_pays (K c) (St c) pr) i (He, Ca, sd)).2.1) sh pr)), .long (lI (Cz 4)), .int (iI 4), .ref (ad 14)] (wM ad cI cJ cZ 0 td pr up dn dv n K St Ex Am Ov Bi As BL AL ((f_xN c k (f_pays (K c) (St c) pr) i (He, Ca, sd)).1) Co ((f_xN c k (f_pays (K c) (St c) pr) i (He, Ca, sd)).2.1) mo sh co ((f_xN c k (f_pays (K c) (St c) pr) i (He, Ca, sd)).2.2) Cz ab_19 b_19 ++ E)
      refine jj_lload C0 2 rfl dX4_exercise_192 ?_
      refine jj_lsub C0 dX4_exercise_194 ?_
      refine jj_ladd C0 dX4_exercise_195 ?_
      refine jj_last C0 (q0 := 14) (t0 := 1) (f := Cz) (rfl) rfl (k := 4) (by omega) (by omega) (by decide) (ws' := wM ad cI cJ cZ 0 td pr up dn dv n K St Ex Am Ov Bi As BL AL ((f_xN c k (f_pays (K c) (St c) pr) i (He, Ca, sd)).1) Co ((f_xN c k (f_pays (K c) (St c) pr) i (He, Ca, sd)).2.1) mo sh co ((f_xN c k (f_pays (K c) (St c) pr) i (He, Ca, sd)).2.2) (va_up Cz 4 ((Cz 4) + ((f_W up dn dv td n K St Ex Am ((f_xN c k (f_pays (K c) (St c) pr) i (He, Ca, sd)).1) ((f_xN c k (f_pays (K c) (St c) pr) i (He, Ca, sd)).2.1) sh pr) - (f_W up dn dv td n K St Ex Am He Ca sh pr)))) ab_19 b_19 ++ E) (rfl) dX4_exercise_196 ?_
      refine jj_lload C0 1 rfl dX4_exercise_197 ?_
      refine jj_l2i C0 dX4_exercise_199 ?_
      exact jj_iret C0 hr (ab_19, b_19) (trivial) (rfl) (rfl) (by decide) (by decide) dX4_exercise_200
    · refine jj_aload_n C0 3 rfl dX4_exercise_153 ?_
      refine jj_iload_n C0 4 rfl dX4_exercise_154 ?_
      refine jj_iconst C0 dX4_exercise_155 ?_
      refine jj_icmp_ne C0 (by omega) (by omega) dX4_exercise_156 (tgt := 164) (by decide) (fun c_20 => ?_) (fun c_20 => ?_)
      · refine jj_iload_n C0 4 rfl dX4_exercise_164 ?_
        refine jj_topi (b := (k : Int)) (by omega) ?_
        refine jj_iload_n C0 5 rfl dX4_exercise_165 ?_
        refine jj_lload C0 1 rfl dX4_exercise_166 ?_
        have hxo := f_xI_ow hk6 (by omega) hxi
        refine jj_callVv C0 (cc_X4_exercisesOne hEV (k := k) (c := c) (br := f_pays (K c) (St c) pr) (⟨by omega, by omega⟩) (by first | exact hk6 | omega) (by omega) hxi.1 hxi.2.1) (cwV 3 hw (lw_gV hU_989 hU_991 hU_55 hU_66 hU_992) rfl rfl rfl (by decide +kernel) ⟨Nat.le_of_ble_eq_true rfl, Nat.le_of_ble_eq_true rfl⟩) (ci := 5) (q0 := 0) rfl (rfl) rfl rfl (Nat.le_of_ble_eq_true rfl) ⟨by decide, by decide⟩ rfl rfl dX4_exercise_168 ?_
        intro _ hu
        show jj_W _ _ _ _ _ _ _ _ _ _ _ _ _ _ _ _ _ 171 _ [] (wM ad cI cJ cZ 0 td pr up dn dv n K St Ex Am Ov Bi As BL AL ((f_x1 c k (f_pays (K c) (St c) pr) (((f_xN c k (f_pays (K c) (St c) pr) i (He, Ca, sd)).1), ((f_xN c k (f_pays (K c) (St c) pr) i (He, Ca, sd)).2.1), ((f_xN c k (f_pays (K c) (St c) pr) i (He, Ca, sd)).2.2))).1) Co ((f_x1 c k (f_pays (K c) (St c) pr) (((f_xN c k (f_pays (K c) (St c) pr) i (He, Ca, sd)).1), ((f_xN c k (f_pays (K c) (St c) pr) i (He, Ca, sd)).2.1), ((f_xN c k (f_pays (K c) (St c) pr) i (He, Ca, sd)).2.2))).2.1) mo sh co ((f_x1 c k (f_pays (K c) (St c) pr) (((f_xN c k (f_pays (K c) (St c) pr) i (He, Ca, sd)).1), ((f_xN c k (f_pays (K c) (St c) pr) i (He, Ca, sd)).2.1), ((f_xN c k (f_pays (K c) (St c) pr) i (He, Ca, sd)).2.2))).2.2) Cz ab_17 b_17 ++ E)
        refine jj_iinc C0 (z := ((i + 1 : Nat) : Int)) (lv' := [(8, .int (iI ((i + 1 : Nat) : Int))), (6, .long (lI (f_pays (K c) (St c) pr))), (4, .long (lI (f_W up dn dv td n K St Ex Am He Ca sh pr))), (0, .ref (ad 0)), (1, .int (iI z)), (2, .int (iI (c : Int))), (3, .int (iI (L : Int)))]) 0 rfl (by omega) (by decide) rfl dX4_exercise_171 ?_
        refine jj_goto C0 (tgt := 147) dX4_exercise_174 (by decide) ?_
        exact ih147 (i + 1) (by omega) (by dsimp only; omega)
      · refine jj_bipush C0 dX4_exercise_159 (by decide) ?_
        refine jj_goto C0 (tgt := 165) dX4_exercise_161 (by decide) ?_
        refine jj_topi (b := (k : Int)) (by omega) ?_
        refine jj_iload_n C0 5 rfl dX4_exercise_165 ?_
        refine jj_lload C0 1 rfl dX4_exercise_166 ?_
        have hxo := f_xI_ow hk6 (by omega) hxi
        refine jj_callVv C0 (cc_X4_exercisesOne hEV (k := k) (c := c) (br := f_pays (K c) (St c) pr) (⟨by omega, by omega⟩) (by first | exact hk6 | omega) (by omega) hxi.1 hxi.2.1) (cwV 3 hw (lw_gV hU_989 hU_991 hU_55 hU_66 hU_992) rfl rfl rfl (by decide +kernel) ⟨Nat.le_of_ble_eq_true rfl, Nat.le_of_ble_eq_true rfl⟩) (ci := 5) (q0 := 0) rfl (rfl) rfl rfl (Nat.le_of_ble_eq_true rfl) ⟨by decide, by decide⟩ rfl rfl dX4_exercise_168 ?_
        intro _ hu
        show jj_W _ _ _ _ _ _ _ _ _ _ _ _ _ _ _ _ _ 171 _ [] (wM ad cI cJ cZ 0 td pr up dn dv n K St Ex Am Ov Bi As BL AL ((f_x1 c k (f_pays (K c) (St c) pr) (((f_xN c k (f_pays (K c) (St c) pr) i (He, Ca, sd)).1), ((f_xN c k (f_pays (K c) (St c) pr) i (He, Ca, sd)).2.1), ((f_xN c k (f_pays (K c) (St c) pr) i (He, Ca, sd)).2.2))).1) Co ((f_x1 c k (f_pays (K c) (St c) pr) (((f_xN c k (f_pays (K c) (St c) pr) i (He, Ca, sd)).1), ((f_xN c k (f_pays (K c) (St c) pr) i (He, Ca, sd)).2.1), ((f_xN c k (f_pays (K c) (St c) pr) i (He, Ca, sd)).2.2))).2.1) mo sh co ((f_x1 c k (f_pays (K c) (St c) pr) (((f_xN c k (f_pays (K c) (St c) pr) i (He, Ca, sd)).1), ((f_xN c k (f_pays (K c) (St c) pr) i (He, Ca, sd)).2.1), ((f_xN c k (f_pays (K c) (St c) pr) i (He, Ca, sd)).2.2))).2.2) Cz ab_17 b_17 ++ E)
        refine jj_iinc C0 (z := ((i + 1 : Nat) : Int)) (lv' := [(8, .int (iI ((i + 1 : Nat) : Int))), (6, .long (lI (f_pays (K c) (St c) pr))), (4, .long (lI (f_W up dn dv td n K St Ex Am He Ca sh pr))), (0, .ref (ad 0)), (1, .int (iI z)), (2, .int (iI (c : Int))), (3, .int (iI (L : Int)))]) 0 rfl (by omega) (by decide) rfl dX4_exercise_171 ?_
        refine jj_goto C0 (tgt := 147) dX4_exercise_174 (by decide) ?_
        exact ih147 (i + 1) (by omega) (by dsimp only; omega)
set_option maxHeartbeats 4000000 in
set_option maxRecDepth 100000 in
theorem cb_X4_exercise (hEV : jj_EV EV) {w z x : Int} {kz : Nat} {kk : Int} (hx : iR x) (hz : iR z) (hw1 : iR w) (hn : n ≤ 12) (hOv : ∀ j, 0 ≤ Ov j ∧ Ov j ≤ 1) (hHe : ∀ j, -1000000 ≤ He j ∧ He j ≤ 1000000) (hAm : ∀ j, 0 ≤ Am j ∧ Am j ≤ 1) (hEx : ∀ j, 0 ≤ Ex j ∧ Ex j ≤ 200) (htd : td ≤ 200) (hkz : (w = -1 ∧ kz = 6) ∨ (w = (kz : Int) ∧ kz ≤ 5) ∨ w < -1 ∨ 5 < w) (hbad : (¬ (-1 ≤ w ∧ w ≤ 5 ∧ 0 ≤ z ∧ z < (n : Int)) ∧ kk = 1) ∨ ((-1 ≤ w ∧ w ≤ 5 ∧ 0 ≤ z ∧ z < (n : Int)) ∧ ¬ (1 ≤ x ∧ x ≤ 1000) ∧ kk = 2) ∨ ((-1 ≤ w ∧ w ≤ 5 ∧ 0 ≤ z ∧ z < (n : Int)) ∧ (1 ≤ x ∧ x ≤ 1000) ∧ ¬ (x ≤ He (7 * z.toNat + kz) ∧ Ov z.toNat = 0 ∧ (Am z.toNat ≠ 0 ∨ Ex z.toNat = (td : Int))) ∧ kk = 3)) : jj_Mi EV (dC, dI) vwCl [(cI, .int), (cJ, .long), (cZ, .boolean), (cO, .object "java/lang/Object")] l yX4_exercise (Cond.code yX4_exercise cX4_exercise 9 (some .int) :: lw_U) ({ frames := 2, cells := 0, slots := 0, locals := 46 } : Room) [.ref (ad 0), .int (iI w), .int (iI z), .int (iI x)] (wM ad cI cJ cZ th td pr up dn dv n K St Ex Am Ov Bi As BL AL He Co Ca mo sh co sd Cz Ab be ++ E) (S := Int) (fun u => u) (fun u => True) (fun u => wM ad cI cJ cZ kk td pr up dn dv n K St Ex Am Ov Bi As BL AL He Co Ca mo sh co sd Cz Ab be ++ E) := by
  refine jj_start (cc := cX4_exercise) (nL := 9) (ret := (some .int)) (lv := [(0, .ref (ad 0)), (1, .int (iI w)), (2, .int (iI z)), (3, .int (iI x))]) (fun A => jj_Qi _ _ _ _ _ _ A) hEV (by decide) rfl (Nat.le_of_ble_eq_true rfl) rfl ?_
  intro p9 e9 s9 m9 a9 b9 me9 c9 A9 C1 hr hin
  have C0 : jj_C p9 s9 m9 a9 me9 c9 (dC, dI) vwCl A9 9 cX4_exercise "StrikehallModel" lw_U _ EV := jj_toU C1
  have hw := C0.2.2.2.2.1
  refine jj_aload_n C0 0 rfl dX4_exercise_0 ?_
  refine jj_iload_n C0 1 rfl dX4_exercise_1 ?_
  refine jj_callSi C0 (cc_X4_isHolder hEV (z := w) (by first | exact hz | omega)) (cwS 1 hw (lw_gS hU_985 hU_986 hU_66 hU_987) rfl rfl rfl (by decide +kernel) ⟨Nat.le_of_ble_eq_true rfl, Nat.le_of_ble_eq_true rfl⟩) rfl rfl (Nat.le_of_ble_eq_true rfl) ⟨by decide, by decide⟩ rfl rfl dX4_exercise_2 ?_
  intro u_1 hu
  have hu_2 : (u_1 = 1 ∧ -1 ≤ w ∧ w ≤ 5) ∨ (u_1 = 0 ∧ (w < -1 ∨ 5 < w)) := hu
  show jj_W _ _ _ _ _ _ _ _ _ _ _ _ _ _ _ _ _ 5 _ [.int (iI u_1), .ref (ad 0)] (wM ad cI cJ cZ th td pr up dn dv n K St Ex Am Ov Bi As BL AL He Co Ca mo sh co sd Cz Ab be ++ E)
  refine jj_if_eq C0 (by omega) dX4_exercise_5 (tgt := 16) (by decide) (fun c_2 => ?_) (fun c_2 => ?_)
  · refine jj_iconst C0 dX4_exercise_16 ?_
    refine jj_goto C0 (tgt := 37) dX4_exercise_17 (by decide) ?_
    refine jj_put C0 (ci := 5) (v := .int (iI 1)) (ty := .int) hin_X4 tyX4 tyX4_ok nmX4 (0) (rfl) rfl 0 (by decide) (hw _ hU_786) (fun _ h9 => h9) rfl (by decide +kernel) (rfl) rfl (Nat.le_of_ble_eq_true rfl) (ws' := wM ad cI cJ cZ 1 td pr up dn dv n K St Ex Am Ov Bi As BL AL He Co Ca mo sh co sd Cz Ab be ++ E) (rfl) dX4_exercise_37 ?_
    refine jj_aload_n C0 0 rfl dX4_exercise_40 ?_
    refine jj_get C0 (ci := 5) (v := .int (iI 1)) hin_X4 (0) (rfl) rfl 0 (by decide) (hw _ hU_786) (fun _ h9 => h9) rfl dX4_exercise_41 ?_
    refine jj_if_ne C0 (by omega) dX4_exercise_44 (tgt := 113) (by decide) (fun c_3 => ?_) (fun c_3 => absurd c_3 (by omega))
    refine jj_aload_n C0 0 rfl dX4_exercise_113 ?_
    refine jj_get C0 (ci := 5) (v := .int (iI 1)) hin_X4 (0) (rfl) rfl 0 (by decide) (hw _ hU_786) (fun _ h9 => h9) rfl dX4_exercise_114 ?_
    refine jj_if_le C0 (by omega) dX4_exercise_117 (tgt := 122) (by decide) (fun c_4 => absurd c_4 (by omega)) (fun c_4 => ?_)
    refine jj_iconst C0 dX4_exercise_120 ?_
    obtain rfl : kk = 1 := by omega
    exact jj_iret C0 hr 0 (trivial) (rfl) (rfl) (by decide) (by decide) dX4_exercise_121
  · refine jj_aload_n C0 0 rfl dX4_exercise_8 ?_
    refine jj_iload_n C0 2 rfl dX4_exercise_9 ?_
    refine jj_callVi C0 (cc_X4_isContract hEV (z := z) (by first | exact hz | omega) (by first | exact hn | omega)) (cwV 1 hw (lw_gV hU_920 hU_922 hU_47 hU_66 hU_923) rfl rfl rfl (by decide +kernel) ⟨Nat.le_of_ble_eq_true rfl, Nat.le_of_ble_eq_true rfl⟩) (ci := 5) (q0 := 0) rfl (rfl) rfl rfl (Nat.le_of_ble_eq_true rfl) ⟨by decide, by decide⟩ rfl rfl dX4_exercise_10 ?_
    intro u_5 hu
    have hu_10 : (u_5 = 1 ∧ 0 ≤ z ∧ z ≤ (n : Int) - 1) ∨ (u_5 = 0 ∧ (z < 0 ∨ (n : Int) - 1 < z)) := hu
    show jj_W _ _ _ _ _ _ _ _ _ _ _ _ _ _ _ _ _ 13 _ [.int (iI u_5), .ref (ad 0)] (wM ad cI cJ cZ th td pr up dn dv n K St Ex Am Ov Bi As BL AL He Co Ca mo sh co sd Cz Ab be ++ E)
    refine jj_if_ne C0 (by omega) dX4_exercise_13 (tgt := 20) (by decide) (fun c_6 => ?_) (fun c_6 => ?_)
    · refine jj_iload_n C0 3 rfl dX4_exercise_20 ?_
      refine jj_i2l C0 (by omega) dX4_exercise_21 ?_
      refine jj_lconst C0 (z := 1) (by decide) dX4_exercise_22 ?_
      refine jj_ldc2 C0 (z := 1000) (by decide) (hw _ hU_881) dX4_exercise_23 ?_
      refine jj_callSi C0 (cc_X4_in hEV (v := x) (lo := 1) (hi := 1000) (by omega) (by omega) (by omega)) (cwS 3 hw (lw_gS hU_874 hU_875 hU_66 hU_876) rfl rfl rfl (by decide +kernel) ⟨Nat.le_of_ble_eq_true rfl, Nat.le_of_ble_eq_true rfl⟩) rfl rfl (Nat.le_of_ble_eq_true rfl) ⟨by decide, by decide⟩ rfl rfl dX4_exercise_26 ?_
      intro u_7 hu
      have hu_26 : (u_7 = 1 ∧ 1 ≤ x ∧ x ≤ 1000) ∨ (u_7 = 0 ∧ (x < 1 ∨ 1000 < x)) := hu
      show jj_W _ _ _ _ _ _ _ _ _ _ _ _ _ _ _ _ _ 29 _ [.int (iI u_7), .ref (ad 0)] (wM ad cI cJ cZ th td pr up dn dv n K St Ex Am Ov Bi As BL AL He Co Ca mo sh co sd Cz Ab be ++ E)
      refine jj_if_ne C0 (by omega) dX4_exercise_29 (tgt := 36) (by decide) (fun c_8 => ?_) (fun c_8 => ?_)
      · refine jj_iconst C0 dX4_exercise_36 ?_
        refine jj_put C0 (ci := 5) (v := .int (iI 0)) (ty := .int) hin_X4 tyX4 tyX4_ok nmX4 (0) (rfl) rfl 0 (by decide) (hw _ hU_786) (fun _ h9 => h9) rfl (by decide +kernel) (rfl) rfl (Nat.le_of_ble_eq_true rfl) (ws' := wM ad cI cJ cZ 0 td pr up dn dv n K St Ex Am Ov Bi As BL AL He Co Ca mo sh co sd Cz Ab be ++ E) (rfl) dX4_exercise_37 ?_
        refine jj_aload_n C0 0 rfl dX4_exercise_40 ?_
        refine jj_get C0 (ci := 5) (v := .int (iI 0)) hin_X4 (0) (rfl) rfl 0 (by decide) (hw _ hU_786) (fun _ h9 => h9) rfl dX4_exercise_41 ?_
        refine jj_if_ne C0 (by omega) dX4_exercise_44 (tgt := 113) (by decide) (fun c_9 => absurd c_9 (by omega)) (fun c_9 => ?_)
        refine jj_aload_n C0 0 rfl dX4_exercise_47 ?_
        refine jj_get C0 (ci := 5) (v := .ref (ad 11)) hin_X4 (0) (rfl) rfl 16 (by decide) (hw _ hU_802) (fun _ h9 => h9) rfl dX4_exercise_48 ?_
        refine jj_iload_n C0 1 rfl dX4_exercise_51 ?_
        refine jj_iload_n C0 2 rfl dX4_exercise_52 ?_
        refine jj_topi (b := ((z.toNat : Nat) : Int)) (by omega) ?_
        refine jj_callSi C0 (cc_X4_atz hEV (z := w) (c := z.toNat) (k := kz) (by omega) (by omega)) (cwS 2 hw (lw_gS hU_882 hU_883 hU_66 hU_884) rfl rfl rfl (by decide +kernel) ⟨Nat.le_of_ble_eq_true rfl, Nat.le_of_ble_eq_true rfl⟩) rfl rfl (Nat.le_of_ble_eq_true rfl) ⟨by decide, by decide⟩ rfl rfl dX4_exercise_53 ?_
        intro _ hu
        show jj_W _ _ _ _ _ _ _ _ _ _ _ _ _ _ _ _ _ 56 _ [.int (iI ((7 * z.toNat + kz : Nat) : Int)), .ref (ad 11)] (wM ad cI cJ cZ 0 td pr up dn dv n K St Ex Am Ov Bi As BL AL He Co Ca mo sh co sd Cz Ab be ++ E)
        refine jj_iald C0 (q0 := 11) (t0 := 0) (f := He) (rfl) rfl (k := (7 * z.toNat + kz)) (by omega) (by omega) (by decide) dX4_exercise_56 ?_
        have hb_He_8510 := hHe (7 * z.toNat + kz)
        refine jj_iload_n C0 3 rfl dX4_exercise_57 ?_
        refine jj_icmp_lt C0 (by omega) (by omega) dX4_exercise_58 (tgt := 96) (by decide) (fun c_10 => ?_) (fun c_10 => ?_)
        · refine jj_iconst C0 dX4_exercise_96 ?_
          refine jj_istore C0 (lv' := [(4, .int (iI 0)), (0, .ref (ad 0)), (1, .int (iI w)), (2, .int (iI z)), (3, .int (iI x))]) (by decide) rfl dX4_exercise_97 ?_
          refine jj_aload_n C0 1 rfl dX4_exercise_99 ?_
          refine jj_iload C0 0 rfl dX4_exercise_100 ?_
          refine jj_if_eq C0 (by omega) dX4_exercise_102 (tgt := 109) (by decide) (fun c_11 => ?_) (fun c_11 => absurd c_11 (by omega))
          refine jj_iconst C0 dX4_exercise_109 ?_
          refine jj_put C0 (ci := 5) (v := .int (iI 3)) (ty := .int) hin_X4 tyX4 tyX4_ok nmX4 (0) (rfl) rfl 0 (by decide) (hw _ hU_786) (fun _ h9 => h9) rfl (by decide +kernel) (rfl) rfl (Nat.le_of_ble_eq_true rfl) (ws' := wM ad cI cJ cZ 3 td pr up dn dv n K St Ex Am Ov Bi As BL AL He Co Ca mo sh co sd Cz Ab be ++ E) (rfl) dX4_exercise_110 ?_
          refine jj_aload_n C0 1 rfl dX4_exercise_113 ?_
          refine jj_get C0 (ci := 5) (v := .int (iI 3)) hin_X4 (0) (rfl) rfl 0 (by decide) (hw _ hU_786) (fun _ h9 => h9) rfl dX4_exercise_114 ?_
          refine jj_if_le C0 (by omega) dX4_exercise_117 (tgt := 122) (by decide) (fun c_12 => absurd c_12 (by omega)) (fun c_12 => ?_)
          refine jj_iconst C0 dX4_exercise_120 ?_
          obtain rfl : kk = 3 := by omega
          exact jj_iret C0 hr 0 (trivial) (rfl) (rfl) (by decide) (by decide) dX4_exercise_121
        · refine jj_aload_n C0 0 rfl dX4_exercise_61 ?_
          refine jj_get C0 (ci := 5) (v := .ref (ad 6)) hin_X4 (0) (rfl) rfl 11 (by decide) (hw _ hU_797) (fun _ h9 => h9) rfl dX4_exercise_62 ?_
          refine jj_iload_n C0 2 rfl dX4_exercise_65 ?_
          refine jj_zald C0 (q0 := 6) (t0 := 2) (f := Ov) (rfl) rfl (k := z.toNat) (by omega) (by omega) (by decide) dX4_exercise_66 ?_
          have hb_Ov_901 := hOv z.toNat
          refine jj_if_ne C0 (by omega) dX4_exercise_67 (tgt := 96) (by decide) (fun c_13 => ?_) (fun c_13 => ?_)
          · refine jj_iconst C0 dX4_exercise_96 ?_
            refine jj_istore C0 (lv' := [(4, .int (iI 0)), (0, .ref (ad 0)), (1, .int (iI w)), (2, .int (iI z)), (3, .int (iI x))]) (by decide) rfl dX4_exercise_97 ?_
            refine jj_aload_n C0 1 rfl dX4_exercise_99 ?_
            refine jj_iload C0 0 rfl dX4_exercise_100 ?_
            refine jj_if_eq C0 (by omega) dX4_exercise_102 (tgt := 109) (by decide) (fun c_14 => ?_) (fun c_14 => absurd c_14 (by omega))
            refine jj_iconst C0 dX4_exercise_109 ?_
            refine jj_put C0 (ci := 5) (v := .int (iI 3)) (ty := .int) hin_X4 tyX4 tyX4_ok nmX4 (0) (rfl) rfl 0 (by decide) (hw _ hU_786) (fun _ h9 => h9) rfl (by decide +kernel) (rfl) rfl (Nat.le_of_ble_eq_true rfl) (ws' := wM ad cI cJ cZ 3 td pr up dn dv n K St Ex Am Ov Bi As BL AL He Co Ca mo sh co sd Cz Ab be ++ E) (rfl) dX4_exercise_110 ?_
            refine jj_aload_n C0 1 rfl dX4_exercise_113 ?_
            refine jj_get C0 (ci := 5) (v := .int (iI 3)) hin_X4 (0) (rfl) rfl 0 (by decide) (hw _ hU_786) (fun _ h9 => h9) rfl dX4_exercise_114 ?_
            refine jj_if_le C0 (by omega) dX4_exercise_117 (tgt := 122) (by decide) (fun c_15 => absurd c_15 (by omega)) (fun c_15 => ?_)
            refine jj_iconst C0 dX4_exercise_120 ?_
            obtain rfl : kk = 3 := by omega
            exact jj_iret C0 hr 0 (trivial) (rfl) (rfl) (by decide) (by decide) dX4_exercise_121
          · refine jj_aload_n C0 0 rfl dX4_exercise_70 ?_
            refine jj_get C0 (ci := 5) (v := .ref (ad 5)) hin_X4 (0) (rfl) rfl 10 (by decide) (hw _ hU_796) (fun _ h9 => h9) rfl dX4_exercise_71 ?_
            refine jj_iload_n C0 2 rfl dX4_exercise_74 ?_
            refine jj_zald C0 (q0 := 5) (t0 := 2) (f := Am) (rfl) rfl (k := z.toNat) (by omega) (by omega) (by decide) dX4_exercise_75 ?_
            have hb_Am_63976 := hAm z.toNat
            refine jj_if_ne C0 (by omega) dX4_exercise_76 (tgt := 92) (by decide) (fun c_16 => ?_) (fun c_16 => ?_)
            · refine jj_iconst C0 dX4_exercise_92 ?_
              refine jj_goto C0 (tgt := 97) dX4_exercise_93 (by decide) ?_
              refine jj_istore C0 (lv' := [(4, .int (iI 1)), (0, .ref (ad 0)), (1, .int (iI w)), (2, .int (iI z)), (3, .int (iI x))]) (by decide) rfl dX4_exercise_97 ?_
              refine jj_aload_n C0 1 rfl dX4_exercise_99 ?_
              refine jj_iload C0 0 rfl dX4_exercise_100 ?_
              refine jj_if_eq C0 (by omega) dX4_exercise_102 (tgt := 109) (by decide) (fun c_17 => absurd c_17 (by omega)) (fun c_17 => ?_)
              refine jj_iconst C0 dX4_exercise_105 ?_
              refine jj_goto C0 (tgt := 110) dX4_exercise_106 (by decide) ?_
              refine jj_put C0 (ci := 5) (v := .int (iI 0)) (ty := .int) hin_X4 tyX4 tyX4_ok nmX4 (0) (rfl) rfl 0 (by decide) (hw _ hU_786) (fun _ h9 => h9) rfl (by decide +kernel) (rfl) rfl (Nat.le_of_ble_eq_true rfl) (ws' := wM ad cI cJ cZ 0 td pr up dn dv n K St Ex Am Ov Bi As BL AL He Co Ca mo sh co sd Cz Ab be ++ E) (rfl) dX4_exercise_110 ?_
              refine jj_aload_n C0 1 rfl dX4_exercise_113 ?_
              refine jj_get C0 (ci := 5) (v := .int (iI 0)) hin_X4 (0) (rfl) rfl 0 (by decide) (hw _ hU_786) (fun _ h9 => h9) rfl dX4_exercise_114 ?_
              refine jj_if_le C0 (by omega) dX4_exercise_117 (tgt := 122) (by decide) (fun c_18 => ?_) (fun c_18 => absurd c_18 (by omega))
              exfalso
              omega
            · refine jj_aload_n C0 0 rfl dX4_exercise_79 ?_
              refine jj_get C0 (ci := 5) (v := .ref (ad 4)) hin_X4 (0) (rfl) rfl 9 (by decide) (hw _ hU_795) (fun _ h9 => h9) rfl dX4_exercise_80 ?_
              refine jj_iload_n C0 2 rfl dX4_exercise_83 ?_
              refine jj_iald C0 (q0 := 4) (t0 := 0) (f := Ex) (rfl) rfl (k := z.toNat) (by omega) (by omega) (by decide) dX4_exercise_84 ?_
              have hb_Ex_4226 := hEx z.toNat
              refine jj_aload_n C0 0 rfl dX4_exercise_85 ?_
              refine jj_get C0 (ci := 5) (v := .int (iI (td : Int))) hin_X4 (0) (rfl) rfl 1 (by decide) (hw _ hU_787) (fun _ h9 => h9) rfl dX4_exercise_86 ?_
              refine jj_icmp_ne C0 (by omega) (by omega) dX4_exercise_89 (tgt := 96) (by decide) (fun c_19 => ?_) (fun c_19 => ?_)
              · refine jj_iconst C0 dX4_exercise_96 ?_
                refine jj_istore C0 (lv' := [(4, .int (iI 0)), (0, .ref (ad 0)), (1, .int (iI w)), (2, .int (iI z)), (3, .int (iI x))]) (by decide) rfl dX4_exercise_97 ?_
                refine jj_aload_n C0 1 rfl dX4_exercise_99 ?_
                refine jj_iload C0 0 rfl dX4_exercise_100 ?_
                refine jj_if_eq C0 (by omega) dX4_exercise_102 (tgt := 109) (by decide) (fun c_20 => ?_) (fun c_20 => absurd c_20 (by omega))
                refine jj_iconst C0 dX4_exercise_109 ?_
                refine jj_put C0 (ci := 5) (v := .int (iI 3)) (ty := .int) hin_X4 tyX4 tyX4_ok nmX4 (0) (rfl) rfl 0 (by decide) (hw _ hU_786) (fun _ h9 => h9) rfl (by decide +kernel) (rfl) rfl (Nat.le_of_ble_eq_true rfl) (ws' := wM ad cI cJ cZ 3 td pr up dn dv n K St Ex Am Ov Bi As BL AL He Co Ca mo sh co sd Cz Ab be ++ E) (rfl) dX4_exercise_110 ?_
                refine jj_aload_n C0 1 rfl dX4_exercise_113 ?_
                refine jj_get C0 (ci := 5) (v := .int (iI 3)) hin_X4 (0) (rfl) rfl 0 (by decide) (hw _ hU_786) (fun _ h9 => h9) rfl dX4_exercise_114 ?_
                refine jj_if_le C0 (by omega) dX4_exercise_117 (tgt := 122) (by decide) (fun c_21 => absurd c_21 (by omega)) (fun c_21 => ?_)
                refine jj_iconst C0 dX4_exercise_120 ?_
                obtain rfl : kk = 3 := by omega
                exact jj_iret C0 hr 0 (trivial) (rfl) (rfl) (by decide) (by decide) dX4_exercise_121
              · refine jj_iconst C0 dX4_exercise_92 ?_
                refine jj_goto C0 (tgt := 97) dX4_exercise_93 (by decide) ?_
                refine jj_istore C0 (lv' := [(4, .int (iI 1)), (0, .ref (ad 0)), (1, .int (iI w)), (2, .int (iI z)), (3, .int (iI x))]) (by decide) rfl dX4_exercise_97 ?_
                refine jj_aload_n C0 1 rfl dX4_exercise_99 ?_
                refine jj_iload C0 0 rfl dX4_exercise_100 ?_
                refine jj_if_eq C0 (by omega) dX4_exercise_102 (tgt := 109) (by decide) (fun c_22 => absurd c_22 (by omega)) (fun c_22 => ?_)
                refine jj_iconst C0 dX4_exercise_105 ?_
                refine jj_goto C0 (tgt := 110) dX4_exercise_106 (by decide) ?_
                refine jj_put C0 (ci := 5) (v := .int (iI 0)) (ty := .int) hin_X4 tyX4 tyX4_ok nmX4 (0) (rfl) rfl 0 (by decide) (hw _ hU_786) (fun _ h9 => h9) rfl (by decide +kernel) (rfl) rfl (Nat.le_of_ble_eq_true rfl) (ws' := wM ad cI cJ cZ 0 td pr up dn dv n K St Ex Am Ov Bi As BL AL He Co Ca mo sh co sd Cz Ab be ++ E) (rfl) dX4_exercise_110 ?_
                refine jj_aload_n C0 1 rfl dX4_exercise_113 ?_
                refine jj_get C0 (ci := 5) (v := .int (iI 0)) hin_X4 (0) (rfl) rfl 0 (by decide) (hw _ hU_786) (fun _ h9 => h9) rfl dX4_exercise_114 ?_
                refine jj_if_le C0 (by omega) dX4_exercise_117 (tgt := 122) (by decide) (fun c_23 => ?_) (fun c_23 => absurd c_23 (by omega))
                exfalso
                omega
      · refine jj_iconst C0 dX4_exercise_32 ?_
        refine jj_goto C0 (tgt := 37) dX4_exercise_33 (by decide) ?_
        refine jj_put C0 (ci := 5) (v := .int (iI 2)) (ty := .int) hin_X4 tyX4 tyX4_ok nmX4 (0) (rfl) rfl 0 (by decide) (hw _ hU_786) (fun _ h9 => h9) rfl (by decide +kernel) (rfl) rfl (Nat.le_of_ble_eq_true rfl) (ws' := wM ad cI cJ cZ 2 td pr up dn dv n K St Ex Am Ov Bi As BL AL He Co Ca mo sh co sd Cz Ab be ++ E) (rfl) dX4_exercise_37 ?_
        refine jj_aload_n C0 0 rfl dX4_exercise_40 ?_
        refine jj_get C0 (ci := 5) (v := .int (iI 2)) hin_X4 (0) (rfl) rfl 0 (by decide) (hw _ hU_786) (fun _ h9 => h9) rfl dX4_exercise_41 ?_
        refine jj_if_ne C0 (by omega) dX4_exercise_44 (tgt := 113) (by decide) (fun c_24 => ?_) (fun c_24 => absurd c_24 (by omega))
        refine jj_aload_n C0 0 rfl dX4_exercise_113 ?_
        refine jj_get C0 (ci := 5) (v := .int (iI 2)) hin_X4 (0) (rfl) rfl 0 (by decide) (hw _ hU_786) (fun _ h9 => h9) rfl dX4_exercise_114 ?_
        refine jj_if_le C0 (by omega) dX4_exercise_117 (tgt := 122) (by decide) (fun c_25 => absurd c_25 (by omega)) (fun c_25 => ?_)
        refine jj_iconst C0 dX4_exercise_120 ?_
        obtain rfl : kk = 2 := by omega
        exact jj_iret C0 hr 0 (trivial) (rfl) (rfl) (by decide) (by decide) dX4_exercise_121
    · refine jj_iconst C0 dX4_exercise_16 ?_
      refine jj_goto C0 (tgt := 37) dX4_exercise_17 (by decide) ?_
      refine jj_put C0 (ci := 5) (v := .int (iI 1)) (ty := .int) hin_X4 tyX4 tyX4_ok nmX4 (0) (rfl) rfl 0 (by decide) (hw _ hU_786) (fun _ h9 => h9) rfl (by decide +kernel) (rfl) rfl (Nat.le_of_ble_eq_true rfl) (ws' := wM ad cI cJ cZ 1 td pr up dn dv n K St Ex Am Ov Bi As BL AL He Co Ca mo sh co sd Cz Ab be ++ E) (rfl) dX4_exercise_37 ?_
      refine jj_aload_n C0 0 rfl dX4_exercise_40 ?_
      refine jj_get C0 (ci := 5) (v := .int (iI 1)) hin_X4 (0) (rfl) rfl 0 (by decide) (hw _ hU_786) (fun _ h9 => h9) rfl dX4_exercise_41 ?_
      refine jj_if_ne C0 (by omega) dX4_exercise_44 (tgt := 113) (by decide) (fun c_26 => ?_) (fun c_26 => absurd c_26 (by omega))
      refine jj_aload_n C0 0 rfl dX4_exercise_113 ?_
      refine jj_get C0 (ci := 5) (v := .int (iI 1)) hin_X4 (0) (rfl) rfl 0 (by decide) (hw _ hU_786) (fun _ h9 => h9) rfl dX4_exercise_114 ?_
      refine jj_if_le C0 (by omega) dX4_exercise_117 (tgt := 122) (by decide) (fun c_27 => absurd c_27 (by omega)) (fun c_27 => ?_)
      refine jj_iconst C0 dX4_exercise_120 ?_
      obtain rfl : kk = 1 := by omega
      exact jj_iret C0 hr 0 (trivial) (rfl) (rfl) (by decide) (by decide) dX4_exercise_121
end MM6
