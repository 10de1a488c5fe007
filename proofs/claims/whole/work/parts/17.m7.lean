section MM7
variable {EV : (Nat → Prop) → State → Heap → Prop} {l : Launch} {dC : Nat → ClassId} {dI : Nat → Nat → Nat} {cI cJ cZ cO : ClassId} {E : va_W} {ad : Nat → Nat} {ws : va_W} {th : Int} {td : Nat} {pr up dn : Int} {dv : Nat → Int} {n : Nat} {K St Ex Am Ov Bi As BL AL He Co Ca : Nat → Int} {mo sh co sd : Int} {Cz Ab : Nat → Int} {be : Int}
set_option maxHeartbeats 4000000 in
set_option maxRecDepth 100000 in
theorem cc_X4_expires (hEV : jj_EV EV) {c : Nat} (hc : c < 12) (hsum : f_s7 He c 7 = 0) (hsd : 0 ≤ sd ∧ sd ≤ 2147483647) (hHe : ∀ j, -1000000 ≤ He j ∧ He j ≤ 1000000) (hpr : 0 ≤ pr ∧ pr ≤ 20000) (hK : ∀ j, 0 ≤ K j ∧ K j ≤ 1) (hSt : ∀ j, 0 ≤ St j ∧ St j ≤ 20000) (hCo : ∀ j, 0 ≤ Co j ∧ Co j ≤ 1) : jj_Mv EV (dC, dI) vwCl [(cI, .int), (cJ, .long), (cZ, .boolean), (cO, .object "java/lang/Object")] l yX4_expires (Cond.code yX4_expires cX4_expires 7 none :: lw_U) ({ frames := 2, cells := 0, slots := 0, locals := 50 } : Room) [.ref (ad 0), .int (iI (c : Int))] (wM ad cI cJ cZ th td pr up dn dv n K St Ex Am Ov Bi As BL AL He Co Ca mo sh co sd Cz Ab be ++ E) (S := Unit)  (fun _ => True) (fun _ => wM ad cI cJ cZ th td pr up dn dv n K St Ex Am ((f_exp Co c (f_pays (K c) (St c) pr) ((He, Ca, sd), Ov, BL, AL)).2.1) Bi As ((f_exp Co c (f_pays (K c) (St c) pr) ((He, Ca, sd), Ov, BL, AL)).2.2.1) ((f_exp Co c (f_pays (K c) (St c) pr) ((He, Ca, sd), Ov, BL, AL)).2.2.2) ((f_exp Co c (f_pays (K c) (St c) pr) ((He, Ca, sd), Ov, BL, AL)).1.1) Co ((f_exp Co c (f_pays (K c) (St c) pr) ((He, Ca, sd), Ov, BL, AL)).1.2.1) mo sh co ((f_exp Co c (f_pays (K c) (St c) pr) ((He, Ca, sd), Ov, BL, AL)).1.2.2) Cz Ab be ++ E) := by
  refine jj_start (cc := cX4_expires) (nL := 7) (ret := none) (lv := [(0, .ref (ad 0)), (1, .int (iI (c : Int)))]) (fun A => jj_Qv _ _ _ _ _ A) hEV (by decide) rfl (Nat.le_of_ble_eq_true rfl) rfl ?_
  intro p9 e9 s9 m9 a9 b9 me9 c9 A9 C1 hr hin
  have C0 : jj_C p9 s9 m9 a9 me9 c9 (dC, dI) vwCl A9 7 cX4_expires "StrikehallModel" lw_U _ EV := jj_toU C1
  have hw := C0.2.2.2.2.1
  have hJ0 : f_xJ c (He, Ca, sd) := ⟨hHe, hsd, hsum⟩
  have hbr := f_pays_bd (k := K c) (z := pr) (hSt c) (by omega)
  refine jj_aload_n C0 0 rfl dX4_expires_0 ?_
  refine jj_iload_n C0 1 rfl dX4_expires_1 ?_
  refine jj_aload_n C0 0 rfl dX4_expires_2 ?_
  refine jj_get C0 (ci := 5) (v := .int (iI pr)) hin_X4 (0) (rfl) rfl 2 (by decide) (hw _ hU_788) (fun _ h9 => h9) rfl dX4_expires_3 ?_
  refine jj_i2l C0 (by omega) dX4_expires_6 ?_
  refine jj_callVl C0 (cc_X4_pays hEV (c := c) (z := pr) (by first | exact hc | omega) (by omega) (by first | exact hK | omega) (by first | exact hSt | omega)) (cwV 2 hw (lw_gV hU_897 hU_899 hU_46 hU_66 hU_900) rfl rfl rfl (by decide +kernel) ⟨Nat.le_of_ble_eq_true rfl, Nat.le_of_ble_eq_true rfl⟩) (ci := 5) (q0 := 0) rfl (rfl) rfl rfl (Nat.le_of_ble_eq_true rfl) ⟨by decide, by decide⟩ rfl rfl dX4_expires_7 ?_
  intro _ hu
  show jj_W _ _ _ _ _ _ _ _ _ _ _ _ _ _ _ _ _ 10 _ [.long (lI (f_pays (K c) (St c) pr))] (wM ad cI cJ cZ th td pr up dn dv n K St Ex Am Ov Bi As BL AL He Co Ca mo sh co sd Cz Ab be ++ E)
  refine jj_lstore_n C0 (i := 2) rfl (lv' := [(2, .long (lI (f_pays (K c) (St c) pr))), (0, .ref (ad 0)), (1, .int (iI (c : Int)))]) (by decide) rfl dX4_expires_10 ?_
  refine jj_iconst C0 dX4_expires_11 ?_
  refine jj_istore C0 (lv' := [(4, .int (iI 0)), (2, .long (lI (f_pays (K c) (St c) pr))), (0, .ref (ad 0)), (1, .int (iI (c : Int)))]) (by decide) rfl dX4_expires_12 ?_
  refine jj_ind (X := Nat) (fun q9 => match q9 with | h => (8 - h : Nat)) (fun q9 => match q9 with | h => [(4, .int (iI (h : Int))), (2, .long (lI (f_pays (K c) (St c) pr))), (0, .ref (ad 0)), (1, .int (iI (c : Int)))]) (fun q9 => match q9 with | h => []) (fun q9 => match q9 with | h => wM ad cI cJ cZ th td pr up dn dv n K St Ex Am Ov Bi As BL AL ((f_exH Co c (f_pays (K c) (St c) pr) h (He, Ca, sd)).1) Co ((f_exH Co c (f_pays (K c) (St c) pr) h (He, Ca, sd)).2.1) mo sh co ((f_exH Co c (f_pays (K c) (St c) pr) h (He, Ca, sd)).2.2) Cz Ab be ++ E) (fun q9 => match q9 with | h => h ≤ 7) ?_ 0 (Nat.zero_le _)
  intro q9 hq9 ih14
  obtain ⟨h, rfl⟩ : ∃ z, z = q9 := ⟨_, rfl⟩
  have hh : h ≤ 7 := hq9
  have hJ := f_exH_J (Co := Co) (br := (f_pays (K c) (St c) pr)) hJ0 h hh
  show jj_W _ _ _ _ _ _ _ _ _ _ _ _ _ _ _ _ _ 14 [(4, .int (iI (h : Int))), (2, .long (lI (f_pays (K c) (St c) pr))), (0, .ref (ad 0)), (1, .int (iI (c : Int)))] [] (wM ad cI cJ cZ th td pr up dn dv n K St Ex Am Ov Bi As BL AL ((f_exH Co c (f_pays (K c) (St c) pr) h (He, Ca, sd)).1) Co ((f_exH Co c (f_pays (K c) (St c) pr) h (He, Ca, sd)).2.1) mo sh co ((f_exH Co c (f_pays (K c) (St c) pr) h (He, Ca, sd)).2.2) Cz Ab be ++ E)
  refine jj_iload C0 0 rfl dX4_expires_14 ?_
  refine jj_bipush C0 dX4_expires_16 (by decide) ?_
  refine jj_icmp_ge C0 (by omega) (by omega) dX4_expires_18 (tgt := 90) (by decide) (fun c_1 => ?_) (fun c_1 => ?_)
  · refine jj_ws (ws' := wM ad cI cJ cZ th td pr up dn dv n K St Ex Am Ov Bi As BL AL (f_z7 ((f_exH Co c (f_pays (K c) (St c) pr) 7 (He, Ca, sd)).1) c 0) Co ((f_exH Co c (f_pays (K c) (St c) pr) 7 (He, Ca, sd)).2.1) mo sh co ((f_exH Co c (f_pays (K c) (St c) pr) 7 (He, Ca, sd)).2.2) Cz Ab be ++ E) (by rw [show h = 7 by omega, f_z7_0]) ?_
    refine jj_iconst C0 dX4_expires_90 ?_
    refine jj_istore C0 (lv' := [(4, .int (iI 0)), (2, .long (lI (f_pays (K c) (St c) pr))), (0, .ref (ad 0)), (1, .int (iI (c : Int)))]) (by decide) rfl dX4_expires_91 ?_
    refine jj_lv [0, 2, 3] rfl ?_
    refine jj_ind (X := Nat) (fun q9 => match q9 with | j => (8 - j : Nat)) (fun q9 => match q9 with | j => [(4, .int (iI (j : Int))), (0, .ref (ad 0)), (1, .int (iI (c : Int)))]) (fun q9 => match q9 with | j => []) (fun q9 => match q9 with | j => wM ad cI cJ cZ th td pr up dn dv n K St Ex Am Ov Bi As BL AL (f_z7 ((f_exH Co c (f_pays (K c) (St c) pr) 7 (He, Ca, sd)).1) c j) Co ((f_exH Co c (f_pays (K c) (St c) pr) 7 (He, Ca, sd)).2.1) mo sh co ((f_exH Co c (f_pays (K c) (St c) pr) 7 (He, Ca, sd)).2.2) Cz Ab be ++ E) (fun q9 => match q9 with | j => j ≤ 7) ?_ 0 (Nat.zero_le _)
    intro q9 hq9 ih93
    obtain ⟨j, rfl⟩ : ∃ z, z = q9 := ⟨_, rfl⟩
    have hj : j ≤ 7 := hq9
    show jj_W _ _ _ _ _ _ _ _ _ _ _ _ _ _ _ _ _ 93 [(4, .int (iI (j : Int))), (0, .ref (ad 0)), (1, .int (iI (c : Int)))] [] (wM ad cI cJ cZ th td pr up dn dv n K St Ex Am Ov Bi As BL AL (f_z7 ((f_exH Co c (f_pays (K c) (St c) pr) 7 (He, Ca, sd)).1) c j) Co ((f_exH Co c (f_pays (K c) (St c) pr) 7 (He, Ca, sd)).2.1) mo sh co ((f_exH Co c (f_pays (K c) (St c) pr) 7 (He, Ca, sd)).2.2) Cz Ab be ++ E)
    refine jj_iload C0 0 rfl dX4_expires_93 ?_
    refine jj_bipush C0 dX4_expires_95 (by decide) ?_
    refine jj_icmp_ge C0 (by omega) (by omega) dX4_expires_97 (tgt := 119) (by decide) (fun c_2 => ?_) (fun c_2 => ?_)
    · refine jj_ws (ws' := wM ad cI cJ cZ th td pr up dn dv n K St Ex Am Ov Bi As BL AL (f_z7 ((f_exH Co c (f_pays (K c) (St c) pr) 7 (He, Ca, sd)).1) c 7) Co ((f_exH Co c (f_pays (K c) (St c) pr) 7 (He, Ca, sd)).2.1) mo sh co ((f_exH Co c (f_pays (K c) (St c) pr) 7 (He, Ca, sd)).2.2) Cz Ab be ++ E) (by rw [show j = 7 by omega]) ?_
      refine jj_aload_n C0 1 rfl dX4_expires_119 ?_
      refine jj_get C0 (ci := 5) (v := .ref (ad 6)) hin_X4 (0) (rfl) rfl 11 (by decide) (hw _ hU_797) (fun _ h9 => h9) rfl dX4_expires_120 ?_
      refine jj_iload_n C0 2 rfl dX4_expires_123 ?_
      refine jj_iconst C0 dX4_expires_124 ?_
      refine jj_zast C0 (q0 := 6) (t0 := 2) (f := Ov) (rfl) rfl (k := c) (by omega) (by omega) (by decide) (by omega) (ws' := wM ad cI cJ cZ th td pr up dn dv n K St Ex Am (va_up Ov c 1) Bi As BL AL (f_z7 ((f_exH Co c (f_pays (K c) (St c) pr) 7 (He, Ca, sd)).1) c 7) Co ((f_exH Co c (f_pays (K c) (St c) pr) 7 (He, Ca, sd)).2.1) mo sh co ((f_exH Co c (f_pays (K c) (St c) pr) 7 (He, Ca, sd)).2.2) Cz Ab be ++ E) (rfl) dX4_expires_125 ?_
      refine jj_aload_n C0 1 rfl dX4_expires_126 ?_
      refine jj_get C0 (ci := 5) (v := .ref (ad 9)) hin_X4 (0) (rfl) rfl 14 (by decide) (hw _ hU_800) (fun _ h9 => h9) rfl dX4_expires_127 ?_
      refine jj_iload_n C0 2 rfl dX4_expires_130 ?_
      refine jj_iconst C0 dX4_expires_131 ?_
      refine jj_iast C0 (q0 := 9) (t0 := 0) (f := BL) (rfl) rfl (k := c) (by omega) (by omega) (by decide) (ws' := wM ad cI cJ cZ th td pr up dn dv n K St Ex Am (va_up Ov c 1) Bi As (va_up BL c 0) AL (f_z7 ((f_exH Co c (f_pays (K c) (St c) pr) 7 (He, Ca, sd)).1) c 7) Co ((f_exH Co c (f_pays (K c) (St c) pr) 7 (He, Ca, sd)).2.1) mo sh co ((f_exH Co c (f_pays (K c) (St c) pr) 7 (He, Ca, sd)).2.2) Cz Ab be ++ E) (rfl) dX4_expires_132 ?_
      refine jj_aload_n C0 1 rfl dX4_expires_133 ?_
      refine jj_get C0 (ci := 5) (v := .ref (ad 10)) hin_X4 (0) (rfl) rfl 15 (by decide) (hw _ hU_801) (fun _ h9 => h9) rfl dX4_expires_134 ?_
      refine jj_iload_n C0 2 rfl dX4_expires_137 ?_
      refine jj_iconst C0 dX4_expires_138 ?_
      refine jj_iast C0 (q0 := 10) (t0 := 0) (f := AL) (rfl) rfl (k := c) (by omega) (by omega) (by decide) (ws' := wM ad cI cJ cZ th td pr up dn dv n K St Ex Am (va_up Ov c 1) Bi As (va_up BL c 0) (va_up AL c 0) (f_z7 ((f_exH Co c (f_pays (K c) (St c) pr) 7 (He, Ca, sd)).1) c 7) Co ((f_exH Co c (f_pays (K c) (St c) pr) 7 (He, Ca, sd)).2.1) mo sh co ((f_exH Co c (f_pays (K c) (St c) pr) 7 (He, Ca, sd)).2.2) Cz Ab be ++ E) (rfl) dX4_expires_139 ?_
      exact jj_vret C0 hr () (trivial) (rfl) (by decide) (by decide) dX4_expires_140
    · refine jj_aload_n C0 1 rfl dX4_expires_100 ?_
      refine jj_get C0 (ci := 5) (v := .ref (ad 11)) hin_X4 (0) (rfl) rfl 16 (by decide) (hw _ hU_802) (fun _ h9 => h9) rfl dX4_expires_101 ?_
      refine jj_bipush C0 dX4_expires_104 (by decide) ?_
      refine jj_iload_n C0 2 rfl dX4_expires_106 ?_
      refine jj_imul C0 dX4_expires_107 ?_
      refine jj_iload C0 0 rfl dX4_expires_108 ?_
      refine jj_iadd C0 dX4_expires_110 ?_
      refine jj_iconst C0 dX4_expires_111 ?_
      refine jj_iast C0 (q0 := 11) (t0 := 0) (f := (f_z7 ((f_exH Co c (f_pays (K c) (St c) pr) 7 (He, Ca, sd)).1) c j)) (rfl) rfl (k := ((7 * c) + j)) (by omega) (by omega) (by decide) (ws' := wM ad cI cJ cZ th td pr up dn dv n K St Ex Am Ov Bi As BL AL (va_up (f_z7 ((f_exH Co c (f_pays (K c) (St c) pr) 7 (He, Ca, sd)).1) c j) ((7 * c) + j) 0) Co ((f_exH Co c (f_pays (K c) (St c) pr) 7 (He, Ca, sd)).2.1) mo sh co ((f_exH Co c (f_pays (K c) (St c) pr) 7 (He, Ca, sd)).2.2) Cz Ab be ++ E) (rfl) dX4_expires_112 ?_
      refine jj_ws (ws' := wM ad cI cJ cZ th td pr up dn dv n K St Ex Am Ov Bi As BL AL (f_z7 ((f_exH Co c (f_pays (K c) (St c) pr) 7 (He, Ca, sd)).1) c (j + 1)) Co ((f_exH Co c (f_pays (K c) (St c) pr) 7 (He, Ca, sd)).2.1) mo sh co ((f_exH Co c (f_pays (K c) (St c) pr) 7 (He, Ca, sd)).2.2) Cz Ab be ++ E) (by rw [f_z7_up]) ?_
      refine jj_iinc C0 (z := ((j + 1 : Nat) : Int)) (lv' := [(4, .int (iI ((j + 1 : Nat) : Int))), (0, .ref (ad 0)), (1, .int (iI (c : Int)))]) 0 rfl (by omega) (by decide) rfl dX4_expires_113 ?_
      refine jj_goto C0 (tgt := 93) dX4_expires_116 (by decide) ?_
      exact ih93 (j + 1) (by omega) (by dsimp only; omega)
  · refine jj_join (X := Unit) (pcj := 58) (fun q9 => match q9 with | () => [(4, .int (iI (h : Int))), (2, .long (lI (f_pays (K c) (St c) pr))), (0, .ref (ad 0)), (1, .int (iI (c : Int)))]) (fun q9 => match q9 with | () => [.int (iI (f_lot Co c h (f_pays (K c) (St c) pr) ((f_exH Co c (f_pays (K c) (St c) pr) h (He, Ca, sd)).1)))]) (fun q9 => match q9 with | () => wM ad cI cJ cZ th td pr up dn dv n K St Ex Am Ov Bi As BL AL ((f_exH Co c (f_pays (K c) (St c) pr) h (He, Ca, sd)).1) Co ((f_exH Co c (f_pays (K c) (St c) pr) h (He, Ca, sd)).2.1) mo sh co ((f_exH Co c (f_pays (K c) (St c) pr) h (He, Ca, sd)).2.2) Cz Ab be ++ E) (fun q9 => match q9 with | () => True) ?_ ?_
    · intro q9 hq9
      obtain ⟨⟩ := q9
      have _ : True := hq9
      have hlb : -1000000 ≤ (f_lot Co c h (f_pays (K c) (St c) pr) ((f_exH Co c (f_pays (K c) (St c) pr) h (He, Ca, sd)).1)) ∧ (f_lot Co c h (f_pays (K c) (St c) pr) ((f_exH Co c (f_pays (K c) (St c) pr) h (He, Ca, sd)).1)) ≤ 1000000 := by unfold f_lot; split; exact hJ.1 _; omega
      refine jj_istore C0 (lv' := [(5, .int (iI (f_lot Co c h (f_pays (K c) (St c) pr) ((f_exH Co c (f_pays (K c) (St c) pr) h (He, Ca, sd)).1)))), (4, .int (iI (h : Int))), (2, .long (lI (f_pays (K c) (St c) pr))), (0, .ref (ad 0)), (1, .int (iI (c : Int)))]) (by decide) rfl dX4_expires_58 ?_
      refine jj_iconst C0 dX4_expires_60 ?_
      refine jj_istore C0 (lv' := [(6, .int (iI 0)), (5, .int (iI (f_lot Co c h (f_pays (K c) (St c) pr) ((f_exH Co c (f_pays (K c) (St c) pr) h (He, Ca, sd)).1)))), (4, .int (iI (h : Int))), (2, .long (lI (f_pays (K c) (St c) pr))), (0, .ref (ad 0)), (1, .int (iI (c : Int)))]) (by decide) rfl dX4_expires_61 ?_
      refine jj_ind (X := Nat) (fun q9 => match q9 with | i => (((f_lot Co c h (f_pays (K c) (St c) pr) ((f_exH Co c (f_pays (K c) (St c) pr) h (He, Ca, sd)).1))).toNat + 1 - i : Nat)) (fun q9 => match q9 with | i => [(6, .int (iI (i : Int))), (5, .int (iI (f_lot Co c h (f_pays (K c) (St c) pr) ((f_exH Co c (f_pays (K c) (St c) pr) h (He, Ca, sd)).1)))), (4, .int (iI (h : Int))), (2, .long (lI (f_pays (K c) (St c) pr))), (0, .ref (ad 0)), (1, .int (iI (c : Int)))]) (fun q9 => match q9 with | i => []) (fun q9 => match q9 with | i => wM ad cI cJ cZ th td pr up dn dv n K St Ex Am Ov Bi As BL AL ((f_xN c h (f_pays (K c) (St c) pr) i (f_exH Co c (f_pays (K c) (St c) pr) h (He, Ca, sd))).1) Co ((f_xN c h (f_pays (K c) (St c) pr) i (f_exH Co c (f_pays (K c) (St c) pr) h (He, Ca, sd))).2.1) mo sh co ((f_xN c h (f_pays (K c) (St c) pr) i (f_exH Co c (f_pays (K c) (St c) pr) h (He, Ca, sd))).2.2) Cz Ab be ++ E) (fun q9 => match q9 with | i => i = 0 ∨ (i : Int) ≤ (f_lot Co c h (f_pays (K c) (St c) pr) ((f_exH Co c (f_pays (K c) (St c) pr) h (He, Ca, sd)).1))) ?_ 0 (Or.inl rfl)
      intro q9 hq9 ih63
      obtain ⟨i, rfl⟩ : ∃ z, z = q9 := ⟨_, rfl⟩
      have hi : i = 0 ∨ (i : Int) ≤ (f_lot Co c h (f_pays (K c) (St c) pr) ((f_exH Co c (f_pays (K c) (St c) pr) h (He, Ca, sd)).1)) := hq9
      show jj_W _ _ _ _ _ _ _ _ _ _ _ _ _ _ _ _ _ 63 [(6, .int (iI (i : Int))), (5, .int (iI (f_lot Co c h (f_pays (K c) (St c) pr) ((f_exH Co c (f_pays (K c) (St c) pr) h (He, Ca, sd)).1)))), (4, .int (iI (h : Int))), (2, .long (lI (f_pays (K c) (St c) pr))), (0, .ref (ad 0)), (1, .int (iI (c : Int)))] [] (wM ad cI cJ cZ th td pr up dn dv n K St Ex Am Ov Bi As BL AL ((f_xN c h (f_pays (K c) (St c) pr) i (f_exH Co c (f_pays (K c) (St c) pr) h (He, Ca, sd))).1) Co ((f_xN c h (f_pays (K c) (St c) pr) i (f_exH Co c (f_pays (K c) (St c) pr) h (He, Ca, sd))).2.1) mo sh co ((f_xN c h (f_pays (K c) (St c) pr) i (f_exH Co c (f_pays (K c) (St c) pr) h (He, Ca, sd))).2.2) Cz Ab be ++ E)
      refine jj_iload C0 0 rfl dX4_expires_63 ?_
      refine jj_iload C0 1 rfl dX4_expires_65 ?_
      refine jj_icmp_ge C0 (by omega) (by omega) dX4_expires_67 (tgt := 84) (by decide) (fun c_3 => ?_) (fun c_3 => ?_)
      · refine jj_ws (ws' := wM ad cI cJ cZ th td pr up dn dv n K St Ex Am Ov Bi As BL AL ((f_xN c h (f_pays (K c) (St c) pr) (((f_lot Co c h (f_pays (K c) (St c) pr) ((f_exH Co c (f_pays (K c) (St c) pr) h (He, Ca, sd)).1))).toNat) (f_exH Co c (f_pays (K c) (St c) pr) h (He, Ca, sd))).1) Co ((f_xN c h (f_pays (K c) (St c) pr) (((f_lot Co c h (f_pays (K c) (St c) pr) ((f_exH Co c (f_pays (K c) (St c) pr) h (He, Ca, sd)).1))).toNat) (f_exH Co c (f_pays (K c) (St c) pr) h (He, Ca, sd))).2.1) mo sh co ((f_xN c h (f_pays (K c) (St c) pr) (((f_lot Co c h (f_pays (K c) (St c) pr) ((f_exH Co c (f_pays (K c) (St c) pr) h (He, Ca, sd)).1))).toNat) (f_exH Co c (f_pays (K c) (St c) pr) h (He, Ca, sd))).2.2) Cz Ab be ++ E) (by rw [show i = ((f_lot Co c h (f_pays (K c) (St c) pr) ((f_exH Co c (f_pays (K c) (St c) pr) h (He, Ca, sd)).1))).toNat by omega]) ?_
        refine jj_iinc C0 (z := ((h + 1 : Nat) : Int)) (lv' := [(4, .int (iI ((h + 1 : Nat) : Int))), (6, .int (iI (i : Int))), (5, .int (iI (f_lot Co c h (f_pays (K c) (St c) pr) ((f_exH Co c (f_pays (K c) (St c) pr) h (He, Ca, sd)).1)))), (2, .long (lI (f_pays (K c) (St c) pr))), (0, .ref (ad 0)), (1, .int (iI (c : Int)))]) 2 rfl (by omega) (by decide) rfl dX4_expires_84 ?_
        refine jj_goto C0 (tgt := 14) dX4_expires_87 (by decide) ?_
        refine jj_lv [0, 3, 4, 5] rfl ?_
        exact ih14 (h + 1) (by omega) (by dsimp only; omega)
      · refine jj_aload_n C0 4 rfl dX4_expires_70 ?_
        refine jj_iload C0 2 rfl dX4_expires_71 ?_
        refine jj_iload_n C0 5 rfl dX4_expires_73 ?_
        refine jj_lload_n C0 3 rfl dX4_expires_74 ?_
        have hxi := f_lot_Jx (br := (f_pays (K c) (St c) pr)) (Co := Co) hJ (by omega : h ≤ 6) (show (i : Int) < (f_lot Co c h (f_pays (K c) (St c) pr) ((f_exH Co c (f_pays (K c) (St c) pr) h (He, Ca, sd)).1)) by omega)
        have hx2 := hxi.2
        have hxo := f_xI_ow (by omega : h ≤ 6) (by omega) hxi.1
        refine jj_callVv C0 (cc_X4_exercisesOne hEV (k := h) (c := c) (br := f_pays (K c) (St c) pr) (⟨by omega, by omega⟩) (by omega) (by first | exact hc | omega) hxi.1.1 hxi.1.2.1) (cwV 3 hw (lw_gV hU_989 hU_991 hU_55 hU_66 hU_992) rfl rfl rfl (by decide +kernel) ⟨Nat.le_of_ble_eq_true rfl, Nat.le_of_ble_eq_true rfl⟩) (ci := 5) (q0 := 0) rfl (rfl) rfl rfl (Nat.le_of_ble_eq_true rfl) ⟨by decide, by decide⟩ rfl rfl dX4_expires_75 ?_
        intro _ hu
        show jj_W _ _ _ _ _ _ _ _ _ _ _ _ _ _ _ _ _ 78 _ [] (wM ad cI cJ cZ th td pr up dn dv n K St Ex Am Ov Bi As BL AL ((f_x1 c h (f_pays (K c) (St c) pr) (((f_xN c h (f_pays (K c) (St c) pr) i (f_exH Co c (f_pays (K c) (St c) pr) h (He, Ca, sd))).1), ((f_xN c h (f_pays (K c) (St c) pr) i (f_exH Co c (f_pays (K c) (St c) pr) h (He, Ca, sd))).2.1), ((f_xN c h (f_pays (K c) (St c) pr) i (f_exH Co c (f_pays (K c) (St c) pr) h (He, Ca, sd))).2.2))).1) Co ((f_x1 c h (f_pays (K c) (St c) pr) (((f_xN c h (f_pays (K c) (St c) pr) i (f_exH Co c (f_pays (K c) (St c) pr) h (He, Ca, sd))).1), ((f_xN c h (f_pays (K c) (St c) pr) i (f_exH Co c (f_pays (K c) (St c) pr) h (He, Ca, sd))).2.1), ((f_xN c h (f_pays (K c) (St c) pr) i (f_exH Co c (f_pays (K c) (St c) pr) h (He, Ca, sd))).2.2))).2.1) mo sh co ((f_x1 c h (f_pays (K c) (St c) pr) (((f_xN c h (f_pays (K c) (St c) pr) i (f_exH Co c (f_pays (K c) (St c) pr) h (He, Ca, sd))).1), ((f_xN c h (f_pays (K c) (St c) pr) i (f_exH Co c (f_pays (K c) (St c) pr) h (He, Ca, sd))).2.1), ((f_xN c h (f_pays (K c) (St c) pr) i (f_exH Co c (f_pays (K c) (St c) pr) h (He, Ca, sd))).2.2))).2.2) Cz Ab be ++ E)
        refine jj_iinc C0 (z := ((i + 1 : Nat) : Int)) (lv' := [(6, .int (iI ((i + 1 : Nat) : Int))), (5, .int (iI (f_lot Co c h (f_pays (K c) (St c) pr) ((f_exH Co c (f_pays (K c) (St c) pr) h (He, Ca, sd)).1)))), (4, .int (iI (h : Int))), (2, .long (lI (f_pays (K c) (St c) pr))), (0, .ref (ad 0)), (1, .int (iI (c : Int)))]) 0 rfl (by omega) (by decide) rfl dX4_expires_78 ?_
        refine jj_goto C0 (tgt := 63) dX4_expires_81 (by decide) ?_
        exact ih63 (i + 1) (Or.inr (by omega)) (by dsimp only; omega)
    intro j58
    refine jj_lload_n C0 1 rfl dX4_expires_21 ?_
    refine jj_lconst C0 (z := 0) (by decide) dX4_expires_22 ?_
    refine jj_lcmp_le C0 (by omega) (by omega) dX4_expires_23 dX4_expires_24 (tgt := 57) (by decide) (fun c_4 => ?_) (fun c_4 => ?_)
    · refine jj_iconst C0 dX4_expires_57 ?_
      refine jj_topi (b := (f_lot Co c h (f_pays (K c) (St c) pr) ((f_exH Co c (f_pays (K c) (St c) pr) h (He, Ca, sd)).1))) (by unfold f_lot; first | rw [if_pos ⟨by omega, by omega⟩] | rw [if_neg (by omega)]) ?_
      exact j58 () trivial
    · refine jj_aload_n C0 2 rfl dX4_expires_27 ?_
      refine jj_get C0 (ci := 5) (v := .ref (ad 12)) hin_X4 (0) (rfl) rfl 17 (by decide) (hw _ hU_803) (fun _ h9 => h9) rfl dX4_expires_28 ?_
      refine jj_bipush C0 dX4_expires_31 (by decide) ?_
      refine jj_iload_n C0 3 rfl dX4_expires_33 ?_
      refine jj_imul C0 dX4_expires_34 ?_
      refine jj_iload C0 0 rfl dX4_expires_35 ?_
      refine jj_iadd C0 dX4_expires_37 ?_
      refine jj_zald C0 (q0 := 12) (t0 := 2) (f := Co) (rfl) rfl (k := ((7 * c) + h)) (by omega) (by omega) (by decide) dX4_expires_38 ?_
      have hb_Co_24540 := hCo ((7 * c) + h)
      refine jj_if_ne C0 (by omega) dX4_expires_39 (tgt := 57) (by decide) (fun c_5 => ?_) (fun c_5 => ?_)
      · refine jj_iconst C0 dX4_expires_57 ?_
        refine jj_topi (b := (f_lot Co c h (f_pays (K c) (St c) pr) ((f_exH Co c (f_pays (K c) (St c) pr) h (He, Ca, sd)).1))) (by unfold f_lot; first | rw [if_pos ⟨by omega, by omega⟩] | rw [if_neg (by omega)]) ?_
        exact j58 () trivial
      · refine jj_aload_n C0 2 rfl dX4_expires_42 ?_
        refine jj_get C0 (ci := 5) (v := .ref (ad 11)) hin_X4 (0) (rfl) rfl 16 (by decide) (hw _ hU_802) (fun _ h9 => h9) rfl dX4_expires_43 ?_
        refine jj_bipush C0 dX4_expires_46 (by decide) ?_
        refine jj_iload_n C0 3 rfl dX4_expires_48 ?_
        refine jj_imul C0 dX4_expires_49 ?_
        refine jj_iload C0 0 rfl dX4_expires_50 ?_
        refine jj_iadd C0 dX4_expires_52 ?_
        refine jj_iald C0 (q0 := 11) (t0 := 0) (f := ((f_exH Co c (f_pays (K c) (St c) pr) h (He, Ca, sd)).1)) (rfl) rfl (k := ((7 * c) + h)) (by omega) (by omega) (by decide) dX4_expires_53 ?_
        refine jj_goto C0 (tgt := 58) dX4_expires_54 (by decide) ?_
        refine jj_topi (b := (f_lot Co c h (f_pays (K c) (St c) pr) ((f_exH Co c (f_pays (K c) (St c) pr) h (He, Ca, sd)).1))) (by unfold f_lot; first | rw [if_pos ⟨by omega, by omega⟩] | rw [if_neg (by omega)]) ?_
        exact j58 () trivial
set_option maxHeartbeats 4000000 in
set_option maxRecDepth 100000 in
theorem cc_X4_close (hEV : jj_EV EV)  (htd1 : td < 200) (hsums : ∀ c, c < n → f_s7 He c 7 = 0) (hsd : 0 ≤ sd ∧ sd ≤ 2147483647) (hCo : ∀ j, 0 ≤ Co j ∧ Co j ≤ 1) (hovs : ∀ c, c < n → (Ov c = 1 ∧ Ex c < (td : Int)) ∨ (Ov c = 0 ∧ (td : Int) ≤ Ex c)) (hexs : ∀ c, c < n → Ex c ≤ (td : Int) + 10 ∧ Ex c ≤ 200) (hn : n ≤ 12) (htd : td ≤ 200) (hpr : 0 ≤ pr ∧ pr ≤ 20000) (hup : 1 ≤ up ∧ up ≤ 10) (hdn : 1 ≤ dn ∧ dn ≤ 10) (hdv : ∀ j, 0 ≤ dv j ∧ dv j ≤ 1000) (hK : ∀ j, 0 ≤ K j ∧ K j ≤ 1) (hSt : ∀ j, 0 ≤ St j ∧ St j ≤ 20000) (hEx : ∀ j, 0 ≤ Ex j ∧ Ex j ≤ 200) (hAm : ∀ j, 0 ≤ Am j ∧ Am j ≤ 1) (hOv : ∀ j, 0 ≤ Ov j ∧ Ov j ≤ 1) (hHe : ∀ j, -1000000 ≤ He j ∧ He j ≤ 1000000) (hsh : -100000 ≤ sh ∧ sh ≤ 100000) : jj_Mi EV (dC, dI) vwCl [(cI, .int), (cJ, .long), (cZ, .boolean), (cO, .object "java/lang/Object")] l yX4_close (Cond.code yX4_close cX4_close 5 (some .int) :: lw_U) ({ frames := 4, cells := 0, slots := 0, locals := 102 } : Room) [.ref (ad 0)] (wM ad cI cJ cZ th td pr up dn dv n K St Ex Am Ov Bi As BL AL He Co Ca mo sh co sd Cz Ab be ++ E) (S := (Nat → Int) × Int) (fun ⟨ab, b⟩ => ((td + 1 : Nat) : Int)) (fun ⟨ab, b⟩ => True) (fun ⟨ab, b⟩ => wM ad cI cJ cZ 0 (td + 1) pr up dn dv n K St Ex Am ((f_cl K St Ex Co pr td n ((He, Ca, sd), Ov, BL, AL)).2.1) Bi As ((f_cl K St Ex Co pr td n ((He, Ca, sd), Ov, BL, AL)).2.2.1) ((f_cl K St Ex Co pr td n ((He, Ca, sd), Ov, BL, AL)).2.2.2) ((f_cl K St Ex Co pr td n ((He, Ca, sd), Ov, BL, AL)).1.1) Co ((f_cl K St Ex Co pr td n ((He, Ca, sd), Ov, BL, AL)).1.2.1) mo sh co ((f_cl K St Ex Co pr td n ((He, Ca, sd), Ov, BL, AL)).1.2.2) (va_up (va_up Cz 4 ((Cz 4) + ((f_W up dn dv td n K St Ex Am ((f_cl K St Ex Co pr td n ((He, Ca, sd), Ov, BL, AL)).1.1) ((f_cl K St Ex Co pr td n ((He, Ca, sd), Ov, BL, AL)).1.2.1) sh pr) - (f_W up dn dv td n K St Ex Am He Ca sh pr)))) 2 (((va_up Cz 4 ((Cz 4) + ((f_W up dn dv td n K St Ex Am ((f_cl K St Ex Co pr td n ((He, Ca, sd), Ov, BL, AL)).1.1) ((f_cl K St Ex Co pr td n ((He, Ca, sd), Ov, BL, AL)).1.2.1) sh pr) - (f_W up dn dv td n K St Ex Am He Ca sh pr)))) 2) + ((f_W up dn dv (td + 1) n K St Ex Am ((f_cl K St Ex Co pr td n ((He, Ca, sd), Ov, BL, AL)).1.1) ((f_cl K St Ex Co pr td n ((He, Ca, sd), Ov, BL, AL)).1.2.1) sh pr) - (f_W up dn dv td n K St Ex Am ((f_cl K St Ex Co pr td n ((He, Ca, sd), Ov, BL, AL)).1.1) ((f_cl K St Ex Co pr td n ((He, Ca, sd), Ov, BL, AL)).1.2.1) sh pr)))) ab b ++ E) := by
  refine jj_start (cc := cX4_close) (nL := 5) (ret := (some .int)) (lv := [(0, .ref (ad 0))]) (fun A => jj_Qi _ _ _ _ _ _ A) hEV (by decide) rfl (Nat.le_of_ble_eq_true rfl) rfl ?_
  intro p9 e9 s9 m9 a9 b9 me9 c9 A9 C1 hr hin
  have C0 : jj_C p9 s9 m9 a9 me9 c9 (dC, dI) vwCl A9 5 cX4_close "StrikehallModel" lw_U _ EV := jj_toU C1
  have hw := C0.2.2.2.2.1
  have hJ0 : f_clJ n ((He, Ca, sd), Ov, BL, AL) := ⟨hHe, hsd, hsums⟩
  refine jj_aload_n C0 0 rfl dX4_close_0 ?_
  refine jj_aload_n C0 0 rfl dX4_close_1 ?_
  refine jj_get C0 (ci := 5) (v := .int (iI (td : Int))) hin_X4 (0) (rfl) rfl 1 (by decide) (hw _ hU_787) (fun _ h9 => h9) rfl dX4_close_2 ?_
  refine jj_sipush C0 dX4_close_5 (by decide) ?_
  refine jj_icmp_ne C0 (by omega) (by omega) dX4_close_8 (tgt := 15) (by decide) (fun c_1 => ?_) (fun c_1 => absurd c_1 (by omega))
  refine jj_iconst C0 dX4_close_15 ?_
  refine jj_put C0 (ci := 5) (v := .int (iI 0)) (ty := .int) hin_X4 tyX4 tyX4_ok nmX4 (0) (rfl) rfl 0 (by decide) (hw _ hU_786) (fun _ h9 => h9) rfl (by decide +kernel) (rfl) rfl (Nat.le_of_ble_eq_true rfl) (ws' := wM ad cI cJ cZ 0 td pr up dn dv n K St Ex Am Ov Bi As BL AL He Co Ca mo sh co sd Cz Ab be ++ E) (rfl) dX4_close_16 ?_
  refine jj_aload_n C0 0 rfl dX4_close_19 ?_
  refine jj_get C0 (ci := 5) (v := .int (iI 0)) hin_X4 (0) (rfl) rfl 0 (by decide) (hw _ hU_786) (fun _ h9 => h9) rfl dX4_close_20 ?_
  refine jj_if_le C0 (by omega) dX4_close_23 (tgt := 28) (by decide) (fun c_2 => ?_) (fun c_2 => absurd c_2 (by omega))
  refine jj_aload_n C0 0 rfl dX4_close_28 ?_
  refine jj_aload_n C0 0 rfl dX4_close_29 ?_
  refine jj_get C0 (ci := 5) (v := .int (iI pr)) hin_X4 (0) (rfl) rfl 2 (by decide) (hw _ hU_788) (fun _ h9 => h9) rfl dX4_close_30 ?_
  refine jj_callVl C0 (cc_X4_worthAt hEV (fr := pr) (fun c hc => Or.inr (hovs c hc)) (by first | exact hexs | omega) (by first | exact hn | omega) (by first | exact htd | omega) (by omega) (by first | exact hup | omega) (by first | exact hdn | omega) (by first | exact hdv | omega) (by first | exact hK | omega) (by first | exact hSt | omega) (by first | exact hEx | omega) (by first | exact hAm | omega) (by first | exact hOv | omega) (by first | exact hHe | omega) (by first | exact hsh | omega)) (cwV 1 hw (lw_gV hU_877 hU_879 hU_42 hU_66 hU_880) rfl rfl rfl (by decide +kernel) ⟨Nat.le_of_ble_eq_true rfl, Nat.le_of_ble_eq_true rfl⟩) (ci := 5) (q0 := 0) rfl (rfl) rfl rfl (Nat.le_of_ble_eq_true rfl) ⟨by decide, by decide⟩ rfl rfl dX4_close_33 ?_
  intro u hu
  obtain ⟨ab_3, b_3⟩ := u
  show jj_W _ _ _ _ _ _ _ _ _ _ _ _ _ _ _ _ _ 36 _ [.long (lI (f_W up dn dv td n K St Ex Am He Ca sh pr))] (wM ad cI cJ cZ 0 td pr up dn dv n K St Ex Am Ov Bi As BL AL He Co Ca mo sh co sd Cz ab_3 b_3 ++ E)
  refine jj_lstore_n C0 (i := 1) rfl (lv' := [(1, .long (lI (f_W up dn dv td n K St Ex Am He Ca sh pr))), (0, .ref (ad 0))]) (by decide) rfl dX4_close_36 ?_
  refine jj_iconst C0 dX4_close_37 ?_
  refine jj_istore_n C0 (i := 3) rfl (lv' := [(3, .int (iI 0)), (1, .long (lI (f_W up dn dv td n K St Ex Am He Ca sh pr))), (0, .ref (ad 0))]) (by decide) rfl dX4_close_38 ?_
  refine jj_ind (X := Nat) (fun q9 => match q9 with | i => (n + 1 - i : Nat)) (fun q9 => match q9 with | i => [(3, .int (iI (i : Int))), (1, .long (lI (f_W up dn dv td n K St Ex Am He Ca sh pr))), (0, .ref (ad 0))]) (fun q9 => match q9 with | i => []) (fun q9 => match q9 with | i => wM ad cI cJ cZ 0 td pr up dn dv n K St Ex Am ((f_cl K St Ex Co pr td i ((He, Ca, sd), Ov, BL, AL)).2.1) Bi As ((f_cl K St Ex Co pr td i ((He, Ca, sd), Ov, BL, AL)).2.2.1) ((f_cl K St Ex Co pr td i ((He, Ca, sd), Ov, BL, AL)).2.2.2) ((f_cl K St Ex Co pr td i ((He, Ca, sd), Ov, BL, AL)).1.1) Co ((f_cl K St Ex Co pr td i ((He, Ca, sd), Ov, BL, AL)).1.2.1) mo sh co ((f_cl K St Ex Co pr td i ((He, Ca, sd), Ov, BL, AL)).1.2.2) Cz ab_3 b_3 ++ E) (fun q9 => match q9 with | i => i ≤ n) ?_ 0 (Nat.zero_le _)
  intro q9 hq9 ih39
  obtain ⟨i, rfl⟩ : ∃ z, z = q9 := ⟨_, rfl⟩
  have hi : i ≤ n := hq9
  have hJ := f_cl_J (K := K) (St := St) (Ex := Ex) (Co := Co) (pr := pr) (t := td) hJ0 i hi
  have hOvi : ((f_cl K St Ex Co pr td i ((He, Ca, sd), Ov, BL, AL)).2.1) i = Ov i := by rw [f_cl_Ov, if_neg (by omega)]
  have hOv0 := hOv i
  have hExi := hEx i
  show jj_W _ _ _ _ _ _ _ _ _ _ _ _ _ _ _ _ _ 39 [(3, .int (iI (i : Int))), (1, .long (lI (f_W up dn dv td n K St Ex Am He Ca sh pr))), (0, .ref (ad 0))] [] (wM ad cI cJ cZ 0 td pr up dn dv n K St Ex Am ((f_cl K St Ex Co pr td i ((He, Ca, sd), Ov, BL, AL)).2.1) Bi As ((f_cl K St Ex Co pr td i ((He, Ca, sd), Ov, BL, AL)).2.2.1) ((f_cl K St Ex Co pr td i ((He, Ca, sd), Ov, BL, AL)).2.2.2) ((f_cl K St Ex Co pr td i ((He, Ca, sd), Ov, BL, AL)).1.1) Co ((f_cl K St Ex Co pr td i ((He, Ca, sd), Ov, BL, AL)).1.2.1) mo sh co ((f_cl K St Ex Co pr td i ((He, Ca, sd), Ov, BL, AL)).1.2.2) Cz ab_3 b_3 ++ E)
  refine jj_iload_n C0 0 rfl dX4_close_39 ?_
  refine jj_aload_n C0 2 rfl dX4_close_40 ?_
  refine jj_get C0 (ci := 5) (v := .int (iI (n : Int))) hin_X4 (0) (rfl) rfl 6 (by decide) (hw _ hU_792) (fun _ h9 => h9) rfl dX4_close_41 ?_
  refine jj_icmp_ge C0 (by omega) (by omega) dX4_close_44 (tgt := 80) (by decide) (fun c_4 => ?_) (fun c_4 => ?_)
  · have hJn := f_cl_J (K := K) (St := St) (Ex := Ex) (Co := Co) (pr := pr) (t := td) hJ0 n (Nat.le_refl _)
    have hov2 : ∀ c, c < n → Ex c = (td : Int) → ((f_cl K St Ex Co pr td n ((He, Ca, sd), Ov, BL, AL)).1.1) (7 * c + 6) = 0 := fun c hc g => (f_cl_gone g n hc).1 6 (by omega)
    have hov3 : ∀ c, c < n → (Ex c = (td : Int) ∧ ((f_cl K St Ex Co pr td n ((He, Ca, sd), Ov, BL, AL)).2.1) c = 1) ∨ (Ex c ≠ (td : Int) ∧ ((f_cl K St Ex Co pr td n ((He, Ca, sd), Ov, BL, AL)).2.1) c = Ov c) := fun c hc => by rw [f_cl_Ov]; by_cases g : Ex c = (td : Int); exact Or.inl ⟨g, by rw [if_pos ⟨hc, g⟩]⟩; exact Or.inr ⟨g, by rw [if_neg (fun q => g q.2)]⟩
    have hOv4 : ∀ j, 0 ≤ ((f_cl K St Ex Co pr td n ((He, Ca, sd), Ov, BL, AL)).2.1) j ∧ ((f_cl K St Ex Co pr td n ((He, Ca, sd), Ov, BL, AL)).2.1) j ≤ 1 := fun j => by rw [f_cl_Ov]; split; omega; exact hOv j
    refine jj_ws (ws' := wM ad cI cJ cZ 0 td pr up dn dv n K St Ex Am ((f_cl K St Ex Co pr td n ((He, Ca, sd), Ov, BL, AL)).2.1) Bi As ((f_cl K St Ex Co pr td n ((He, Ca, sd), Ov, BL, AL)).2.2.1) ((f_cl K St Ex Co pr td n ((He, Ca, sd), Ov, BL, AL)).2.2.2) ((f_cl K St Ex Co pr td n ((He, Ca, sd), Ov, BL, AL)).1.1) Co ((f_cl K St Ex Co pr td n ((He, Ca, sd), Ov, BL, AL)).1.2.1) mo sh co ((f_cl K St Ex Co pr td n ((He, Ca, sd), Ov, BL, AL)).1.2.2) Cz ab_3 b_3 ++ E) (by rw [show i = n by omega]) ?_
    refine jj_aload_n C0 2 rfl dX4_close_80 ?_
    refine jj_aload_n C0 2 rfl dX4_close_81 ?_
    refine jj_get C0 (ci := 5) (v := .int (iI pr)) hin_X4 (0) (rfl) rfl 2 (by decide) (hw _ hU_788) (fun _ h9 => h9) rfl dX4_close_82 ?_
    refine jj_callVl C0 (cc_X4_worthAt hEV (fr := pr) (fun c hc => by have h3 := hov3 c hc; have h1 := hovs c hc; by_cases g : Ex c = (td : Int); exact Or.inl (hov2 c hc g); exact Or.inr (by omega)) (by first | exact hexs | omega) (by first | exact hn | omega) (by first | exact htd | omega) (by omega) (by first | exact hup | omega) (by first | exact hdn | omega) (by first | exact hdv | omega) (by first | exact hK | omega) (by first | exact hSt | omega) (by first | exact hEx | omega) (by first | exact hAm | omega) hOv4 hJn.1 (by first | exact hsh | omega)) (cwV 1 hw (lw_gV hU_877 hU_879 hU_42 hU_66 hU_880) rfl rfl rfl (by decide +kernel) ⟨Nat.le_of_ble_eq_true rfl, Nat.le_of_ble_eq_true rfl⟩) (ci := 5) (q0 := 0) rfl (rfl) rfl rfl (Nat.le_of_ble_eq_true rfl) ⟨by decide, by decide⟩ rfl rfl dX4_close_85 ?_
    intro u hu
    obtain ⟨ab_5, b_5⟩ := u
    show jj_W _ _ _ _ _ _ _ _ _ _ _ _ _ _ _ _ _ 88 _ [.long (lI (f_W up dn dv td n K St Ex Am ((f_cl K St Ex Co pr td n ((He, Ca, sd), Ov, BL, AL)).1.1) ((f_cl K St Ex Co pr td n ((He, Ca, sd), Ov, BL, AL)).1.2.1) sh pr))] (wM ad cI cJ cZ 0 td pr up dn dv n K St Ex Am ((f_cl K St Ex Co pr td n ((He, Ca, sd), Ov, BL, AL)).2.1) Bi As ((f_cl K St Ex Co pr td n ((He, Ca, sd), Ov, BL, AL)).2.2.1) ((f_cl K St Ex Co pr td n ((He, Ca, sd), Ov, BL, AL)).2.2.2) ((f_cl K St Ex Co pr td n ((He, Ca, sd), Ov, BL, AL)).1.1) Co ((f_cl K St Ex Co pr td n ((He, Ca, sd), Ov, BL, AL)).1.2.1) mo sh co ((f_cl K St Ex Co pr td n ((He, Ca, sd), Ov, BL, AL)).1.2.2) Cz ab_5 b_5 ++ E)
    refine jj_lstore_n C0 (i := 3) rfl (lv' := [(3, .long (lI (f_W up dn dv td n K St Ex Am ((f_cl K St Ex Co pr td n ((He, Ca, sd), Ov, BL, AL)).1.1) ((f_cl K St Ex Co pr td n ((He, Ca, sd), Ov, BL, AL)).1.2.1) sh pr))), (1, .long (lI (f_W up dn dv td n K St Ex Am He Ca sh pr))), (0, .ref (ad 0))]) (by decide) rfl dX4_close_88 ?_
    refine jj_aload_n C0 2 rfl dX4_close_89 ?_
    refine jj_dup C0 dX4_close_90 rfl ?_
    refine jj_get C0 (ci := 5) (v := .int (iI (td : Int))) hin_X4 (0) (rfl) rfl 1 (by decide) (hw _ hU_787) (fun _ h9 => h9) rfl dX4_close_91 ?_
    refine jj_iconst C0 dX4_close_94 ?_
    refine jj_iadd C0 dX4_close_95 ?_
    refine jj_topi (b := ((td + 1 : Nat) : Int)) (by omega) ?_
    refine jj_put C0 (ci := 5) (v := .int (iI ((td + 1 : Nat) : Int))) (ty := .int) hin_X4 tyX4 tyX4_ok nmX4 (0) (rfl) rfl 1 (by decide) (hw _ hU_787) (fun _ h9 => h9) rfl (by decide +kernel) (rfl) rfl (Nat.le_of_ble_eq_true rfl) (ws' := wM ad cI cJ cZ 0 (td + 1) pr up dn dv n K St Ex Am ((f_cl K St Ex Co pr td n ((He, Ca, sd), Ov, BL, AL)).2.1) Bi As ((f_cl K St Ex Co pr td n ((He, Ca, sd), Ov, BL, AL)).2.2.1) ((f_cl K St Ex Co pr td n ((He, Ca, sd), Ov, BL, AL)).2.2.2) ((f_cl K St Ex Co pr td n ((He, Ca, sd), Ov, BL, AL)).1.1) Co ((f_cl K St Ex Co pr td n ((He, Ca, sd), Ov, BL, AL)).1.2.1) mo sh co ((f_cl K St Ex Co pr td n ((He, Ca, sd), Ov, BL, AL)).1.2.2) Cz ab_5 b_5 ++ E) (rfl) dX4_close_96 ?_
    refine jj_aload_n C0 2 rfl dX4_close_99 ?_
    refine jj_get C0 (ci := 5) (v := .ref (ad 14)) hin_X4 (0) (rfl) rfl 23 (by decide) (hw _ hU_809) (fun _ h9 => h9) rfl dX4_close_100 ?_
    refine jj_iconst C0 dX4_close_103 ?_
    refine jj_dup2_11 C0 dX4_close_104 rfl rfl ?_
    refine jj_lald C0 (q0 := 14) (t0 := 1) (f := Cz) (rfl) rfl (k := 4) (by omega) (by omega) (by decide) dX4_close_105 ?_
    refine jj_lload_n C0 0 rfl dX4_close_106 ?_
    refine jj_lload_n C0 1 rfl dX4_close_107 ?_
    refine jj_lsub C0 dX4_close_108 ?_
    refine jj_ladd C0 dX4_close_109 ?_
    refine jj_last C0 (q0 := 14) (t0 := 1) (f := Cz) (rfl) rfl (k := 4) (by omega) (by omega) (by decide) (ws' := wM ad cI cJ cZ 0 (td + 1) pr up dn dv n K St Ex Am ((f_cl K St Ex Co pr td n ((He, Ca, sd), Ov, BL, AL)).2.1) Bi As ((f_cl K St Ex Co pr td n ((He, Ca, sd), Ov, BL, AL)).2.2.1) ((f_cl K St Ex Co pr td n ((He, Ca, sd), Ov, BL, AL)).2.2.2) ((f_cl K St Ex Co pr td n ((He, Ca, sd), Ov, BL, AL)).1.1) Co ((f_cl K St Ex Co pr td n ((He, Ca, sd), Ov, BL, AL)).1.2.1) mo sh co ((f_cl K St Ex Co pr td n ((He, Ca, sd), Ov, BL, AL)).1.2.2) (va_up Cz 4 ((Cz 4) + ((f_W up dn dv td n K St Ex Am ((f_cl K St Ex Co pr td n ((He, Ca, sd), Ov, BL, AL)).1.1) ((f_cl K St Ex Co pr td n ((He, Ca, sd), Ov, BL, AL)).1.2.1) sh pr) - (f_W up dn dv td n K St Ex Am He Ca sh pr)))) ab_5 b_5 ++ E) (rfl) dX4_close_110 ?_
    refine jj_aload_n C0 2 rfl dX4_close_111 ?_
    refine jj_get C0 (ci := 5) (v := .ref (ad 14)) hin_X4 (0) (rfl) rfl 23 (by decide) (hw _ hU_809) (fun _ h9 => h9) rfl dX4_close_112 ?_
    refine jj_iconst C0 dX4_close_115 ?_
    refine jj_dup2_11 C0 dX4_close_116 rfl rfl ?_
    refine jj_lald C0 (q0 := 14) (t0 := 1) (f := va_up Cz 4 ((Cz 4) + ((f_W up dn dv td n K St Ex Am ((f_cl K St Ex Co pr td n ((He, Ca, sd), Ov, BL, AL)).1.1) ((f_cl K St Ex Co pr td n ((He, Ca, sd), Ov, BL, AL)).1.2.1) sh pr) - (f_W up dn dv td n K St Ex Am He Ca sh pr)))) (rfl) rfl (k := 2) (by omega) (by omega) (by decide) dX4_close_117 ?_
    refine jj_aload_n C0 2 rfl dX4_close_118 ?_
    refine jj_aload_n C0 2 rfl dX4_close_119 ?_
    refine jj_get C0 (ci := 5) (v := .int (iI pr)) hin_X4 (0) (rfl) rfl 2 (by decide) (hw _ hU_788) (fun _ h9 => h9) rfl dX4_close_120 ?_
    refine jj_callVl C0 (cc_X4_worthAt hEV (fr := pr) (fun c hc => by have h3 := hov3 c hc; have h1 := hovs c hc; exact Or.inr (by omega)) (fun c hc => by have h1 := hexs c hc; omega) (by first | exact hn | omega) (by omega) (by omega) (by first | exact hup | omega) (by first | exact hdn | omega) (by first | exact hdv | omega) (by first | exact hK | omega) (by first | exact hSt | omega) (by first | exact hEx | omega) (by first | exact hAm | omega) hOv4 hJn.1 (by first | exact hsh | omega)) (cwV 1 hw (lw_gV hU_877 hU_879 hU_42 hU_66 hU_880) rfl rfl rfl (by decide +kernel) ⟨Nat.le_of_ble_eq_true rfl, Nat.le_of_ble_eq_true rfl⟩) (ci := 5) (q0 := 0) rfl (rfl) rfl rfl (Nat.le_of_ble_eq_true rfl) ⟨by decide, by decide⟩ rfl rfl dX4_close_123 ?_
    intro u hu
    obtain ⟨ab_6, b_6⟩ := u
    show jj_W _ _ _ _ _ _ _ _ _ _ _ _ _ _ _ _ _ 126 _ [.long (lI (f_W up dn dv (td + 1) n K St Ex Am ((f_cl K St Ex Co pr td n ((He, Ca, sd), Ov, BL, AL)).1.1) ((f_cl K St Ex Co pr td n ((He, Ca, sd), Ov, BL, AL)).1.2.1) sh pr)), .long (lI (va_up Cz 4 ((Cz 4) + ((f_W up dn dv td n K St Ex Am ((f_cl K St Ex Co pr td n ((He, Ca, sd), Ov, BL, AL)).1.1) ((f_cl K St Ex Co pr td n ((He, Ca, sd), Ov, BL, AL)).1.2.1) sh pr) - (f_W up dn dv td n K St Ex Am He Ca sh pr))) 2)), .int (iI 2), .ref (ad 14)] (wM ad cI cJ cZ 0 (td + 1) pr up dn dv n K St Ex Am ((f_cl K St Ex Co pr td n ((He, Ca, sd), Ov, BL, AL)).2.1) Bi As ((f_cl K St Ex Co pr td n ((He, Ca, sd), Ov, BL, AL)).2.2.1) ((f_cl K St Ex Co pr td n ((He, Ca, sd), Ov, BL, AL)).2.2.2) ((f_cl K St Ex Co pr td n ((He, Ca, sd), Ov, BL, AL)).1.1) Co ((f_cl K St Ex Co pr td n ((He, Ca, sd), Ov, BL, AL)).1.2.1) mo sh co ((f_cl K St Ex Co pr td n ((He, Ca, sd), Ov, BL, AL)).1.2.2) (va_up Cz 4 ((Cz 4) + ((f_W up dn dv td n K St Ex Am ((f_cl K St Ex Co pr td n ((He, Ca, sd), Ov, BL, AL)).1.1) ((f_cl K St Ex Co pr td n ((He, Ca, sd), Ov, BL, AL)).1.2.1) sh pr) - (f_W up dn dv td n K St Ex Am He Ca sh pr)))) ab_6 b_6 ++ E)
    refine jj_lload_n C0 0 rfl dX4_close_126 ?_
    refine jj_lsub C0 dX4_close_127 ?_
    refine jj_ladd C0 dX4_close_128 ?_
    refine jj_last C0 (q0 := 14) (t0 := 1) (f := va_up Cz 4 ((Cz 4) + ((f_W up dn dv td n K St Ex Am ((f_cl K St Ex Co pr td n ((He, Ca, sd), Ov, BL, AL)).1.1) ((f_cl K St Ex Co pr td n ((He, Ca, sd), Ov, BL, AL)).1.2.1) sh pr) - (f_W up dn dv td n K St Ex Am He Ca sh pr)))) (rfl) rfl (k := 2) (by omega) (by omega) (by decide) (ws' := wM ad cI cJ cZ 0 (td + 1) pr up dn dv n K St Ex Am ((f_cl K St Ex Co pr td n ((He, Ca, sd), Ov, BL, AL)).2.1) Bi As ((f_cl K St Ex Co pr td n ((He, Ca, sd), Ov, BL, AL)).2.2.1) ((f_cl K St Ex Co pr td n ((He, Ca, sd), Ov, BL, AL)).2.2.2) ((f_cl K St Ex Co pr td n ((He, Ca, sd), Ov, BL, AL)).1.1) Co ((f_cl K St Ex Co pr td n ((He, Ca, sd), Ov, BL, AL)).1.2.1) mo sh co ((f_cl K St Ex Co pr td n ((He, Ca, sd), Ov, BL, AL)).1.2.2) (va_up (va_up Cz 4 ((Cz 4) + ((f_W up dn dv td n K St Ex Am ((f_cl K St Ex Co pr td n ((He, Ca, sd), Ov, BL, AL)).1.1) ((f_cl K St Ex Co pr td n ((He, Ca, sd), Ov, BL, AL)).1.2.1) sh pr) - (f_W up dn dv td n K St Ex Am He Ca sh pr)))) 2 ((va_up Cz 4 ((Cz 4) + ((f_W up dn dv td n K St Ex Am ((f_cl K St Ex Co pr td n ((He, Ca, sd), Ov, BL, AL)).1.1) ((f_cl K St Ex Co pr td n ((He, Ca, sd), Ov, BL, AL)).1.2.1) sh pr) - (f_W up dn dv td n K St Ex Am He Ca sh pr))) 2) + ((f_W up dn dv (td + 1) n K St Ex Am ((f_cl K St Ex Co pr td n ((He, Ca, sd), Ov, BL, AL)).1.1) ((f_cl K St Ex Co pr td n ((He, Ca, sd), Ov, BL, AL)).1.2.1) sh pr) - (f_W up dn dv td n K St Ex Am ((f_cl K St Ex Co pr td n ((He, Ca, sd), Ov, BL, AL)).1.1) ((f_cl K St Ex Co pr td n ((He, Ca, sd), Ov, BL, AL)).1.2.1) sh pr)))) ab_6 b_6 ++ E) (rfl) dX4_close_129 ?_
    refine jj_aload_n C0 2 rfl dX4_close_130 ?_
    refine jj_get C0 (ci := 5) (v := .int (iI ((td + 1) : Int))) hin_X4 (0) (rfl) rfl 1 (by decide) (hw _ hU_787) (fun _ h9 => h9) rfl dX4_close_131 ?_
    exact jj_iret C0 hr (ab_6, b_6) (trivial) (rfl) (rfl) (by decide) (by decide) dX4_close_134
  · have hov1 := hovs i (by omega)
    refine jj_aload_n C0 2 rfl dX4_close_47 ?_
    refine jj_get C0 (ci := 5) (v := .ref (ad 6)) hin_X4 (0) (rfl) rfl 11 (by decide) (hw _ hU_797) (fun _ h9 => h9) rfl dX4_close_48 ?_
    refine jj_iload_n C0 0 rfl dX4_close_51 ?_
    refine jj_zald C0 (q0 := 6) (t0 := 2) (f := ((f_cl K St Ex Co pr td i ((He, Ca, sd), Ov, BL, AL)).2.1)) (rfl) rfl (k := i) (by omega) (by omega) (by decide) dX4_close_52 ?_
    refine jj_if_ne C0 (by omega) dX4_close_53 (tgt := 74) (by decide) (fun c_7 => ?_) (fun c_7 => ?_)
    · refine jj_ws (ws' := wM ad cI cJ cZ 0 td pr up dn dv n K St Ex Am ((f_cl K St Ex Co pr td (i + 1) ((He, Ca, sd), Ov, BL, AL)).2.1) Bi As ((f_cl K St Ex Co pr td (i + 1) ((He, Ca, sd), Ov, BL, AL)).2.2.1) ((f_cl K St Ex Co pr td (i + 1) ((He, Ca, sd), Ov, BL, AL)).2.2.2) ((f_cl K St Ex Co pr td (i + 1) ((He, Ca, sd), Ov, BL, AL)).1.1) Co ((f_cl K St Ex Co pr td (i + 1) ((He, Ca, sd), Ov, BL, AL)).1.2.1) mo sh co ((f_cl K St Ex Co pr td (i + 1) ((He, Ca, sd), Ov, BL, AL)).1.2.2) Cz ab_3 b_3 ++ E) (by simp only [f_cl]; first | rw [if_pos (by omega)] | rw [if_neg (by omega)]) ?_
      refine jj_iinc C0 (z := ((i + 1 : Nat) : Int)) (lv' := [(3, .int (iI ((i + 1 : Nat) : Int))), (1, .long (lI (f_W up dn dv td n K St Ex Am He Ca sh pr))), (0, .ref (ad 0))]) 0 rfl (by omega) (by decide) rfl dX4_close_74 ?_
      refine jj_goto C0 (tgt := 39) dX4_close_77 (by decide) ?_
      exact ih39 (i + 1) (by omega) (by dsimp only; omega)
    · refine jj_aload_n C0 2 rfl dX4_close_56 ?_
      refine jj_get C0 (ci := 5) (v := .ref (ad 4)) hin_X4 (0) (rfl) rfl 9 (by decide) (hw _ hU_795) (fun _ h9 => h9) rfl dX4_close_57 ?_
      refine jj_iload_n C0 0 rfl dX4_close_60 ?_
      refine jj_iald C0 (q0 := 4) (t0 := 0) (f := Ex) (rfl) rfl (k := i) (by omega) (by omega) (by decide) dX4_close_61 ?_
      have hb_Ex_52549 := hEx i
      refine jj_aload_n C0 2 rfl dX4_close_62 ?_
      refine jj_get C0 (ci := 5) (v := .int (iI (td : Int))) hin_X4 (0) (rfl) rfl 1 (by decide) (hw _ hU_787) (fun _ h9 => h9) rfl dX4_close_63 ?_
      refine jj_icmp_ne C0 (by omega) (by omega) dX4_close_66 (tgt := 74) (by decide) (fun c_8 => ?_) (fun c_8 => ?_)
      · refine jj_ws (ws' := wM ad cI cJ cZ 0 td pr up dn dv n K St Ex Am ((f_cl K St Ex Co pr td (i + 1) ((He, Ca, sd), Ov, BL, AL)).2.1) Bi As ((f_cl K St Ex Co pr td (i + 1) ((He, Ca, sd), Ov, BL, AL)).2.2.1) ((f_cl K St Ex Co pr td (i + 1) ((He, Ca, sd), Ov, BL, AL)).2.2.2) ((f_cl K St Ex Co pr td (i + 1) ((He, Ca, sd), Ov, BL, AL)).1.1) Co ((f_cl K St Ex Co pr td (i + 1) ((He, Ca, sd), Ov, BL, AL)).1.2.1) mo sh co ((f_cl K St Ex Co pr td (i + 1) ((He, Ca, sd), Ov, BL, AL)).1.2.2) Cz ab_3 b_3 ++ E) (by simp only [f_cl]; first | rw [if_pos (by omega)] | rw [if_neg (by omega)]) ?_
        refine jj_iinc C0 (z := ((i + 1 : Nat) : Int)) (lv' := [(3, .int (iI ((i + 1 : Nat) : Int))), (1, .long (lI (f_W up dn dv td n K St Ex Am He Ca sh pr))), (0, .ref (ad 0))]) 0 rfl (by omega) (by decide) rfl dX4_close_74 ?_
        refine jj_goto C0 (tgt := 39) dX4_close_77 (by decide) ?_
        exact ih39 (i + 1) (by omega) (by dsimp only; omega)
      · refine jj_aload_n C0 2 rfl dX4_close_69 ?_
        refine jj_iload_n C0 0 rfl dX4_close_70 ?_
        refine jj_callVv C0 (cc_X4_expires hEV (c := i) (by omega) (hJ.2.2 i (by omega)) hJ.2.1 hJ.1 (by first | exact hpr | omega) (by first | exact hK | omega) (by first | exact hSt | omega) (by first | exact hCo | omega)) (cwV 1 hw (lw_gV hU_1013 hU_1015 hU_58 hU_66 hU_1016) rfl rfl rfl (by decide +kernel) ⟨Nat.le_of_ble_eq_true rfl, Nat.le_of_ble_eq_true rfl⟩) (ci := 5) (q0 := 0) rfl (rfl) rfl rfl (Nat.le_of_ble_eq_true rfl) ⟨by decide, by decide⟩ rfl rfl dX4_close_71 ?_
        intro _ hu
        show jj_W _ _ _ _ _ _ _ _ _ _ _ _ _ _ _ _ _ 74 _ [] (wM ad cI cJ cZ 0 td pr up dn dv n K St Ex Am ((f_exp Co i (f_pays (K i) (St i) pr) ((((f_cl K St Ex Co pr td i ((He, Ca, sd), Ov, BL, AL)).1.1), ((f_cl K St Ex Co pr td i ((He, Ca, sd), Ov, BL, AL)).1.2.1), ((f_cl K St Ex Co pr td i ((He, Ca, sd), Ov, BL, AL)).1.2.2)), ((f_cl K St Ex Co pr td i ((He, Ca, sd), Ov, BL, AL)).2.1), ((f_cl K St Ex Co pr td i ((He, Ca, sd), Ov, BL, AL)).2.2.1), ((f_cl K St Ex Co pr td i ((He, Ca, sd), Ov, BL, AL)).2.2.2))).2.1) Bi As ((f_exp Co i (f_pays (K i) (St i) pr) ((((f_cl K St Ex Co pr td i ((He, Ca, sd), Ov, BL, AL)).1.1), ((f_cl K St Ex Co pr td i ((He, Ca, sd), Ov, BL, AL)).1.2.1), ((f_cl K St Ex Co pr td i ((He, Ca, sd), Ov, BL, AL)).1.2.2)), ((f_cl K St Ex Co pr td i ((He, Ca, sd), Ov, BL, AL)).2.1), ((f_cl K St Ex Co pr td i ((He, Ca, sd), Ov, BL, AL)).2.2.1), ((f_cl K St Ex Co pr td i ((He, Ca, sd), Ov, BL, AL)).2.2.2))).2.2.1) ((f_exp Co i (f_pays (K i) (St i) pr) ((((f_cl K St Ex Co pr td i ((He, Ca, sd), Ov, BL, AL)).1.1), ((f_cl K St Ex Co pr td i ((He, Ca, sd), Ov, BL, AL)).1.2.1), ((f_cl K St Ex Co pr td i ((He, Ca, sd), Ov, BL, AL)).1.2.2)), ((f_cl K St Ex Co pr td i ((He, Ca, sd), Ov, BL, AL)).2.1), ((f_cl K St Ex Co pr td i ((He, Ca, sd), Ov, BL, AL)).2.2.1), ((f_cl K St Ex Co pr td i ((He, Ca, sd), Ov, BL, AL)).2.2.2))).2.2.2) ((f_exp Co i (f_pays (K i) (St i) pr) ((((f_cl K St Ex Co pr td i ((He, Ca, sd), Ov, BL, AL)).1.1), ((f_cl K St Ex Co pr td i ((He, Ca, sd), Ov, BL, AL)).1.2.1), ((f_cl K St Ex Co pr td i ((He, Ca, sd), Ov, BL, AL)).1.2.2)), ((f_cl K St Ex Co pr td i ((He, Ca, sd), Ov, BL, AL)).2.1), ((f_cl K St Ex Co pr td i ((He, Ca, sd), Ov, BL, AL)).2.2.1), ((f_cl K St Ex Co pr td i ((He, Ca, sd), Ov, BL, AL)).2.2.2))).1.1) Co ((f_exp Co i (f_pays (K i) (St i) pr) ((((f_cl K St Ex Co pr td i ((He, Ca, sd), Ov, BL, AL)).1.1), ((f_cl K St Ex Co pr td i ((He, Ca, sd), Ov, BL, AL)).1.2.1), ((f_cl K St Ex Co pr td i ((He, Ca, sd), Ov, BL, AL)).1.2.2)), ((f_cl K St Ex Co pr td i ((He, Ca, sd), Ov, BL, AL)).2.1), ((f_cl K St Ex Co pr td i ((He, Ca, sd), Ov, BL, AL)).2.2.1), ((f_cl K St Ex Co pr td i ((He, Ca, sd), Ov, BL, AL)).2.2.2))).1.2.1) mo sh co ((f_exp Co i (f_pays (K i) (St i) pr) ((((f_cl K St Ex Co pr td i ((He, Ca, sd), Ov, BL, AL)).1.1), ((f_cl K St Ex Co pr td i ((He, Ca, sd), Ov, BL, AL)).1.2.1), ((f_cl K St Ex Co pr td i ((He, Ca, sd), Ov, BL, AL)).1.2.2)), ((f_cl K St Ex Co pr td i ((He, Ca, sd), Ov, BL, AL)).2.1), ((f_cl K St Ex Co pr td i ((He, Ca, sd), Ov, BL, AL)).2.2.1), ((f_cl K St Ex Co pr td i ((He, Ca, sd), Ov, BL, AL)).2.2.2))).1.2.2) Cz ab_3 b_3 ++ E)
        refine jj_ws (ws' := wM ad cI cJ cZ 0 td pr up dn dv n K St Ex Am ((f_cl K St Ex Co pr td (i + 1) ((He, Ca, sd), Ov, BL, AL)).2.1) Bi As ((f_cl K St Ex Co pr td (i + 1) ((He, Ca, sd), Ov, BL, AL)).2.2.1) ((f_cl K St Ex Co pr td (i + 1) ((He, Ca, sd), Ov, BL, AL)).2.2.2) ((f_cl K St Ex Co pr td (i + 1) ((He, Ca, sd), Ov, BL, AL)).1.1) Co ((f_cl K St Ex Co pr td (i + 1) ((He, Ca, sd), Ov, BL, AL)).1.2.1) mo sh co ((f_cl K St Ex Co pr td (i + 1) ((He, Ca, sd), Ov, BL, AL)).1.2.2) Cz ab_3 b_3 ++ E) (by simp only [f_cl]; first | rw [if_pos (by omega)] | rw [if_neg (by omega)]) ?_
        refine jj_iinc C0 (z := ((i + 1 : Nat) : Int)) (lv' := [(3, .int (iI ((i + 1 : Nat) : Int))), (1, .long (lI (f_W up dn dv td n K St Ex Am He Ca sh pr))), (0, .ref (ad 0))]) 0 rfl (by omega) (by decide) rfl dX4_close_74 ?_
        refine jj_goto C0 (tgt := 39) dX4_close_77 (by decide) ?_
        exact ih39 (i + 1) (by omega) (by dsimp only; omega)
set_option maxHeartbeats 4000000 in
set_option maxRecDepth 100000 in
theorem cb_X4_close (hEV : jj_EV EV)  {kk : Int} (hbad : td = 200 ∧ kk = 1) : jj_Mi EV (dC, dI) vwCl [(cI, .int), (cJ, .long), (cZ, .boolean), (cO, .object "java/lang/Object")] l yX4_close (Cond.code yX4_close cX4_close 5 (some .int) :: lw_U) ({ frames := 0, cells := 0, slots := 0, locals := 0 } : Room) [.ref (ad 0)] (wM ad cI cJ cZ th td pr up dn dv n K St Ex Am Ov Bi As BL AL He Co Ca mo sh co sd Cz Ab be ++ E) (S := Int) (fun u => u) (fun u => True) (fun u => wM ad cI cJ cZ kk td pr up dn dv n K St Ex Am Ov Bi As BL AL He Co Ca mo sh co sd Cz Ab be ++ E) := by
  refine jj_start (cc := cX4_close) (nL := 5) (ret := (some .int)) (lv := [(0, .ref (ad 0))]) (fun A => jj_Qi _ _ _ _ _ _ A) hEV (by decide) rfl (Nat.le_of_ble_eq_true rfl) rfl ?_
  intro p9 e9 s9 m9 a9 b9 me9 c9 A9 C1 hr hin
  have C0 : jj_C p9 s9 m9 a9 me9 c9 (dC, dI) vwCl A9 5 cX4_close "StrikehallModel" lw_U _ EV := jj_toU C1
  have hw := C0.2.2.2.2.1
  refine jj_aload_n C0 0 rfl dX4_close_0 ?_
  refine jj_aload_n C0 0 rfl dX4_close_1 ?_
  refine jj_get C0 (ci := 5) (v := .int (iI (td : Int))) hin_X4 (0) (rfl) rfl 1 (by decide) (hw _ hU_787) (fun _ h9 => h9) rfl dX4_close_2 ?_
  refine jj_sipush C0 dX4_close_5 (by decide) ?_
  refine jj_icmp_ne C0 (by omega) (by omega) dX4_close_8 (tgt := 15) (by decide) (fun c_1 => ?_) (fun c_1 => ?_)
  · refine jj_iconst C0 dX4_close_15 ?_
    refine jj_put C0 (ci := 5) (v := .int (iI 0)) (ty := .int) hin_X4 tyX4 tyX4_ok nmX4 (0) (rfl) rfl 0 (by decide) (hw _ hU_786) (fun _ h9 => h9) rfl (by decide +kernel) (rfl) rfl (Nat.le_of_ble_eq_true rfl) (ws' := wM ad cI cJ cZ 0 td pr up dn dv n K St Ex Am Ov Bi As BL AL He Co Ca mo sh co sd Cz Ab be ++ E) (rfl) dX4_close_16 ?_
    refine jj_aload_n C0 0 rfl dX4_close_19 ?_
    refine jj_get C0 (ci := 5) (v := .int (iI 0)) hin_X4 (0) (rfl) rfl 0 (by decide) (hw _ hU_786) (fun _ h9 => h9) rfl dX4_close_20 ?_
    refine jj_if_le C0 (by omega) dX4_close_23 (tgt := 28) (by decide) (fun c_2 => ?_) (fun c_2 => absurd c_2 (by omega))
    exfalso
    omega
  · refine jj_iconst C0 dX4_close_11 ?_
    refine jj_goto C0 (tgt := 16) dX4_close_12 (by decide) ?_
    refine jj_put C0 (ci := 5) (v := .int (iI 1)) (ty := .int) hin_X4 tyX4 tyX4_ok nmX4 (0) (rfl) rfl 0 (by decide) (hw _ hU_786) (fun _ h9 => h9) rfl (by decide +kernel) (rfl) rfl (Nat.le_of_ble_eq_true rfl) (ws' := wM ad cI cJ cZ 1 td pr up dn dv n K St Ex Am Ov Bi As BL AL He Co Ca mo sh co sd Cz Ab be ++ E) (rfl) dX4_close_16 ?_
    refine jj_aload_n C0 0 rfl dX4_close_19 ?_
    refine jj_get C0 (ci := 5) (v := .int (iI 1)) hin_X4 (0) (rfl) rfl 0 (by decide) (hw _ hU_786) (fun _ h9 => h9) rfl dX4_close_20 ?_
    refine jj_if_le C0 (by omega) dX4_close_23 (tgt := 28) (by decide) (fun c_3 => absurd c_3 (by omega)) (fun c_3 => ?_)
    refine jj_iconst C0 dX4_close_26 ?_
    obtain rfl : kk = 1 := by omega
    exact jj_iret C0 hr 0 (trivial) (rfl) (rfl) (by decide) (by decide) dX4_close_27
end MM7
