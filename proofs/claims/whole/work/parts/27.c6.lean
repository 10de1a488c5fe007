section CC6
variable {l : Launch} {dC : Nat → ClassId} {dI : Nat → Nat → Nat} {cI cJ cZ cO : ClassId} {EE ws : va_W} {ha cA hA nA : Nat → Nat} {ed : Nat} {td : Nat} {pr up dn : Int} {dv rw : Nat → Int} {sd mc : Int} {n : Nat} {mo sh co : Int} {Ca Cz K St Ex Am Bi As BL AL He Co : Nat → Int}
theorem f_V_e0 {up dn : Int} {dv : Nat → Int} {t : Nat} {ki st am fr : Int} {r d k : Nat} (h : am = 0) : dn * f_V up dn dv t ki st am fr r (d + 1) (k + 1) + up * f_V up dn dv t ki st am fr r (d + 1) k = f_V up dn dv t ki st am fr (r + 1) d k := by
  simp only [f_V]
  rw [if_pos h]
theorem f_V_e1 {up dn : Int} {dv : Nat → Int} {t : Nat} {ki st am fr : Int} {r d k : Nat} (h : ¬ am = 0) : max (dn * f_V up dn dv t ki st am fr r (d + 1) (k + 1) + up * f_V up dn dv t ki st am fr r (d + 1) k) (f_pays ki st (f_price up dn dv t fr d k) * (up + dn) ^ (r + 1)) = f_V up dn dv t ki st am fr (r + 1) d k := by
  simp only [f_V]
  rw [if_neg h]
set_option maxHeartbeats 4000000 in
set_option maxRecDepth 100000 in
theorem cc_X3_exerciseLots  {c k : Nat} {L : Int} (hLb : -1000000 ≤ L ∧ L ≤ 1000000) (hLH : L ≤ 0 ∨ L ≤ He (7 * c + k)) (hk6 : k ≤ 6) (hcn : c < n) (hpr : 0 ≤ pr ∧ pr ≤ 20000) (hK : ∀ j, 0 ≤ K j ∧ K j ≤ 1) (hSt : ∀ j, 0 ≤ St j ∧ St j ≤ 20000) (hHe : ∀ j, -1000000 ≤ He j ∧ He j ≤ 1000000) (hsd : 0 ≤ sd ∧ sd ≤ 2147483647) (hsum : f_s7 He c 7 = 0) : jj_Mv EVh (dC, dI) vwCl [(cI, .int), (cJ, .long), (cZ, .boolean), (cO, .object "java/lang/Object")] l yX3_exerciseLots (Cond.code yX3_exerciseLots cX3_exerciseLots 8 none :: lw_U) ({ frames := 2, cells := 0, slots := 0, locals := 37 } : Room) [.ref (ha 0), .int (iI (k : Int)), .ref (cA c), .int (iI L)] (wH ha cA hA nA ed cI cJ cZ td pr up dn dv rw sd mc n mo sh co Ca Cz K St Ex Am Bi As BL AL He Co ++ EE) (S := Unit)  (fun _ => True) (fun _ => wH ha cA hA nA ed cI cJ cZ td pr up dn dv rw ((f_xN c k (f_pays (K c) (St c) pr) (L).toNat (He, Ca, sd)).2.2) mc n mo sh co ((f_xN c k (f_pays (K c) (St c) pr) (L).toNat (He, Ca, sd)).2.1) Cz K St Ex Am Bi As BL AL ((f_xN c k (f_pays (K c) (St c) pr) (L).toNat (He, Ca, sd)).1) Co ++ EE) := by
  refine jj_start (cc := cX3_exerciseLots) (nL := 8) (ret := none) (lv := [(0, .ref (ha 0)), (1, .int (iI (k : Int))), (2, .ref (cA c)), (3, .int (iI L))]) (fun A => jj_Qv _ _ _ _ _ A) hEVh (by decide) rfl (Nat.le_of_ble_eq_true rfl) rfl ?_
  intro p9 e9 s9 m9 a9 b9 me9 c9 A9 C1 hr hin
  have C0 : jj_C p9 s9 m9 a9 me9 c9 (dC, dI) vwCl A9 8 cX3_exerciseLots "Strikehall" lw_U _ EVh := jj_toU C1
  have hw := C0.2.2.2.2.1
  have hE := C0.2.2.2.2.2.2.2.1
  have hx0 : f_xI c k (He (7 * c + k)) (He, Ca, sd) := ⟨hHe, hsd, hsum, rfl⟩
  have hbr := f_pays_bd (k := K c) (z := pr) (hSt c) (by omega)
  refine jj_ldc2 C0 (z := 1000) (by decide) (hw _ hU_277) dX3_exerciseLots_0 ?_
  refine jj_aload_n C0 2 rfl dX3_exerciseLots_3 ?_
  refine jj_aload_n C0 0 rfl dX3_exerciseLots_4 ?_
  refine jj_get C0 (ci := 4) (v := .ref (ha 1)) hin_X3 (0) (rfl) rfl 0 (by decide) (hw _ hU_156) (fun _ h9 => h9) rfl dX3_exerciseLots_5 ?_
  refine jj_getN C0 (ci := 3) (v := .int (iI pr)) hin_X2 (1) (rfl) rfl 2 (by decide) (va_Nw.use rfl (hE.1 _ (hN_97))) (fun _ h9 => h9) rfl dX3_exerciseLots_8 ?_
  refine jj_callVNi C0 (cc_X0_paysAt  (c := c) (z := pr) (by first | exact hcn | omega) (by omega) (by first | exact hK | omega) (by first | exact hSt | omega)) ⟨va_cnB 1 hw (lw_gc hU_301 lw_UU) rfl rfl rfl (hE.1 _ hN_663) (hw _ hU_75) (by decide +kernel) ⟨Nat.le_of_ble_eq_true rfl, Nat.le_of_ble_eq_true rfl⟩, hw _ hU_300, hw _ hU_18⟩ (ci := 1) (q0 := (8 + (3 * c + 0))) rfl ((wH_c (c := c) (by omega))) rfl rfl (Nat.le_of_ble_eq_true rfl) ⟨by decide, by decide⟩ rfl rfl dX3_exerciseLots_11 ?_
  intro _ hu
  show jj_W _ _ _ _ _ _ _ _ _ _ _ _ _ _ _ _ _ 14 _ [.int (iI (f_pays (K c) (St c) pr)), .long (lI 1000)] (wH ha cA hA nA ed cI cJ cZ td pr up dn dv rw sd mc n mo sh co Ca Cz K St Ex Am Bi As BL AL He Co ++ EE)
  refine jj_i2l C0 (by omega) dX3_exerciseLots_14 ?_
  refine jj_lmul C0 dX3_exerciseLots_15 ?_
  refine jj_lstore C0 (lv' := [(4, .long (lI (1000 * (f_pays (K c) (St c) pr)))), (0, .ref (ha 0)), (1, .int (iI (k : Int))), (2, .ref (cA c)), (3, .int (iI L))]) (by decide) rfl dX3_exerciseLots_16 ?_
  refine jj_iconst C0 dX3_exerciseLots_18 ?_
  refine jj_istore C0 (lv' := [(6, .int (iI 0)), (4, .long (lI (1000 * (f_pays (K c) (St c) pr)))), (0, .ref (ha 0)), (1, .int (iI (k : Int))), (2, .ref (cA c)), (3, .int (iI L))]) (by decide) rfl dX3_exerciseLots_19 ?_
  refine jj_ind (X := Nat) (fun q9 => match q9 with | i => (L.toNat + 1 - i : Nat)) (fun q9 => match q9 with | i => [(6, .int (iI (i : Int))), (4, .long (lI (1000 * (f_pays (K c) (St c) pr)))), (0, .ref (ha 0)), (1, .int (iI (k : Int))), (2, .ref (cA c)), (3, .int (iI L))]) (fun q9 => match q9 with | i => []) (fun q9 => match q9 with | i => wH ha cA hA nA ed cI cJ cZ td pr up dn dv rw ((f_xN c k (f_pays (K c) (St c) pr) i (He, Ca, sd)).2.2) mc n mo sh co ((f_xN c k (f_pays (K c) (St c) pr) i (He, Ca, sd)).2.1) Cz K St Ex Am Bi As BL AL ((f_xN c k (f_pays (K c) (St c) pr) i (He, Ca, sd)).1) Co ++ EE) (fun q9 => match q9 with | i => i = 0 ∨ (i : Int) ≤ L) ?_ 0 (Or.inl rfl)
  intro q9 hq9 ih21
  obtain ⟨i, rfl⟩ : ∃ z, z = q9 := ⟨_, rfl⟩
  have hi : i = 0 ∨ (i : Int) ≤ L := hq9
  show jj_W _ _ _ _ _ _ _ _ _ _ _ _ _ _ _ _ _ 21 [(6, .int (iI (i : Int))), (4, .long (lI (1000 * (f_pays (K c) (St c) pr)))), (0, .ref (ha 0)), (1, .int (iI (k : Int))), (2, .ref (cA c)), (3, .int (iI L))] [] (wH ha cA hA nA ed cI cJ cZ td pr up dn dv rw ((f_xN c k (f_pays (K c) (St c) pr) i (He, Ca, sd)).2.2) mc n mo sh co ((f_xN c k (f_pays (K c) (St c) pr) i (He, Ca, sd)).2.1) Cz K St Ex Am Bi As BL AL ((f_xN c k (f_pays (K c) (St c) pr) i (He, Ca, sd)).1) Co ++ EE)
  refine jj_iload C0 0 rfl dX3_exerciseLots_21 ?_
  refine jj_iload_n C0 5 rfl dX3_exerciseLots_23 ?_
  refine jj_icmp_ge C0 (by omega) (by omega) dX3_exerciseLots_24 (tgt := 79) (by decide) (fun c_1 => ?_) (fun c_1 => ?_)
  · refine jj_ws (ws' := wH ha cA hA nA ed cI cJ cZ td pr up dn dv rw ((f_xN c k (f_pays (K c) (St c) pr) (L).toNat (He, Ca, sd)).2.2) mc n mo sh co ((f_xN c k (f_pays (K c) (St c) pr) (L).toNat (He, Ca, sd)).2.1) Cz K St Ex Am Bi As BL AL ((f_xN c k (f_pays (K c) (St c) pr) (L).toNat (He, Ca, sd)).1) Co ++ EE) (by rw [show i = (L).toNat by omega]) ?_
    exact jj_vret C0 hr () (trivial) (rfl) (by decide) (by decide) dX3_exerciseLots_79
  · have hxi := f_xI_N (br := (f_pays (K c) (St c) pr)) hk6 hx0 i (by omega)
    have hxo := f_xI_ow hk6 (by omega) hxi
    have hx1 := f_xI_1 (br := (f_pays (K c) (St c) pr)) hk6 (by omega) hxi
    have hpk := f_pk_bd (He := (f_xN c k (f_pays (K c) (St c) pr) i (He, Ca, sd)).1) (sd := (f_xN c k (f_pays (K c) (St c) pr) i (He, Ca, sd)).2.2) (c := c) (by omega)
    refine jj_aload_n C0 4 rfl dX3_exerciseLots_27 ?_
    refine jj_aload_n C0 2 rfl dX3_exerciseLots_28 ?_
    refine jj_get C0 (ci := 4) (v := .ref (ha 4)) hin_X3 (0) (rfl) rfl 1 (by decide) (hw _ hU_157) (fun _ h9 => h9) rfl dX3_exerciseLots_29 ?_
    refine jj_aload_n C0 4 rfl dX3_exerciseLots_32 ?_
    refine jj_callVNi C0 (cc_X0_owed  (c := c) (by first | exact hcn | omega) hxi.1) ⟨va_cnB 0 hw (lw_gc hU_667 lw_UU) rfl rfl rfl (hE.1 _ hN_664) (hw _ hU_75) (by decide +kernel) ⟨Nat.le_of_ble_eq_true rfl, Nat.le_of_ble_eq_true rfl⟩, hw _ hU_666, hw _ hU_35⟩ (ci := 1) (q0 := (8 + (3 * c + 0))) rfl ((wH_c (c := c) (by omega))) rfl rfl (Nat.le_of_ble_eq_true rfl) ⟨by decide, by decide⟩ rfl rfl dX3_exerciseLots_33 ?_
    intro _ hu
    show jj_W _ _ _ _ _ _ _ _ _ _ _ _ _ _ _ _ _ 36 _ [.int (iI (f_ow ((f_xN c k (f_pays (K c) (St c) pr) i (He, Ca, sd)).1) c 7)), .ref (ha 4), .ref (cA c)] (wH ha cA hA nA ed cI cJ cZ td pr up dn dv rw ((f_xN c k (f_pays (K c) (St c) pr) i (He, Ca, sd)).2.2) mc n mo sh co ((f_xN c k (f_pays (K c) (St c) pr) i (He, Ca, sd)).2.1) Cz K St Ex Am Bi As BL AL ((f_xN c k (f_pays (K c) (St c) pr) i (He, Ca, sd)).1) Co ++ EE)
    refine jj_callVNi C0 (cc_X1_drawOf  (w := (f_ow ((f_xN c k (f_pays (K c) (St c) pr) i (He, Ca, sd)).1) c 7)) (⟨by omega, by omega⟩) hxi.2.1) ⟨va_cnB 1 hw (lw_gc hU_671 lw_UU) rfl rfl rfl (hE.1 _ hN_668) (hw _ hU_62) (by decide +kernel) ⟨Nat.le_of_ble_eq_true rfl, Nat.le_of_ble_eq_true rfl⟩, hw _ hU_670, hw _ hU_36⟩ (ci := 2) (q0 := 4) rfl (rfl) rfl rfl (Nat.le_of_ble_eq_true rfl) ⟨by decide, by decide⟩ rfl rfl dX3_exerciseLots_36 ?_
    intro _ hu
    show jj_W _ _ _ _ _ _ _ _ _ _ _ _ _ _ _ _ _ 39 _ [.int (iI (f_sd ((f_xN c k (f_pays (K c) (St c) pr) i (He, Ca, sd)).2.2) / 65536 % (f_ow ((f_xN c k (f_pays (K c) (St c) pr) i (He, Ca, sd)).1) c 7))), .ref (cA c)] (wH ha cA hA nA ed cI cJ cZ td pr up dn dv rw (f_sd ((f_xN c k (f_pays (K c) (St c) pr) i (He, Ca, sd)).2.2)) mc n mo sh co ((f_xN c k (f_pays (K c) (St c) pr) i (He, Ca, sd)).2.1) Cz K St Ex Am Bi As BL AL ((f_xN c k (f_pays (K c) (St c) pr) i (He, Ca, sd)).1) Co ++ EE)
    refine jj_topi (b := (f_pk ((f_xN c k (f_pays (K c) (St c) pr) i (He, Ca, sd)).1) ((f_xN c k (f_pays (K c) (St c) pr) i (He, Ca, sd)).2.2) c)) (rfl) ?_
    refine jj_callVNi C0 (cc_X0_owerOf  (c := c) (pk := (f_pk ((f_xN c k (f_pays (K c) (St c) pr) i (He, Ca, sd)).1) ((f_xN c k (f_pays (K c) (St c) pr) i (He, Ca, sd)).2.2) c)) (⟨hpk.1, hpk.2, by omega⟩) (by first | exact hcn | omega) hxi.1) ⟨va_cnB 1 hw (lw_gc hU_679 lw_UU) rfl rfl rfl (hE.1 _ hN_676) (hw _ hU_75) (by decide +kernel) ⟨Nat.le_of_ble_eq_true rfl, Nat.le_of_ble_eq_true rfl⟩, hw _ hU_678, hw _ hU_37⟩ (ci := 1) (q0 := (8 + (3 * c + 0))) rfl ((wH_c (c := c) (by omega))) rfl rfl (Nat.le_of_ble_eq_true rfl) ⟨by decide, by decide⟩ rfl rfl dX3_exerciseLots_39 ?_
    intro _ hu
    show jj_W _ _ _ _ _ _ _ _ _ _ _ _ _ _ _ _ _ 42 _ [.int (iI ((f_py ((f_xN c k (f_pays (K c) (St c) pr) i (He, Ca, sd)).1) c (f_pk ((f_xN c k (f_pays (K c) (St c) pr) i (He, Ca, sd)).1) ((f_xN c k (f_pays (K c) (St c) pr) i (He, Ca, sd)).2.2) c) : Nat) : Int))] (wH ha cA hA nA ed cI cJ cZ td pr up dn dv rw (f_sd ((f_xN c k (f_pays (K c) (St c) pr) i (He, Ca, sd)).2.2)) mc n mo sh co ((f_xN c k (f_pays (K c) (St c) pr) i (He, Ca, sd)).2.1) Cz K St Ex Am Bi As BL AL ((f_xN c k (f_pays (K c) (St c) pr) i (He, Ca, sd)).1) Co ++ EE)
    refine jj_istore C0 (lv' := [(7, .int (iI ((f_py ((f_xN c k (f_pays (K c) (St c) pr) i (He, Ca, sd)).1) c (f_pk ((f_xN c k (f_pays (K c) (St c) pr) i (He, Ca, sd)).1) ((f_xN c k (f_pays (K c) (St c) pr) i (He, Ca, sd)).2.2) c) : Nat) : Int))), (6, .int (iI (i : Int))), (4, .long (lI (1000 * (f_pays (K c) (St c) pr)))), (0, .ref (ha 0)), (1, .int (iI (k : Int))), (2, .ref (cA c)), (3, .int (iI L))]) (by decide) rfl dX3_exerciseLots_42 ?_
    refine jj_aload_n C0 5 rfl dX3_exerciseLots_44 ?_
    refine jj_iload_n C0 4 rfl dX3_exerciseLots_45 ?_
    refine jj_iconst C0 dX3_exerciseLots_46 ?_
    refine jj_callVNv C0 (cc_X0_addLots  (c := c) (k := k) (q := (-1)) (by omega) (by first | exact hcn | omega)) ⟨va_cnB 2 hw (lw_gc hU_611 lw_UU) rfl rfl rfl (hE.1 _ hN_608) (hw _ hU_75) (by decide +kernel) ⟨Nat.le_of_ble_eq_true rfl, Nat.le_of_ble_eq_true rfl⟩, hw _ hU_610, hw _ hU_30⟩ (ci := 1) (q0 := (8 + (3 * c + 0))) rfl ((wH_c (c := c) (by omega))) rfl rfl (Nat.le_of_ble_eq_true rfl) ⟨by decide, by decide⟩ rfl rfl dX3_exerciseLots_47 ?_
    intro _ hu
    show jj_W _ _ _ _ _ _ _ _ _ _ _ _ _ _ _ _ _ 50 _ [] (wH ha cA hA nA ed cI cJ cZ td pr up dn dv rw (f_sd ((f_xN c k (f_pays (K c) (St c) pr) i (He, Ca, sd)).2.2)) mc n mo sh co ((f_xN c k (f_pays (K c) (St c) pr) i (He, Ca, sd)).2.1) Cz K St Ex Am Bi As BL AL (va_up ((f_xN c k (f_pays (K c) (St c) pr) i (He, Ca, sd)).1) (7 * c + k) (((f_xN c k (f_pays (K c) (St c) pr) i (He, Ca, sd)).1) (7 * c + k) + (-1))) Co ++ EE)
    refine jj_aload_n C0 5 rfl dX3_exerciseLots_50 ?_
    refine jj_iload C0 0 rfl dX3_exerciseLots_51 ?_
    refine jj_iconst C0 dX3_exerciseLots_53 ?_
    refine jj_callVNv C0 (cc_X0_addLots  (c := c) (k := (f_py ((f_xN c k (f_pays (K c) (St c) pr) i (He, Ca, sd)).1) c (f_pk ((f_xN c k (f_pays (K c) (St c) pr) i (He, Ca, sd)).1) ((f_xN c k (f_pays (K c) (St c) pr) i (He, Ca, sd)).2.2) c))) (q := 1) hx1.2.2 (by first | exact hcn | omega)) ⟨va_cnB 2 hw (lw_gc hU_611 lw_UU) rfl rfl rfl (hE.1 _ hN_608) (hw _ hU_75) (by decide +kernel) ⟨Nat.le_of_ble_eq_true rfl, Nat.le_of_ble_eq_true rfl⟩, hw _ hU_610, hw _ hU_30⟩ (ci := 1) (q0 := (8 + (3 * c + 0))) rfl ((wH_c (c := c) (by omega))) rfl rfl (Nat.le_of_ble_eq_true rfl) ⟨by decide, by decide⟩ rfl rfl dX3_exerciseLots_54 ?_
    intro _ hu
    show jj_W _ _ _ _ _ _ _ _ _ _ _ _ _ _ _ _ _ 57 _ [] (wH ha cA hA nA ed cI cJ cZ td pr up dn dv rw (f_sd ((f_xN c k (f_pays (K c) (St c) pr) i (He, Ca, sd)).2.2)) mc n mo sh co ((f_xN c k (f_pays (K c) (St c) pr) i (He, Ca, sd)).2.1) Cz K St Ex Am Bi As BL AL (va_up (va_up ((f_xN c k (f_pays (K c) (St c) pr) i (He, Ca, sd)).1) (7 * c + k) (((f_xN c k (f_pays (K c) (St c) pr) i (He, Ca, sd)).1) (7 * c + k) + (-1))) (7 * c + (f_py ((f_xN c k (f_pays (K c) (St c) pr) i (He, Ca, sd)).1) c (f_pk ((f_xN c k (f_pays (K c) (St c) pr) i (He, Ca, sd)).1) ((f_xN c k (f_pays (K c) (St c) pr) i (He, Ca, sd)).2.2) c))) ((va_up ((f_xN c k (f_pays (K c) (St c) pr) i (He, Ca, sd)).1) (7 * c + k) (((f_xN c k (f_pays (K c) (St c) pr) i (He, Ca, sd)).1) (7 * c + k) + (-1))) (7 * c + (f_py ((f_xN c k (f_pays (K c) (St c) pr) i (He, Ca, sd)).1) c (f_pk ((f_xN c k (f_pays (K c) (St c) pr) i (He, Ca, sd)).1) ((f_xN c k (f_pays (K c) (St c) pr) i (He, Ca, sd)).2.2) c))) + 1)) Co ++ EE)
    refine jj_aload_n C0 3 rfl dX3_exerciseLots_57 ?_
    refine jj_iload_n C0 4 rfl dX3_exerciseLots_58 ?_
    refine jj_lload C0 2 rfl dX3_exerciseLots_59 ?_
    refine jj_callVv C0 (cc_X3_addMoney  (k := k) (x := (1000 * (f_pays (K c) (St c) pr))) (by omega)) (cwV 2 hw (lw_gV hU_612 hU_614 hU_31 hU_60 hU_615) rfl rfl rfl (by decide +kernel) ⟨Nat.le_of_ble_eq_true rfl, Nat.le_of_ble_eq_true rfl⟩) (ci := 4) (q0 := 0) rfl (rfl) rfl rfl (Nat.le_of_ble_eq_true rfl) ⟨by decide, by decide⟩ rfl rfl dX3_exerciseLots_61 ?_
    intro _ hu
    show jj_W _ _ _ _ _ _ _ _ _ _ _ _ _ _ _ _ _ 64 _ [] (wH ha cA hA nA ed cI cJ cZ td pr up dn dv rw (f_sd ((f_xN c k (f_pays (K c) (St c) pr) i (He, Ca, sd)).2.2)) mc n mo sh co (va_up ((f_xN c k (f_pays (K c) (St c) pr) i (He, Ca, sd)).2.1) k (((f_xN c k (f_pays (K c) (St c) pr) i (He, Ca, sd)).2.1) k + (1000 * (f_pays (K c) (St c) pr)))) Cz K St Ex Am Bi As BL AL (va_up (va_up ((f_xN c k (f_pays (K c) (St c) pr) i (He, Ca, sd)).1) (7 * c + k) (((f_xN c k (f_pays (K c) (St c) pr) i (He, Ca, sd)).1) (7 * c + k) + (-1))) (7 * c + (f_py ((f_xN c k (f_pays (K c) (St c) pr) i (He, Ca, sd)).1) c (f_pk ((f_xN c k (f_pays (K c) (St c) pr) i (He, Ca, sd)).1) ((f_xN c k (f_pays (K c) (St c) pr) i (He, Ca, sd)).2.2) c))) ((va_up ((f_xN c k (f_pays (K c) (St c) pr) i (He, Ca, sd)).1) (7 * c + k) (((f_xN c k (f_pays (K c) (St c) pr) i (He, Ca, sd)).1) (7 * c + k) + (-1))) (7 * c + (f_py ((f_xN c k (f_pays (K c) (St c) pr) i (He, Ca, sd)).1) c (f_pk ((f_xN c k (f_pays (K c) (St c) pr) i (He, Ca, sd)).1) ((f_xN c k (f_pays (K c) (St c) pr) i (He, Ca, sd)).2.2) c))) + 1)) Co ++ EE)
    refine jj_aload_n C0 3 rfl dX3_exerciseLots_64 ?_
    refine jj_iload C0 0 rfl dX3_exerciseLots_65 ?_
    refine jj_lload C0 2 rfl dX3_exerciseLots_67 ?_
    refine jj_lneg C0 dX3_exerciseLots_69 ?_
    refine jj_callVv C0 (cc_X3_addMoney  (k := (f_py ((f_xN c k (f_pays (K c) (St c) pr) i (He, Ca, sd)).1) c (f_pk ((f_xN c k (f_pays (K c) (St c) pr) i (He, Ca, sd)).1) ((f_xN c k (f_pays (K c) (St c) pr) i (He, Ca, sd)).2.2) c))) (x := (-(1000 * (f_pays (K c) (St c) pr)))) hx1.2.2) (cwV 2 hw (lw_gV hU_612 hU_614 hU_31 hU_60 hU_615) rfl rfl rfl (by decide +kernel) ⟨Nat.le_of_ble_eq_true rfl, Nat.le_of_ble_eq_true rfl⟩) (ci := 4) (q0 := 0) rfl (rfl) rfl rfl (Nat.le_of_ble_eq_true rfl) ⟨by decide, by decide⟩ rfl rfl dX3_exerciseLots_70 ?_
    intro _ hu
    show jj_W _ _ _ _ _ _ _ _ _ _ _ _ _ _ _ _ _ 73 _ [] (wH ha cA hA nA ed cI cJ cZ td pr up dn dv rw (f_sd ((f_xN c k (f_pays (K c) (St c) pr) i (He, Ca, sd)).2.2)) mc n mo sh co (va_up (va_up ((f_xN c k (f_pays (K c) (St c) pr) i (He, Ca, sd)).2.1) k (((f_xN c k (f_pays (K c) (St c) pr) i (He, Ca, sd)).2.1) k + (1000 * (f_pays (K c) (St c) pr)))) (f_py ((f_xN c k (f_pays (K c) (St c) pr) i (He, Ca, sd)).1) c (f_pk ((f_xN c k (f_pays (K c) (St c) pr) i (He, Ca, sd)).1) ((f_xN c k (f_pays (K c) (St c) pr) i (He, Ca, sd)).2.2) c)) ((va_up ((f_xN c k (f_pays (K c) (St c) pr) i (He, Ca, sd)).2.1) k (((f_xN c k (f_pays (K c) (St c) pr) i (He, Ca, sd)).2.1) k + (1000 * (f_pays (K c) (St c) pr)))) (f_py ((f_xN c k (f_pays (K c) (St c) pr) i (He, Ca, sd)).1) c (f_pk ((f_xN c k (f_pays (K c) (St c) pr) i (He, Ca, sd)).1) ((f_xN c k (f_pays (K c) (St c) pr) i (He, Ca, sd)).2.2) c)) + (-(1000 * (f_pays (K c) (St c) pr))))) Cz K St Ex Am Bi As BL AL (va_up (va_up ((f_xN c k (f_pays (K c) (St c) pr) i (He, Ca, sd)).1) (7 * c + k) (((f_xN c k (f_pays (K c) (St c) pr) i (He, Ca, sd)).1) (7 * c + k) + (-1))) (7 * c + (f_py ((f_xN c k (f_pays (K c) (St c) pr) i (He, Ca, sd)).1) c (f_pk ((f_xN c k (f_pays (K c) (St c) pr) i (He, Ca, sd)).1) ((f_xN c k (f_pays (K c) (St c) pr) i (He, Ca, sd)).2.2) c))) ((va_up ((f_xN c k (f_pays (K c) (St c) pr) i (He, Ca, sd)).1) (7 * c + k) (((f_xN c k (f_pays (K c) (St c) pr) i (He, Ca, sd)).1) (7 * c + k) + (-1))) (7 * c + (f_py ((f_xN c k (f_pays (K c) (St c) pr) i (He, Ca, sd)).1) c (f_pk ((f_xN c k (f_pays (K c) (St c) pr) i (He, Ca, sd)).1) ((f_xN c k (f_pays (K c) (St c) pr) i (He, Ca, sd)).2.2) c))) + 1)) Co ++ EE)
    refine jj_ws (ws' := wH ha cA hA nA ed cI cJ cZ td pr up dn dv rw ((f_xN c k (f_pays (K c) (St c) pr) (i + 1) (He, Ca, sd)).2.2) mc n mo sh co ((f_xN c k (f_pays (K c) (St c) pr) (i + 1) (He, Ca, sd)).2.1) Cz K St Ex Am Bi As BL AL ((f_xN c k (f_pays (K c) (St c) pr) (i + 1) (He, Ca, sd)).1) Co ++ EE) (by rw [f_xHe_sw hx1.2.1, f_xCa_sw hx1.2.1]; rfl) ?_
    refine jj_iinc C0 (z := ((i + 1 : Nat) : Int)) (lv' := [(6, .int (iI ((i + 1 : Nat) : Int))), (7, .int (iI ((f_py ((f_xN c k (f_pays (K c) (St c) pr) i (He, Ca, sd)).1) c (f_pk ((f_xN c k (f_pays (K c) (St c) pr) i (He, Ca, sd)).1) ((f_xN c k (f_pays (K c) (St c) pr) i (He, Ca, sd)).2.2) c) : Nat) : Int))), (4, .long (lI (1000 * (f_pays (K c) (St c) pr)))), (0, .ref (ha 0)), (1, .int (iI (k : Int))), (2, .ref (cA c)), (3, .int (iI L))]) 1 rfl (by omega) (by decide) rfl dX3_exerciseLots_73 ?_
    refine jj_goto C0 (tgt := 21) dX3_exerciseLots_76 (by decide) ?_
    refine jj_lv [0, 2, 3, 4, 5, 6] rfl ?_
    exact ih21 (i + 1) (Or.inr (by omega)) (by dsimp only; omega)
set_option maxHeartbeats 4000000 in
set_option maxRecDepth 100000 in
theorem cc_X3_exercise  {c k L : Nat} {z : Int} (hzk : (z = -1 ∧ k = 6) ∨ (z = (k : Int) ∧ k ≤ 5)) (hL : 1 ≤ L ∧ L ≤ 1000) (hHL : (L : Int) ≤ He (7 * c + k)) (hov : (td : Int) ≤ Ex c) (ham : Am c ≠ 0 ∨ Ex c = (td : Int)) (hcn : c < n) (hsum : f_s7 He c 7 = 0) (hsd : 0 ≤ sd ∧ sd ≤ 2147483647) (hpr : 0 ≤ pr ∧ pr ≤ 20000) (hexs : ∀ c, c < n → Ex c ≤ (td : Int) + 10) (hn : n ≤ 12) (htd : td ≤ 200) (hup : 1 ≤ up ∧ up ≤ 10) (hdn : 1 ≤ dn ∧ dn ≤ 10) (hdv : ∀ j, 0 ≤ dv j ∧ dv j ≤ 1000) (hK : ∀ j, 0 ≤ K j ∧ K j ≤ 1) (hSt : ∀ j, 0 ≤ St j ∧ St j ≤ 20000) (hEx : ∀ j, 0 ≤ Ex j ∧ Ex j ≤ 200) (hAm : ∀ j, 0 ≤ Am j ∧ Am j ≤ 1) (hHe : ∀ j, -1000000 ≤ He j ∧ He j ≤ 1000000) (hsh : -100000 ≤ sh ∧ sh ≤ 100000) (hED : 0 < n → f_ED cA n ed cO EE) : jj_Mi EVh (dC, dI) vwCl [(cI, .int), (cJ, .long), (cZ, .boolean), (cO, .object "java/lang/Object")] l yX3_exercise (Cond.code yX3_exercise cX3_exercise 8 (some .int) :: lw_U) ({ frames := 6, cells := 0, slots := 0, locals := 142 } : Room) [.ref (ha 0), .int (iI z), .int (iI (c : Int)), .int (iI (L : Int))] (wH ha cA hA nA ed cI cJ cZ td pr up dn dv rw sd mc n mo sh co Ca Cz K St Ex Am Bi As BL AL He Co ++ EE) (S := (Nat → Int)) (fun r8 => (f_pays (K c) (St c) pr)) (fun r8 => True) (fun r8 => wH ha cA hA nA ed cI cJ cZ td pr up dn dv r8 ((f_xN c k (f_pays (K c) (St c) pr) L (He, Ca, sd)).2.2) mc n mo sh co ((f_xN c k (f_pays (K c) (St c) pr) L (He, Ca, sd)).2.1) (va_up Cz 4 ((Cz 4) + ((f_W up dn dv td n K St Ex Am ((f_xN c k (f_pays (K c) (St c) pr) L (He, Ca, sd)).1) ((f_xN c k (f_pays (K c) (St c) pr) L (He, Ca, sd)).2.1) sh pr) - (f_W up dn dv td n K St Ex Am He Ca sh pr)))) K St Ex Am Bi As BL AL ((f_xN c k (f_pays (K c) (St c) pr) L (He, Ca, sd)).1) Co ++ EE) := by
  refine jj_start (cc := cX3_exercise) (nL := 8) (ret := (some .int)) (lv := [(0, .ref (ha 0)), (1, .int (iI z)), (2, .int (iI (c : Int))), (3, .int (iI (L : Int)))]) (fun A => jj_Qi _ _ _ _ _ _ A) hEVh (by decide) rfl (Nat.le_of_ble_eq_true rfl) rfl ?_
  intro p9 e9 s9 m9 a9 b9 me9 c9 A9 C1 hr hin
  have C0 : jj_C p9 s9 m9 a9 me9 c9 (dC, dI) vwCl A9 8 cX3_exercise "Strikehall" lw_U _ EVh := jj_toU C1
  have hw := C0.2.2.2.2.1
  have hE := C0.2.2.2.2.2.2.2.1
  have hx0 : f_xI c k (He (7 * c + k)) (He, Ca, sd) := ⟨hHe, hsd, hsum, rfl⟩
  have hk6 : k ≤ 6 := by omega
  have hh1 := hHe (7 * c + k)
  have hxL := f_xI_N (br := (f_pays (K c) (St c) pr)) hk6 hx0 L (by omega)
  refine jj_iload_n C0 1 rfl dX3_exercise_0 ?_
  refine jj_callSi C0 (cc_X3_placeOf  (z := z) (k := k) (by first | exact hzk | omega)) (cwS 1 hw (lw_gS hU_654 hU_655 hU_60 hU_656) rfl rfl rfl (by decide +kernel) ⟨Nat.le_of_ble_eq_true rfl, Nat.le_of_ble_eq_true rfl⟩) rfl rfl (Nat.le_of_ble_eq_true rfl) ⟨by decide, by decide⟩ rfl rfl dX3_exercise_1 ?_
  intro _ hu
  show jj_W _ _ _ _ _ _ _ _ _ _ _ _ _ _ _ _ _ 4 _ [.int (iI (k : Int))] (wH ha cA hA nA ed cI cJ cZ td pr up dn dv rw sd mc n mo sh co Ca Cz K St Ex Am Bi As BL AL He Co ++ EE)
  refine jj_istore C0 (lv' := [(4, .int (iI (k : Int))), (0, .ref (ha 0)), (1, .int (iI z)), (2, .int (iI (c : Int))), (3, .int (iI (L : Int)))]) (by decide) rfl dX3_exercise_4 ?_
  refine jj_aload_n C0 1 rfl dX3_exercise_6 ?_
  refine jj_iload_n C0 3 rfl dX3_exercise_7 ?_
  refine jj_callVr C0 (cc_X3_contractOf  (c := c) (by first | exact hcn | omega) (by first | exact hn | omega) (by first | exact hED | omega)) (cwV 1 hw (lw_gV hU_554 hU_556 hU_26 hU_60 hU_557) rfl rfl rfl (by decide +kernel) ⟨Nat.le_of_ble_eq_true rfl, Nat.le_of_ble_eq_true rfl⟩) (ci := 4) (q0 := 0) rfl (rfl) rfl rfl (Nat.le_of_ble_eq_true rfl) ⟨by decide, by decide⟩ rfl rfl dX3_exercise_8 ?_
  intro _ hu
  show jj_W _ _ _ _ _ _ _ _ _ _ _ _ _ _ _ _ _ 11 _ [.ref (cA c)] (wH ha cA hA nA ed cI cJ cZ td pr up dn dv rw sd mc n mo sh co Ca Cz K St Ex Am Bi As BL AL He Co ++ EE)
  refine jj_astore C0 (lv' := [(5, .ref (cA c)), (4, .int (iI (k : Int))), (0, .ref (ha 0)), (1, .int (iI z)), (2, .int (iI (c : Int))), (3, .int (iI (L : Int)))]) (by decide) rfl dX3_exercise_11 ?_
  refine jj_iload_n C0 5 rfl dX3_exercise_13 ?_
  refine jj_iconst C0 dX3_exercise_14 ?_
  refine jj_sipush C0 dX3_exercise_15 (by decide) ?_
  refine jj_callSv C0 (cc_X3_checkRange  (a := (L : Int)) (b := 1) (d := 1000) (by omega) (by omega) (by omega) (by omega)) (cwS 3 hw (lw_gS hU_329 hU_330 hU_60 hU_331) rfl rfl rfl (by decide +kernel) ⟨Nat.le_of_ble_eq_true rfl, Nat.le_of_ble_eq_true rfl⟩) rfl rfl (Nat.le_of_ble_eq_true rfl) ⟨by decide, by decide⟩ rfl rfl dX3_exercise_18 ?_
  intro _ hu
  show jj_W _ _ _ _ _ _ _ _ _ _ _ _ _ _ _ _ _ 21 _ [] (wH ha cA hA nA ed cI cJ cZ td pr up dn dv rw sd mc n mo sh co Ca Cz K St Ex Am Bi As BL AL He Co ++ EE)
  refine jj_aload_n C0 2 rfl dX3_exercise_21 ?_
  refine jj_aload C0 0 rfl dX3_exercise_22 ?_
  refine jj_callVv C0 (cc_X3_checkNotOver  (c := c) (by first | exact hov | omega) (by first | exact hcn | omega) (by first | exact htd | omega) (by first | exact hEx | omega)) (cwV 1 hw (lw_gV hU_574 hU_576 hU_27 hU_60 hU_577) rfl rfl rfl (by decide +kernel) ⟨Nat.le_of_ble_eq_true rfl, Nat.le_of_ble_eq_true rfl⟩) (ci := 4) (q0 := 0) rfl (rfl) rfl rfl (Nat.le_of_ble_eq_true rfl) ⟨by decide, by decide⟩ rfl rfl dX3_exercise_24 ?_
  intro _ hu
  show jj_W _ _ _ _ _ _ _ _ _ _ _ _ _ _ _ _ _ 27 _ [] (wH ha cA hA nA ed cI cJ cZ td pr up dn dv rw sd mc n mo sh co Ca Cz K St Ex Am Bi As BL AL He Co ++ EE)
  refine jj_aload C0 0 rfl dX3_exercise_27 ?_
  refine jj_iload C0 1 rfl dX3_exercise_29 ?_
  refine jj_callVNi C0 (cc_X0_lotsAt  (c := c) (k := k) (by omega) (by first | exact hcn | omega)) ⟨va_cnB 1 hw (lw_gc hU_281 lw_UU) rfl rfl rfl (hE.1 _ hN_278) (hw _ hU_75) (by decide +kernel) ⟨Nat.le_of_ble_eq_true rfl, Nat.le_of_ble_eq_true rfl⟩, hw _ hU_280, hw _ hU_13⟩ (ci := 1) (q0 := (8 + (3 * c + 0))) rfl ((wH_c (c := c) (by omega))) rfl rfl (Nat.le_of_ble_eq_true rfl) ⟨by decide, by decide⟩ rfl rfl dX3_exercise_31 ?_
  intro _ hu
  show jj_W _ _ _ _ _ _ _ _ _ _ _ _ _ _ _ _ _ 34 _ [.int (iI (He (7 * c + k)))] (wH ha cA hA nA ed cI cJ cZ td pr up dn dv rw sd mc n mo sh co Ca Cz K St Ex Am Bi As BL AL He Co ++ EE)
  refine jj_iload_n C0 5 rfl dX3_exercise_34 ?_
  refine jj_icmp_ge C0 (by omega) (by omega) dX3_exercise_35 (tgt := 48) (by decide) (fun c_1 => ?_) (fun c_1 => absurd c_1 (by omega))
  refine jj_aload C0 0 rfl dX3_exercise_48 ?_
  refine jj_getN C0 (ci := 1) (v := .int (iI (Am c))) hin_X0 ((8 + (3 * c + 0))) ((wH_c (c := c) (by omega))) rfl 3 (by decide) (va_Nw.use rfl (hE.1 _ (hN_461))) (fun _ h9 => h9) rfl dX3_exercise_50 ?_
  have hb_Am_8303 := hAm c
  refine jj_if_ne C0 (by omega) dX3_exercise_53 (tgt := 81) (by decide) (fun c_2 => ?_) (fun c_2 => ?_)
  · refine jj_aload_n C0 2 rfl dX3_exercise_81 ?_
    refine jj_callVl C0 (cc_X3_worthNow   (by first | exact hpr | omega) (by first | exact hexs | omega) (by first | exact hn | omega) (by first | exact htd | omega) (by first | exact hup | omega) (by first | exact hdn | omega) (by first | exact hdv | omega) (by first | exact hK | omega) (by first | exact hSt | omega) (by first | exact hEx | omega) (by first | exact hAm | omega) (by first | exact hHe | omega) (by first | exact hsh | omega) (by first | exact hED | omega)) (cwV 0 hw (lw_gV hU_265 hU_267 hU_10 hU_60 hU_268) rfl rfl rfl (by decide +kernel) ⟨Nat.le_of_ble_eq_true rfl, Nat.le_of_ble_eq_true rfl⟩) (ci := 4) (q0 := 0) rfl (rfl) rfl rfl (Nat.le_of_ble_eq_true rfl) ⟨by decide, by decide⟩ rfl rfl dX3_exercise_82 ?_
    intro r8_3 hu
    show jj_W _ _ _ _ _ _ _ _ _ _ _ _ _ _ _ _ _ 85 _ [.long (lI (f_W up dn dv td n K St Ex Am He Ca sh pr))] (wH ha cA hA nA ed cI cJ cZ td pr up dn dv r8_3 sd mc n mo sh co Ca Cz K St Ex Am Bi As BL AL He Co ++ EE)
    refine jj_lstore C0 (lv' := [(6, .long (lI (f_W up dn dv td n K St Ex Am He Ca sh pr))), (5, .ref (cA c)), (4, .int (iI (k : Int))), (0, .ref (ha 0)), (1, .int (iI z)), (2, .int (iI (c : Int))), (3, .int (iI (L : Int)))]) (by decide) rfl dX3_exercise_85 ?_
    refine jj_aload_n C0 3 rfl dX3_exercise_87 ?_
    refine jj_iload C0 2 rfl dX3_exercise_88 ?_
    refine jj_aload C0 1 rfl dX3_exercise_90 ?_
    refine jj_iload_n C0 6 rfl dX3_exercise_92 ?_
    refine jj_callVv C0 (cc_X3_exerciseLots  (k := k) (c := c) (L := (L : Int)) (by omega) (by omega) (by first | exact hk6 | omega) (by first | exact hcn | omega) (by first | exact hpr | omega) (by first | exact hK | omega) (by first | exact hSt | omega) (by first | exact hHe | omega) (by first | exact hsd | omega) (by first | exact hsum | omega)) (cwV 3 hw (lw_gV hU_659 hU_661 hU_34 hU_60 hU_662) rfl rfl rfl (by decide +kernel) ⟨Nat.le_of_ble_eq_true rfl, Nat.le_of_ble_eq_true rfl⟩) (ci := 4) (q0 := 0) rfl (rfl) rfl rfl (Nat.le_of_ble_eq_true rfl) ⟨by decide, by decide⟩ rfl rfl dX3_exercise_93 ?_
    intro _ hu
    show jj_W _ _ _ _ _ _ _ _ _ _ _ _ _ _ _ _ _ 96 _ [] (wH ha cA hA nA ed cI cJ cZ td pr up dn dv r8_3 ((f_xN c k (f_pays (K c) (St c) pr) ((L : Int)).toNat (He, Ca, sd)).2.2) mc n mo sh co ((f_xN c k (f_pays (K c) (St c) pr) ((L : Int)).toNat (He, Ca, sd)).2.1) Cz K St Ex Am Bi As BL AL ((f_xN c k (f_pays (K c) (St c) pr) ((L : Int)).toNat (He, Ca, sd)).1) Co ++ EE)
    refine jj_ws (ws' := wH ha cA hA nA ed cI cJ cZ td pr up dn dv r8_3 ((f_xN c k (f_pays (K c) (St c) pr) L (He, Ca, sd)).2.2) mc n mo sh co ((f_xN c k (f_pays (K c) (St c) pr) L (He, Ca, sd)).2.1) Cz K St Ex Am Bi As BL AL ((f_xN c k (f_pays (K c) (St c) pr) L (He, Ca, sd)).1) Co ++ EE) (by rw [Int.toNat_natCast]) ?_
    refine jj_aload_n C0 3 rfl dX3_exercise_96 ?_
    refine jj_iconst C0 dX3_exercise_97 ?_
    refine jj_aload_n C0 3 rfl dX3_exercise_98 ?_
    refine jj_callVl C0 (cc_X3_worthNow   (by first | exact hpr | omega) (by first | exact hexs | omega) (by first | exact hn | omega) (by first | exact htd | omega) (by first | exact hup | omega) (by first | exact hdn | omega) (by first | exact hdv | omega) (by first | exact hK | omega) (by first | exact hSt | omega) (by first | exact hEx | omega) (by first | exact hAm | omega) hxL.1 (by first | exact hsh | omega) (by first | exact hED | omega)) (cwV 0 hw (lw_gV hU_265 hU_267 hU_10 hU_60 hU_268) rfl rfl rfl (by decide +kernel) ⟨Nat.le_of_ble_eq_true rfl, Nat.le_of_ble_eq_true rfl⟩) (ci := 4) (q0 := 0) rfl (rfl) rfl rfl (Nat.le_of_ble_eq_true rfl) ⟨by decide, by decide⟩ rfl rfl dX3_exercise_99 ?_
    intro r8_4 hu
    show jj_W _ _ _ _ _ _ _ _ _ _ _ _ _ _ _ _ _ 102 _ [.long (lI (f_W up dn dv td n K St Ex Am ((f_xN c k (f_pays (K c) (St c) pr) L (He, Ca, sd)).1) ((f_xN c k (f_pays (K c) (St c) pr) L (He, Ca, sd)).2.1) sh pr)), .int (iI 4), .ref (ha 0)] (wH ha cA hA nA ed cI cJ cZ td pr up dn dv r8_4 ((f_xN c k (f_pays (K c) (St c) pr) L (He, Ca, sd)).2.2) mc n mo sh co ((f_xN c k (f_pays (K c) (St c) pr) L (He, Ca, sd)).2.1) Cz K St Ex Am Bi As BL AL ((f_xN c k (f_pays (K c) (St c) pr) L (He, Ca, sd)).1) Co ++ EE)
    refine jj_lload C0 0 rfl dX3_exercise_102 ?_
    refine jj_lsub C0 dX3_exercise_104 ?_
    refine jj_callVv C0 (cc_X3_addProfit  (k := 4) (x := ((f_W up dn dv td n K St Ex Am ((f_xN c k (f_pays (K c) (St c) pr) L (He, Ca, sd)).1) ((f_xN c k (f_pays (K c) (St c) pr) L (He, Ca, sd)).2.1) sh pr) - (f_W up dn dv td n K St Ex Am He Ca sh pr))) (by omega)) (cwV 2 hw (lw_gV hU_400 hU_402 hU_21 hU_60 hU_403) rfl rfl rfl (by decide +kernel) ⟨Nat.le_of_ble_eq_true rfl, Nat.le_of_ble_eq_true rfl⟩) (ci := 4) (q0 := 0) rfl (rfl) rfl rfl (Nat.le_of_ble_eq_true rfl) ⟨by decide, by decide⟩ rfl rfl dX3_exercise_105 ?_
    intro _ hu
    show jj_W _ _ _ _ _ _ _ _ _ _ _ _ _ _ _ _ _ 108 _ [] (wH ha cA hA nA ed cI cJ cZ td pr up dn dv r8_4 ((f_xN c k (f_pays (K c) (St c) pr) L (He, Ca, sd)).2.2) mc n mo sh co ((f_xN c k (f_pays (K c) (St c) pr) L (He, Ca, sd)).2.1) (va_up Cz 4 (Cz 4 + ((f_W up dn dv td n K St Ex Am ((f_xN c k (f_pays (K c) (St c) pr) L (He, Ca, sd)).1) ((f_xN c k (f_pays (K c) (St c) pr) L (He, Ca, sd)).2.1) sh pr) - (f_W up dn dv td n K St Ex Am He Ca sh pr)))) K St Ex Am Bi As BL AL ((f_xN c k (f_pays (K c) (St c) pr) L (He, Ca, sd)).1) Co ++ EE)
    refine jj_aload C0 1 rfl dX3_exercise_108 ?_
    refine jj_aload_n C0 3 rfl dX3_exercise_110 ?_
    refine jj_get C0 (ci := 4) (v := .ref (ha 1)) hin_X3 (0) (rfl) rfl 0 (by decide) (hw _ hU_156) (fun _ h9 => h9) rfl dX3_exercise_111 ?_
    refine jj_getN C0 (ci := 3) (v := .int (iI pr)) hin_X2 (1) (rfl) rfl 2 (by decide) (va_Nw.use rfl (hE.1 _ (hN_97))) (fun _ h9 => h9) rfl dX3_exercise_114 ?_
    refine jj_callVNi C0 (cc_X0_paysAt  (c := c) (z := pr) (by first | exact hcn | omega) (by omega) (by first | exact hK | omega) (by first | exact hSt | omega)) ⟨va_cnB 1 hw (lw_gc hU_301 lw_UU) rfl rfl rfl (hE.1 _ hN_663) (hw _ hU_75) (by decide +kernel) ⟨Nat.le_of_ble_eq_true rfl, Nat.le_of_ble_eq_true rfl⟩, hw _ hU_300, hw _ hU_18⟩ (ci := 1) (q0 := (8 + (3 * c + 0))) rfl ((wH_c (c := c) (by omega))) rfl rfl (Nat.le_of_ble_eq_true rfl) ⟨by decide, by decide⟩ rfl rfl dX3_exercise_117 ?_
    intro _ hu
    show jj_W _ _ _ _ _ _ _ _ _ _ _ _ _ _ _ _ _ 120 _ [.int (iI (f_pays (K c) (St c) pr))] (wH ha cA hA nA ed cI cJ cZ td pr up dn dv r8_4 ((f_xN c k (f_pays (K c) (St c) pr) L (He, Ca, sd)).2.2) mc n mo sh co ((f_xN c k (f_pays (K c) (St c) pr) L (He, Ca, sd)).2.1) (va_up Cz 4 (Cz 4 + ((f_W up dn dv td n K St Ex Am ((f_xN c k (f_pays (K c) (St c) pr) L (He, Ca, sd)).1) ((f_xN c k (f_pays (K c) (St c) pr) L (He, Ca, sd)).2.1) sh pr) - (f_W up dn dv td n K St Ex Am He Ca sh pr)))) K St Ex Am Bi As BL AL ((f_xN c k (f_pays (K c) (St c) pr) L (He, Ca, sd)).1) Co ++ EE)
    exact jj_iret C0 hr r8_4 (trivial) (rfl) (rfl) (by decide) (by decide) dX3_exercise_120
  · refine jj_aload C0 0 rfl dX3_exercise_56 ?_
    refine jj_getN C0 (ci := 1) (v := .int (iI (Ex c))) hin_X0 ((8 + (3 * c + 0))) ((wH_c (c := c) (by omega))) rfl 2 (by decide) (va_Nw.use rfl (hE.1 _ (hN_458))) (fun _ h9 => h9) rfl dX3_exercise_58 ?_
    have hb_Ex_47718 := hEx c
    refine jj_aload_n C0 2 rfl dX3_exercise_61 ?_
    refine jj_get C0 (ci := 4) (v := .ref (ha 1)) hin_X3 (0) (rfl) rfl 0 (by decide) (hw _ hU_156) (fun _ h9 => h9) rfl dX3_exercise_62 ?_
    refine jj_getN C0 (ci := 3) (v := .int (iI (td : Int))) hin_X2 (1) (rfl) rfl 5 (by decide) (va_Nw.use rfl (hE.1 _ (hN_103))) (fun _ h9 => h9) rfl dX3_exercise_65 ?_
    refine jj_icmp_eq C0 (by omega) (by omega) dX3_exercise_68 (tgt := 81) (by decide) (fun c_5 => ?_) (fun c_5 => absurd c_5 (by omega))
    refine jj_aload_n C0 2 rfl dX3_exercise_81 ?_
    refine jj_callVl C0 (cc_X3_worthNow   (by first | exact hpr | omega) (by first | exact hexs | omega) (by first | exact hn | omega) (by first | exact htd | omega) (by first | exact hup | omega) (by first | exact hdn | omega) (by first | exact hdv | omega) (by first | exact hK | omega) (by first | exact hSt | omega) (by first | exact hEx | omega) (by first | exact hAm | omega) (by first | exact hHe | omega) (by first | exact hsh | omega) (by first | exact hED | omega)) (cwV 0 hw (lw_gV hU_265 hU_267 hU_10 hU_60 hU_268) rfl rfl rfl (by decide +kernel) ⟨Nat.le_of_ble_eq_true rfl, Nat.le_of_ble_eq_true rfl⟩) (ci := 4) (q0 := 0) rfl (rfl) rfl rfl (Nat.le_of_ble_eq_true rfl) ⟨by decide, by decide⟩ rfl rfl dX3_exercise_82 ?_
    intro r8_6 hu
    show jj_W _ _ _ _ _ _ _ _ _ _ _ _ _ _ _ _ _ 85 _ [.long (lI (f_W up dn dv td n K St Ex Am He Ca sh pr))] (wH ha cA hA nA ed cI cJ cZ td pr up dn dv r8_6 sd mc n mo sh co Ca Cz K St Ex Am Bi As BL AL He Co ++ EE)
    refine jj_lstore C0 (lv' := [(6, .long (lI (f_W up dn dv td n K St Ex Am He Ca sh pr))), (5, .ref (cA c)), (4, .int (iI (k : Int))), (0, .ref (ha 0)), (1, .int (iI z)), (2, .int (iI (c : Int))), (3, .int (iI (L : Int)))]) (by decide) rfl dX3_exercise_85 ?_
    refine jj_aload_n C0 3 rfl dX3_exercise_87 ?_
    refine jj_iload C0 2 rfl dX3_exercise_88 ?_
    refine jj_aload C0 1 rfl dX3_exercise_90 ?_
    refine jj_iload_n C0 6 rfl dX3_exercise_92 ?_
    refine jj_callVv C0 (cc_X3_exerciseLots  (k := k) (c := c) (L := (L : Int)) (by omega) (by omega) (by first | exact hk6 | omega) (by first | exact hcn | omega) (by first | exact hpr | omega) (by first | exact hK | omega) (by first | exact hSt | omega) (by first | exact hHe | omega) (by first | exact hsd | omega) (by first | exact hsum | omega)) (cwV 3 hw (lw_gV hU_659 hU_661 hU_34 hU_60 hU_662) rfl rfl rfl (by decide +kernel) ⟨Nat.le_of_ble_eq_true rfl, Nat.le_of_ble_eq_true rfl⟩) (ci := 4) (q0 := 0) rfl (rfl) rfl rfl (Nat.le_of_ble_eq_true rfl) ⟨by decide, by decide⟩ rfl rfl dX3_exercise_93 ?_
    intro _ hu
    show jj_W _ _ _ _ _ _ _ _ _ _ _ _ _ _ _ _ _ 96 _ [] (wH ha cA hA nA ed cI cJ cZ td pr up dn dv r8_6 ((f_xN c k (f_pays (K c) (St c) pr) ((L : Int)).toNat (He, Ca, sd)).2.2) mc n mo sh co ((f_xN c k (f_pays (K c) (St c) pr) ((L : Int)).toNat (He, Ca, sd)).2.1) Cz K St Ex Am Bi As BL AL ((f_xN c k (f_pays (K c) (St c) pr) ((L : Int)).toNat (He, Ca, sd)).1) Co ++ EE)
    refine jj_ws (ws' := wH ha cA hA nA ed cI cJ cZ td pr up dn dv r8_6 ((f_xN c k (f_pays (K c) (St c) pr) L (He, Ca, sd)).2.2) mc n mo sh co ((f_xN c k (f_pays (K c) (St c) pr) L (He, Ca, sd)).2.1) Cz K St Ex Am Bi As BL AL ((f_xN c k (f_pays (K c) (St c) pr) L (He, Ca, sd)).1) Co ++ EE) (by rw [Int.toNat_natCast]) ?_
    refine jj_aload_n C0 3 rfl dX3_exercise_96 ?_
    refine jj_iconst C0 dX3_exercise_97 ?_
    refine jj_aload_n C0 3 rfl dX3_exercise_98 ?_
    refine jj_callVl C0 (cc_X3_worthNow   (by first | exact hpr | omega) (by first | exact hexs | omega) (by first | exact hn | omega) (by first | exact htd | omega) (by first | exact hup | omega) (by first | exact hdn | omega) (by first | exact hdv | omega) (by first | exact hK | omega) (by first | exact hSt | omega) (by first | exact hEx | omega) (by first | exact hAm | omega) hxL.1 (by first | exact hsh | omega) (by first | exact hED | omega)) (cwV 0 hw (lw_gV hU_265 hU_267 hU_10 hU_60 hU_268) rfl rfl rfl (by decide +kernel) ⟨Nat.le_of_ble_eq_true rfl, Nat.le_of_ble_eq_true rfl⟩) (ci := 4) (q0 := 0) rfl (rfl) rfl rfl (Nat.le_of_ble_eq_true rfl) ⟨by decide, by decide⟩ rfl rfl dX3_exercise_99 ?_
    intro r8_7 hu
    show jj_W _ _ _ _ _ _ _ _ _ _ _ _ _ _ _ _ _ 102 _ [.long (lI (f_W up dn dv td n K St Ex Am ((f_xN c k (f_pays (K c) (St c) pr) L (He, Ca, sd)).1) ((f_xN c k (f_pays (K c) (St c) pr) L (He, Ca, sd)).2.1) sh pr)), .int (iI 4), .ref (ha 0)] (wH ha cA hA nA ed cI cJ cZ td pr up dn dv r8_7 ((f_xN c k (f_pays (K c) (St c) pr) L (He, Ca, sd)).2.2) mc n mo sh co ((f_xN c k (f_pays (K c) (St c) pr) L (He, Ca, sd)).2.1) Cz K St Ex Am Bi As BL AL ((f_xN c k (f_pays (K c) (St c) pr) L (He, Ca, sd)).1) Co ++ EE)
    refine jj_lload C0 0 rfl dX3_exercise_102 ?_
    refine jj_lsub C0 dX3_exercise_104 ?_
    refine jj_callVv C0 (cc_X3_addProfit  (k := 4) (x := ((f_W up dn dv td n K St Ex Am ((f_xN c k (f_pays (K c) (St c) pr) L (He, Ca, sd)).1) ((f_xN c k (f_pays (K c) (St c) pr) L (He, Ca, sd)).2.1) sh pr) - (f_W up dn dv td n K St Ex Am He Ca sh pr))) (by omega)) (cwV 2 hw (lw_gV hU_400 hU_402 hU_21 hU_60 hU_403) rfl rfl rfl (by decide +kernel) ⟨Nat.le_of_ble_eq_true rfl, Nat.le_of_ble_eq_true rfl⟩) (ci := 4) (q0 := 0) rfl (rfl) rfl rfl (Nat.le_of_ble_eq_true rfl) ⟨by decide, by decide⟩ rfl rfl dX3_exercise_105 ?_
    intro _ hu
    show jj_W _ _ _ _ _ _ _ _ _ _ _ _ _ _ _ _ _ 108 _ [] (wH ha cA hA nA ed cI cJ cZ td pr up dn dv r8_7 ((f_xN c k (f_pays (K c) (St c) pr) L (He, Ca, sd)).2.2) mc n mo sh co ((f_xN c k (f_pays (K c) (St c) pr) L (He, Ca, sd)).2.1) (va_up Cz 4 (Cz 4 + ((f_W up dn dv td n K St Ex Am ((f_xN c k (f_pays (K c) (St c) pr) L (He, Ca, sd)).1) ((f_xN c k (f_pays (K c) (St c) pr) L (He, Ca, sd)).2.1) sh pr) - (f_W up dn dv td n K St Ex Am He Ca sh pr)))) K St Ex Am Bi As BL AL ((f_xN c k (f_pays (K c) (St c) pr) L (He, Ca, sd)).1) Co ++ EE)
    refine jj_aload C0 1 rfl dX3_exercise_108 ?_
    refine jj_aload_n C0 3 rfl dX3_exercise_110 ?_
    refine jj_get C0 (ci := 4) (v := .ref (ha 1)) hin_X3 (0) (rfl) rfl 0 (by decide) (hw _ hU_156) (fun _ h9 => h9) rfl dX3_exercise_111 ?_
    refine jj_getN C0 (ci := 3) (v := .int (iI pr)) hin_X2 (1) (rfl) rfl 2 (by decide) (va_Nw.use rfl (hE.1 _ (hN_97))) (fun _ h9 => h9) rfl dX3_exercise_114 ?_
    refine jj_callVNi C0 (cc_X0_paysAt  (c := c) (z := pr) (by first | exact hcn | omega) (by omega) (by first | exact hK | omega) (by first | exact hSt | omega)) ⟨va_cnB 1 hw (lw_gc hU_301 lw_UU) rfl rfl rfl (hE.1 _ hN_663) (hw _ hU_75) (by decide +kernel) ⟨Nat.le_of_ble_eq_true rfl, Nat.le_of_ble_eq_true rfl⟩, hw _ hU_300, hw _ hU_18⟩ (ci := 1) (q0 := (8 + (3 * c + 0))) rfl ((wH_c (c := c) (by omega))) rfl rfl (Nat.le_of_ble_eq_true rfl) ⟨by decide, by decide⟩ rfl rfl dX3_exercise_117 ?_
    intro _ hu
    show jj_W _ _ _ _ _ _ _ _ _ _ _ _ _ _ _ _ _ 120 _ [.int (iI (f_pays (K c) (St c) pr))] (wH ha cA hA nA ed cI cJ cZ td pr up dn dv r8_7 ((f_xN c k (f_pays (K c) (St c) pr) L (He, Ca, sd)).2.2) mc n mo sh co ((f_xN c k (f_pays (K c) (St c) pr) L (He, Ca, sd)).2.1) (va_up Cz 4 (Cz 4 + ((f_W up dn dv td n K St Ex Am ((f_xN c k (f_pays (K c) (St c) pr) L (He, Ca, sd)).1) ((f_xN c k (f_pays (K c) (St c) pr) L (He, Ca, sd)).2.1) sh pr) - (f_W up dn dv td n K St Ex Am He Ca sh pr)))) K St Ex Am Bi As BL AL ((f_xN c k (f_pays (K c) (St c) pr) L (He, Ca, sd)).1) Co ++ EE)
    exact jj_iret C0 hr r8_7 (trivial) (rfl) (rfl) (by decide) (by decide) dX3_exercise_120
set_option maxHeartbeats 4000000 in
set_option maxRecDepth 100000 in
theorem cc_X3_expire  {c : Nat} {Ov : Nat → Int} (hcn : c < n) (hsum : f_s7 He c 7 = 0) (hsd : 0 ≤ sd ∧ sd ≤ 2147483647) (hHe : ∀ j, -1000000 ≤ He j ∧ He j ≤ 1000000) (hpr : 0 ≤ pr ∧ pr ≤ 20000) (hK : ∀ j, 0 ≤ K j ∧ K j ≤ 1) (hSt : ∀ j, 0 ≤ St j ∧ St j ≤ 20000) (hCo : ∀ j, 0 ≤ Co j ∧ Co j ≤ 1) (hBL : ∀ j, 0 ≤ BL j ∧ BL j ≤ 100) (hAL : ∀ j, 0 ≤ AL j ∧ AL j ≤ 100) : jj_Mv EVh (dC, dI) vwCl [(cI, .int), (cJ, .long), (cZ, .boolean), (cO, .object "java/lang/Object")] l yX3_expire (Cond.code yX3_expire cX3_expire 3 none :: lw_U) ({ frames := 3, cells := 0, slots := 0, locals := 64 } : Room) [.ref (ha 0), .ref (cA c)] (wH ha cA hA nA ed cI cJ cZ td pr up dn dv rw sd mc n mo sh co Ca Cz K St Ex Am Bi As BL AL He Co ++ EE) (S := Unit)  (fun _ => True) (fun _ => wH ha cA hA nA ed cI cJ cZ td pr up dn dv rw (((f_exp Co c (f_pays (K c) (St c) pr) ((He, Ca, sd), Ov, BL, AL)).1).2.2) mc n mo sh co (((f_exp Co c (f_pays (K c) (St c) pr) ((He, Ca, sd), Ov, BL, AL)).1).2.1) Cz K St Ex Am (va_up Bi c 0) (va_up As c 0) ((f_exp Co c (f_pays (K c) (St c) pr) ((He, Ca, sd), Ov, BL, AL)).2.2.1) ((f_exp Co c (f_pays (K c) (St c) pr) ((He, Ca, sd), Ov, BL, AL)).2.2.2) (((f_exp Co c (f_pays (K c) (St c) pr) ((He, Ca, sd), Ov, BL, AL)).1).1) Co ++ EE) := by
  refine jj_start (cc := cX3_expire) (nL := 3) (ret := none) (lv := [(0, .ref (ha 0)), (1, .ref (cA c))]) (fun A => jj_Qv _ _ _ _ _ A) hEVh (by decide) rfl (Nat.le_of_ble_eq_true rfl) rfl ?_
  intro p9 e9 s9 m9 a9 b9 me9 c9 A9 C1 hr hin
  have C0 : jj_C p9 s9 m9 a9 me9 c9 (dC, dI) vwCl A9 3 cX3_expire "Strikehall" lw_U _ EVh := jj_toU C1
  have hw := C0.2.2.2.2.1
  have hE := C0.2.2.2.2.2.2.2.1
  have hJ0 : f_xJ c (He, Ca, sd) := ⟨hHe, hsd, hsum⟩
  have hbr := f_pays_bd (k := K c) (z := pr) (hSt c) (by omega)
  refine jj_aload_n C0 1 rfl dX3_expire_0 ?_
  refine jj_aload_n C0 0 rfl dX3_expire_1 ?_
  refine jj_get C0 (ci := 4) (v := .ref (ha 1)) hin_X3 (0) (rfl) rfl 0 (by decide) (hw _ hU_156) (fun _ h9 => h9) rfl dX3_expire_2 ?_
  refine jj_getN C0 (ci := 3) (v := .int (iI pr)) hin_X2 (1) (rfl) rfl 2 (by decide) (va_Nw.use rfl (hE.1 _ (hN_97))) (fun _ h9 => h9) rfl dX3_expire_5 ?_
  refine jj_callVNi C0 (cc_X0_paysAt  (c := c) (z := pr) (by first | exact hcn | omega) (by omega) (by first | exact hK | omega) (by first | exact hSt | omega)) ⟨va_cnB 1 hw (lw_gc hU_301 lw_UU) rfl rfl rfl (hE.1 _ hN_663) (hw _ hU_75) (by decide +kernel) ⟨Nat.le_of_ble_eq_true rfl, Nat.le_of_ble_eq_true rfl⟩, hw _ hU_300, hw _ hU_18⟩ (ci := 1) (q0 := (8 + (3 * c + 0))) rfl ((wH_c (c := c) (by omega))) rfl rfl (Nat.le_of_ble_eq_true rfl) ⟨by decide, by decide⟩ rfl rfl dX3_expire_8 ?_
  intro _ hu
  show jj_W _ _ _ _ _ _ _ _ _ _ _ _ _ _ _ _ _ 11 _ [.int (iI (f_pays (K c) (St c) pr))] (wH ha cA hA nA ed cI cJ cZ td pr up dn dv rw sd mc n mo sh co Ca Cz K St Ex Am Bi As BL AL He Co ++ EE)
  refine jj_if_le C0 (by omega) dX3_expire_11 (tgt := 47) (by decide) (fun c_1 => ?_) (fun c_1 => ?_)
  · refine jj_ws (ws' := wH ha cA hA nA ed cI cJ cZ td pr up dn dv rw ((f_exH Co c (f_pays (K c) (St c) pr) 7 (He, Ca, sd)).2.2) mc n mo sh co ((f_exH Co c (f_pays (K c) (St c) pr) 7 (He, Ca, sd)).2.1) Cz K St Ex Am Bi As BL AL ((f_exH Co c (f_pays (K c) (St c) pr) 7 (He, Ca, sd)).1) Co ++ EE) (by first | rw [f_exH_0 (by omega)] | rw [show h = 7 by omega]) ?_
    refine jj_aload_n C0 1 rfl dX3_expire_47 ?_
    refine jj_callVNv C0 (cc_X0_dropLots  (c := c) (by first | exact hcn | omega)) ⟨va_cnB 0 hw (lw_gc hU_710 lw_UU) rfl rfl rfl (hE.1 _ hN_707) (hw _ hU_75) (by decide +kernel) ⟨Nat.le_of_ble_eq_true rfl, Nat.le_of_ble_eq_true rfl⟩, hw _ hU_709, hw _ hU_41⟩ (ci := 1) (q0 := (8 + (3 * c + 0))) rfl ((wH_c (c := c) (by omega))) rfl rfl (Nat.le_of_ble_eq_true rfl) ⟨by decide, by decide⟩ rfl rfl dX3_expire_48 ?_
    intro _ hu
    show jj_W _ _ _ _ _ _ _ _ _ _ _ _ _ _ _ _ _ 51 _ [] (wH ha cA hA nA ed cI cJ cZ td pr up dn dv rw ((f_exH Co c (f_pays (K c) (St c) pr) 7 (He, Ca, sd)).2.2) mc n mo sh co ((f_exH Co c (f_pays (K c) (St c) pr) 7 (He, Ca, sd)).2.1) Cz K St Ex Am Bi As BL AL (f_z7 ((f_exH Co c (f_pays (K c) (St c) pr) 7 (He, Ca, sd)).1) c 7) Co ++ EE)
    refine jj_aload_n C0 1 rfl dX3_expire_51 ?_
    refine jj_callVNv C0 (cc_X0_takeQuoteAway  (c := c) (by first | exact hcn | omega) (by first | exact hBL | omega) (by first | exact hAL | omega)) ⟨va_cnB 0 hw (lw_gc hU_212 lw_UU) rfl rfl rfl (hE.1 _ hN_209) (hw _ hU_75) (by decide +kernel) ⟨Nat.le_of_ble_eq_true rfl, Nat.le_of_ble_eq_true rfl⟩, hw _ hU_211, hw _ hU_1⟩ (ci := 1) (q0 := (8 + (3 * c + 0))) rfl ((wH_c (c := c) (by omega))) rfl rfl (Nat.le_of_ble_eq_true rfl) ⟨by decide, by decide⟩ rfl rfl dX3_expire_52 ?_
    intro _ hu
    show jj_W _ _ _ _ _ _ _ _ _ _ _ _ _ _ _ _ _ 55 _ [] (wH ha cA hA nA ed cI cJ cZ td pr up dn dv rw ((f_exH Co c (f_pays (K c) (St c) pr) 7 (He, Ca, sd)).2.2) mc n mo sh co ((f_exH Co c (f_pays (K c) (St c) pr) 7 (He, Ca, sd)).2.1) Cz K St Ex Am (va_up Bi c 0) (va_up As c 0) (va_up BL c 0) (va_up AL c 0) (f_z7 ((f_exH Co c (f_pays (K c) (St c) pr) 7 (He, Ca, sd)).1) c 7) Co ++ EE)
    exact jj_vret C0 hr () (trivial) (rfl) (by decide) (by decide) dX3_expire_55
  · refine jj_iconst C0 dX3_expire_14 ?_
    refine jj_istore_n C0 (i := 2) rfl (lv' := [(2, .int (iI 0)), (0, .ref (ha 0)), (1, .ref (cA c))]) (by decide) rfl dX3_expire_15 ?_
    refine jj_ind (X := Nat) (fun q9 => match q9 with | h => (8 - h : Nat)) (fun q9 => match q9 with | h => [(2, .int (iI (h : Int))), (0, .ref (ha 0)), (1, .ref (cA c))]) (fun q9 => match q9 with | h => []) (fun q9 => match q9 with | h => wH ha cA hA nA ed cI cJ cZ td pr up dn dv rw ((f_exH Co c (f_pays (K c) (St c) pr) h (He, Ca, sd)).2.2) mc n mo sh co ((f_exH Co c (f_pays (K c) (St c) pr) h (He, Ca, sd)).2.1) Cz K St Ex Am Bi As BL AL ((f_exH Co c (f_pays (K c) (St c) pr) h (He, Ca, sd)).1) Co ++ EE) (fun q9 => match q9 with | h => h ≤ 7) ?_ 0 (Nat.zero_le _)
    intro q9 hq9 ih16
    obtain ⟨h, rfl⟩ : ∃ z, z = q9 := ⟨_, rfl⟩
    have hh : h ≤ 7 := hq9
    have hJ := f_exH_J (Co := Co) (br := (f_pays (K c) (St c) pr)) hJ0 h hh
    have hJ7 := hJ.1 (7 * c + h)
    have hCo7 := hCo (7 * c + h)
    show jj_W _ _ _ _ _ _ _ _ _ _ _ _ _ _ _ _ _ 16 [(2, .int (iI (h : Int))), (0, .ref (ha 0)), (1, .ref (cA c))] [] (wH ha cA hA nA ed cI cJ cZ td pr up dn dv rw ((f_exH Co c (f_pays (K c) (St c) pr) h (He, Ca, sd)).2.2) mc n mo sh co ((f_exH Co c (f_pays (K c) (St c) pr) h (He, Ca, sd)).2.1) Cz K St Ex Am Bi As BL AL ((f_exH Co c (f_pays (K c) (St c) pr) h (He, Ca, sd)).1) Co ++ EE)
    refine jj_iload_n C0 0 rfl dX3_expire_16 ?_
    refine jj_bipush C0 dX3_expire_17 (by decide) ?_
    refine jj_icmp_ge C0 (by omega) (by omega) dX3_expire_19 (tgt := 47) (by decide) (fun c_2 => ?_) (fun c_2 => ?_)
    · refine jj_ws (ws' := wH ha cA hA nA ed cI cJ cZ td pr up dn dv rw ((f_exH Co c (f_pays (K c) (St c) pr) 7 (He, Ca, sd)).2.2) mc n mo sh co ((f_exH Co c (f_pays (K c) (St c) pr) 7 (He, Ca, sd)).2.1) Cz K St Ex Am Bi As BL AL ((f_exH Co c (f_pays (K c) (St c) pr) 7 (He, Ca, sd)).1) Co ++ EE) (by first | rw [f_exH_0 (by omega)] | rw [show h = 7 by omega]) ?_
      refine jj_aload_n C0 2 rfl dX3_expire_47 ?_
      refine jj_callVNv C0 (cc_X0_dropLots  (c := c) (by first | exact hcn | omega)) ⟨va_cnB 0 hw (lw_gc hU_710 lw_UU) rfl rfl rfl (hE.1 _ hN_707) (hw _ hU_75) (by decide +kernel) ⟨Nat.le_of_ble_eq_true rfl, Nat.le_of_ble_eq_true rfl⟩, hw _ hU_709, hw _ hU_41⟩ (ci := 1) (q0 := (8 + (3 * c + 0))) rfl ((wH_c (c := c) (by omega))) rfl rfl (Nat.le_of_ble_eq_true rfl) ⟨by decide, by decide⟩ rfl rfl dX3_expire_48 ?_
      intro _ hu
      show jj_W _ _ _ _ _ _ _ _ _ _ _ _ _ _ _ _ _ 51 _ [] (wH ha cA hA nA ed cI cJ cZ td pr up dn dv rw ((f_exH Co c (f_pays (K c) (St c) pr) 7 (He, Ca, sd)).2.2) mc n mo sh co ((f_exH Co c (f_pays (K c) (St c) pr) 7 (He, Ca, sd)).2.1) Cz K St Ex Am Bi As BL AL (f_z7 ((f_exH Co c (f_pays (K c) (St c) pr) 7 (He, Ca, sd)).1) c 7) Co ++ EE)
      refine jj_aload_n C0 2 rfl dX3_expire_51 ?_
      refine jj_callVNv C0 (cc_X0_takeQuoteAway  (c := c) (by first | exact hcn | omega) (by first | exact hBL | omega) (by first | exact hAL | omega)) ⟨va_cnB 0 hw (lw_gc hU_212 lw_UU) rfl rfl rfl (hE.1 _ hN_209) (hw _ hU_75) (by decide +kernel) ⟨Nat.le_of_ble_eq_true rfl, Nat.le_of_ble_eq_true rfl⟩, hw _ hU_211, hw _ hU_1⟩ (ci := 1) (q0 := (8 + (3 * c + 0))) rfl ((wH_c (c := c) (by omega))) rfl rfl (Nat.le_of_ble_eq_true rfl) ⟨by decide, by decide⟩ rfl rfl dX3_expire_52 ?_
      intro _ hu
      show jj_W _ _ _ _ _ _ _ _ _ _ _ _ _ _ _ _ _ 55 _ [] (wH ha cA hA nA ed cI cJ cZ td pr up dn dv rw ((f_exH Co c (f_pays (K c) (St c) pr) 7 (He, Ca, sd)).2.2) mc n mo sh co ((f_exH Co c (f_pays (K c) (St c) pr) 7 (He, Ca, sd)).2.1) Cz K St Ex Am (va_up Bi c 0) (va_up As c 0) (va_up BL c 0) (va_up AL c 0) (f_z7 ((f_exH Co c (f_pays (K c) (St c) pr) 7 (He, Ca, sd)).1) c 7) Co ++ EE)
      exact jj_vret C0 hr () (trivial) (rfl) (by decide) (by decide) dX3_expire_55
    · refine jj_aload_n C0 2 rfl dX3_expire_22 ?_
      refine jj_iload_n C0 0 rfl dX3_expire_23 ?_
      refine jj_callVNi C0 (cc_X0_hasNotice  (c := c) (k := h) (by omega) (by first | exact hcn | omega) (by first | exact hCo | omega)) ⟨va_cnB 1 hw (lw_gc hU_706 lw_UU) rfl rfl rfl (hE.1 _ hN_703) (hw _ hU_75) (by decide +kernel) ⟨Nat.le_of_ble_eq_true rfl, Nat.le_of_ble_eq_true rfl⟩, hw _ hU_705, hw _ hU_40⟩ (ci := 1) (q0 := (8 + (3 * c + 0))) rfl ((wH_c (c := c) (by omega))) rfl rfl (Nat.le_of_ble_eq_true rfl) ⟨by decide, by decide⟩ rfl rfl dX3_expire_24 ?_
      intro _ hu
      show jj_W _ _ _ _ _ _ _ _ _ _ _ _ _ _ _ _ _ 27 _ [.int (iI (Co (7 * c + h)))] (wH ha cA hA nA ed cI cJ cZ td pr up dn dv rw ((f_exH Co c (f_pays (K c) (St c) pr) h (He, Ca, sd)).2.2) mc n mo sh co ((f_exH Co c (f_pays (K c) (St c) pr) h (He, Ca, sd)).2.1) Cz K St Ex Am Bi As BL AL ((f_exH Co c (f_pays (K c) (St c) pr) h (He, Ca, sd)).1) Co ++ EE)
      refine jj_if_ne C0 (by omega) dX3_expire_27 (tgt := 41) (by decide) (fun c_3 => ?_) (fun c_3 => ?_)
      · refine jj_ws (ws' := wH ha cA hA nA ed cI cJ cZ td pr up dn dv rw ((f_exH Co c (f_pays (K c) (St c) pr) (h + 1) (He, Ca, sd)).2.2) mc n mo sh co ((f_exH Co c (f_pays (K c) (St c) pr) (h + 1) (He, Ca, sd)).2.1) Cz K St Ex Am Bi As BL AL ((f_exH Co c (f_pays (K c) (St c) pr) (h + 1) (He, Ca, sd)).1) Co ++ EE) (by simp only [f_exH, f_lot]; first | (rw [if_pos ⟨by omega, by omega⟩]; done) | (rw [if_pos ⟨by omega, by omega⟩]; rfl) | (rw [if_neg (by omega)]; rfl)) ?_
        refine jj_iinc C0 (z := ((h + 1 : Nat) : Int)) (lv' := [(2, .int (iI ((h + 1 : Nat) : Int))), (0, .ref (ha 0)), (1, .ref (cA c))]) 0 rfl (by omega) (by decide) rfl dX3_expire_41 ?_
        refine jj_goto C0 (tgt := 16) dX3_expire_44 (by decide) ?_
        exact ih16 (h + 1) (by omega) (by dsimp only; omega)
      · refine jj_aload_n C0 1 rfl dX3_expire_30 ?_
        refine jj_iload_n C0 0 rfl dX3_expire_31 ?_
        refine jj_aload_n C0 2 rfl dX3_expire_32 ?_
        refine jj_aload_n C0 2 rfl dX3_expire_33 ?_
        refine jj_iload_n C0 0 rfl dX3_expire_34 ?_
        refine jj_callVNi C0 (cc_X0_lotsAt  (c := c) (k := h) (by omega) (by first | exact hcn | omega)) ⟨va_cnB 1 hw (lw_gc hU_281 lw_UU) rfl rfl rfl (hE.1 _ hN_278) (hw _ hU_75) (by decide +kernel) ⟨Nat.le_of_ble_eq_true rfl, Nat.le_of_ble_eq_true rfl⟩, hw _ hU_280, hw _ hU_13⟩ (ci := 1) (q0 := (8 + (3 * c + 0))) rfl ((wH_c (c := c) (by omega))) rfl rfl (Nat.le_of_ble_eq_true rfl) ⟨by decide, by decide⟩ rfl rfl dX3_expire_35 ?_
        intro _ hu
        show jj_W _ _ _ _ _ _ _ _ _ _ _ _ _ _ _ _ _ 38 _ [.int (iI (((f_exH Co c (f_pays (K c) (St c) pr) h (He, Ca, sd)).1) (7 * c + h))), .ref (cA c), .int (iI (h : Int)), .ref (ha 0)] (wH ha cA hA nA ed cI cJ cZ td pr up dn dv rw ((f_exH Co c (f_pays (K c) (St c) pr) h (He, Ca, sd)).2.2) mc n mo sh co ((f_exH Co c (f_pays (K c) (St c) pr) h (He, Ca, sd)).2.1) Cz K St Ex Am Bi As BL AL ((f_exH Co c (f_pays (K c) (St c) pr) h (He, Ca, sd)).1) Co ++ EE)
        refine jj_callVv C0 (cc_X3_exerciseLots  (k := h) (c := c) (L := (((f_exH Co c (f_pays (K c) (St c) pr) h (He, Ca, sd)).1) (7 * c + h))) (by omega) (Or.inr (Int.le_refl _)) (by omega) (by first | exact hcn | omega) (by first | exact hpr | omega) (by first | exact hK | omega) (by first | exact hSt | omega) hJ.1 hJ.2.1 hJ.2.2) (cwV 3 hw (lw_gV hU_659 hU_661 hU_34 hU_60 hU_662) rfl rfl rfl (by decide +kernel) ⟨Nat.le_of_ble_eq_true rfl, Nat.le_of_ble_eq_true rfl⟩) (ci := 4) (q0 := 0) rfl (rfl) rfl rfl (Nat.le_of_ble_eq_true rfl) ⟨by decide, by decide⟩ rfl rfl dX3_expire_38 ?_
        intro _ hu
        show jj_W _ _ _ _ _ _ _ _ _ _ _ _ _ _ _ _ _ 41 _ [] (wH ha cA hA nA ed cI cJ cZ td pr up dn dv rw ((f_xN c h (f_pays (K c) (St c) pr) ((((f_exH Co c (f_pays (K c) (St c) pr) h (He, Ca, sd)).1) (7 * c + h))).toNat (((f_exH Co c (f_pays (K c) (St c) pr) h (He, Ca, sd)).1), ((f_exH Co c (f_pays (K c) (St c) pr) h (He, Ca, sd)).2.1), ((f_exH Co c (f_pays (K c) (St c) pr) h (He, Ca, sd)).2.2))).2.2) mc n mo sh co ((f_xN c h (f_pays (K c) (St c) pr) ((((f_exH Co c (f_pays (K c) (St c) pr) h (He, Ca, sd)).1) (7 * c + h))).toNat (((f_exH Co c (f_pays (K c) (St c) pr) h (He, Ca, sd)).1), ((f_exH Co c (f_pays (K c) (St c) pr) h (He, Ca, sd)).2.1), ((f_exH Co c (f_pays (K c) (St c) pr) h (He, Ca, sd)).2.2))).2.1) Cz K St Ex Am Bi As BL AL ((f_xN c h (f_pays (K c) (St c) pr) ((((f_exH Co c (f_pays (K c) (St c) pr) h (He, Ca, sd)).1) (7 * c + h))).toNat (((f_exH Co c (f_pays (K c) (St c) pr) h (He, Ca, sd)).1), ((f_exH Co c (f_pays (K c) (St c) pr) h (He, Ca, sd)).2.1), ((f_exH Co c (f_pays (K c) (St c) pr) h (He, Ca, sd)).2.2))).1) Co ++ EE)
        refine jj_ws (ws' := wH ha cA hA nA ed cI cJ cZ td pr up dn dv rw ((f_exH Co c (f_pays (K c) (St c) pr) (h + 1) (He, Ca, sd)).2.2) mc n mo sh co ((f_exH Co c (f_pays (K c) (St c) pr) (h + 1) (He, Ca, sd)).2.1) Cz K St Ex Am Bi As BL AL ((f_exH Co c (f_pays (K c) (St c) pr) (h + 1) (He, Ca, sd)).1) Co ++ EE) (by simp only [f_exH, f_lot]; first | (rw [if_pos ⟨by omega, by omega⟩]; done) | (rw [if_pos ⟨by omega, by omega⟩]; rfl) | (rw [if_neg (by omega)]; rfl)) ?_
        refine jj_iinc C0 (z := ((h + 1 : Nat) : Int)) (lv' := [(2, .int (iI ((h + 1 : Nat) : Int))), (0, .ref (ha 0)), (1, .ref (cA c))]) 0 rfl (by omega) (by decide) rfl dX3_expire_41 ?_
        refine jj_goto C0 (tgt := 16) dX3_expire_44 (by decide) ?_
        exact ih16 (h + 1) (by omega) (by dsimp only; omega)
set_option maxHeartbeats 4000000 in
set_option maxRecDepth 100000 in
theorem cc_X3_close  {Ov : Nat → Int} (htd1 : td < 200) (hsums : ∀ c, c < n → f_s7 He c 7 = 0) (hsd : 0 ≤ sd ∧ sd ≤ 2147483647) (hCo : ∀ j, 0 ≤ Co j ∧ Co j ≤ 1) (hBL : ∀ j, 0 ≤ BL j ∧ BL j ≤ 100) (hAL : ∀ j, 0 ≤ AL j ∧ AL j ≤ 100) (hpr : 0 ≤ pr ∧ pr ≤ 20000) (hexs : ∀ c, c < n → Ex c ≤ (td : Int) + 10) (hn : n ≤ 12) (htd : td ≤ 200) (hup : 1 ≤ up ∧ up ≤ 10) (hdn : 1 ≤ dn ∧ dn ≤ 10) (hdv : ∀ j, 0 ≤ dv j ∧ dv j ≤ 1000) (hK : ∀ j, 0 ≤ K j ∧ K j ≤ 1) (hSt : ∀ j, 0 ≤ St j ∧ St j ≤ 20000) (hEx : ∀ j, 0 ≤ Ex j ∧ Ex j ≤ 200) (hAm : ∀ j, 0 ≤ Am j ∧ Am j ≤ 1) (hHe : ∀ j, -1000000 ≤ He j ∧ He j ≤ 1000000) (hsh : -100000 ≤ sh ∧ sh ≤ 100000) (hED : 0 < n → f_ED cA n ed cO EE) : jj_Mi EVh (dC, dI) vwCl [(cI, .int), (cJ, .long), (cZ, .boolean), (cO, .object "java/lang/Object")] l yX3_close (Cond.code yX3_close cX3_close 5 (some .int) :: lw_U) ({ frames := 6, cells := 0, slots := 0, locals := 142 } : Room) [.ref (ha 0)] (wH ha cA hA nA ed cI cJ cZ td pr up dn dv rw sd mc n mo sh co Ca Cz K St Ex Am Bi As BL AL He Co ++ EE) (S := (Nat → Int)) (fun r8 => ((td + 1 : Nat) : Int)) (fun r8 => True) (fun r8 => wH ha cA hA nA ed cI cJ cZ (td + 1) pr up dn dv r8 (((f_cl K St Ex Co pr td n ((He, Ca, sd), Ov, BL, AL)).1).2.2) mc n mo sh co (((f_cl K St Ex Co pr td n ((He, Ca, sd), Ov, BL, AL)).1).2.1) (va_up (va_up Cz 4 ((Cz 4) + ((f_W up dn dv td n K St Ex Am ((f_cl K St Ex Co pr td n ((He, Ca, sd), Ov, BL, AL)).1.1) ((f_cl K St Ex Co pr td n ((He, Ca, sd), Ov, BL, AL)).1.2.1) sh pr) - (f_W up dn dv td n K St Ex Am He Ca sh pr)))) 2 (((va_up Cz 4 ((Cz 4) + ((f_W up dn dv td n K St Ex Am ((f_cl K St Ex Co pr td n ((He, Ca, sd), Ov, BL, AL)).1.1) ((f_cl K St Ex Co pr td n ((He, Ca, sd), Ov, BL, AL)).1.2.1) sh pr) - (f_W up dn dv td n K St Ex Am He Ca sh pr)))) 2) + ((f_W up dn dv (td + 1) n K St Ex Am ((f_cl K St Ex Co pr td n ((He, Ca, sd), Ov, BL, AL)).1.1) ((f_cl K St Ex Co pr td n ((He, Ca, sd), Ov, BL, AL)).1.2.1) sh pr) - (f_W up dn dv td n K St Ex Am ((f_cl K St Ex Co pr td n ((He, Ca, sd), Ov, BL, AL)).1.1) ((f_cl K St Ex Co pr td n ((He, Ca, sd), Ov, BL, AL)).1.2.1) sh pr)))) K St Ex Am (f_gone Ex td n Bi) (f_gone Ex td n As) ((f_cl K St Ex Co pr td n ((He, Ca, sd), Ov, BL, AL)).2.2.1) ((f_cl K St Ex Co pr td n ((He, Ca, sd), Ov, BL, AL)).2.2.2) (((f_cl K St Ex Co pr td n ((He, Ca, sd), Ov, BL, AL)).1).1) Co ++ EE) := by
  refine jj_start (cc := cX3_close) (nL := 5) (ret := (some .int)) (lv := [(0, .ref (ha 0))]) (fun A => jj_Qi _ _ _ _ _ _ A) hEVh (by decide) rfl (Nat.le_of_ble_eq_true rfl) rfl ?_
  intro p9 e9 s9 m9 a9 b9 me9 c9 A9 C1 hr hin
  have C0 : jj_C p9 s9 m9 a9 me9 c9 (dC, dI) vwCl A9 5 cX3_close "Strikehall" lw_U _ EVh := jj_toU C1
  have hw := C0.2.2.2.2.1
  have hE := C0.2.2.2.2.2.2.2.1
  have hJ0 : f_clJ n ((He, Ca, sd), Ov, BL, AL) := ⟨hHe, hsd, hsums⟩
  refine jj_aload_n C0 0 rfl dX3_close_0 ?_
  refine jj_get C0 (ci := 4) (v := .ref (ha 1)) hin_X3 (0) (rfl) rfl 0 (by decide) (hw _ hU_156) (fun _ h9 => h9) rfl dX3_close_1 ?_
  refine jj_getN C0 (ci := 3) (v := .int (iI (td : Int))) hin_X2 (1) (rfl) rfl 5 (by decide) (va_Nw.use rfl (hE.1 _ (hN_103))) (fun _ h9 => h9) rfl dX3_close_4 ?_
  refine jj_sipush C0 dX3_close_7 (by decide) ?_
  refine jj_icmp_lt C0 (by omega) (by omega) dX3_close_10 (tgt := 23) (by decide) (fun c_1 => ?_) (fun c_1 => absurd c_1 (by omega))
  refine jj_aload_n C0 0 rfl dX3_close_23 ?_
  refine jj_callVl C0 (cc_X3_worthNow   (by first | exact hpr | omega) (by first | exact hexs | omega) (by first | exact hn | omega) (by first | exact htd | omega) (by first | exact hup | omega) (by first | exact hdn | omega) (by first | exact hdv | omega) (by first | exact hK | omega) (by first | exact hSt | omega) (by first | exact hEx | omega) (by first | exact hAm | omega) (by first | exact hHe | omega) (by first | exact hsh | omega) (by first | exact hED | omega)) (cwV 0 hw (lw_gV hU_265 hU_267 hU_10 hU_60 hU_268) rfl rfl rfl (by decide +kernel) ⟨Nat.le_of_ble_eq_true rfl, Nat.le_of_ble_eq_true rfl⟩) (ci := 4) (q0 := 0) rfl (rfl) rfl rfl (Nat.le_of_ble_eq_true rfl) ⟨by decide, by decide⟩ rfl rfl dX3_close_24 ?_
  intro r8_2 hu
  show jj_W _ _ _ _ _ _ _ _ _ _ _ _ _ _ _ _ _ 27 _ [.long (lI (f_W up dn dv td n K St Ex Am He Ca sh pr))] (wH ha cA hA nA ed cI cJ cZ td pr up dn dv r8_2 sd mc n mo sh co Ca Cz K St Ex Am Bi As BL AL He Co ++ EE)
  refine jj_lstore_n C0 (i := 1) rfl (lv' := [(1, .long (lI (f_W up dn dv td n K St Ex Am He Ca sh pr))), (0, .ref (ha 0))]) (by decide) rfl dX3_close_27 ?_
  refine jj_ws (ws' := wH ha cA hA nA ed cI cJ cZ td pr up dn dv r8_2 (((f_cl K St Ex Co pr td 0 ((He, Ca, sd), Ov, BL, AL)).1).2.2) mc n mo sh co (((f_cl K St Ex Co pr td 0 ((He, Ca, sd), Ov, BL, AL)).1).2.1) Cz K St Ex Am (f_gone Ex td 0 Bi) (f_gone Ex td 0 As) ((f_cl K St Ex Co pr td 0 ((He, Ca, sd), Ov, BL, AL)).2.2.1) ((f_cl K St Ex Co pr td 0 ((He, Ca, sd), Ov, BL, AL)).2.2.2) (((f_cl K St Ex Co pr td 0 ((He, Ca, sd), Ov, BL, AL)).1).1) Co ++ EE) (by rw [f_gone_0, f_gone_0]; rfl) ?_
  refine jj_iconst C0 dX3_close_28 ?_
  refine jj_istore_n C0 (i := 3) rfl (lv' := [(3, .int (iI 0)), (1, .long (lI (f_W up dn dv td n K St Ex Am He Ca sh pr))), (0, .ref (ha 0))]) (by decide) rfl dX3_close_29 ?_
  refine jj_ind (X := Nat) (fun q9 => match q9 with | i => (n + 1 - i : Nat)) (fun q9 => match q9 with | i => [(3, .int (iI (i : Int))), (1, .long (lI (f_W up dn dv td n K St Ex Am He Ca sh pr))), (0, .ref (ha 0))]) (fun q9 => match q9 with | i => []) (fun q9 => match q9 with | i => wH ha cA hA nA ed cI cJ cZ td pr up dn dv r8_2 (((f_cl K St Ex Co pr td i ((He, Ca, sd), Ov, BL, AL)).1).2.2) mc n mo sh co (((f_cl K St Ex Co pr td i ((He, Ca, sd), Ov, BL, AL)).1).2.1) Cz K St Ex Am (f_gone Ex td i Bi) (f_gone Ex td i As) ((f_cl K St Ex Co pr td i ((He, Ca, sd), Ov, BL, AL)).2.2.1) ((f_cl K St Ex Co pr td i ((He, Ca, sd), Ov, BL, AL)).2.2.2) (((f_cl K St Ex Co pr td i ((He, Ca, sd), Ov, BL, AL)).1).1) Co ++ EE) (fun q9 => match q9 with | i => i ≤ n) ?_ 0 (Nat.zero_le _)
  intro q9 hq9 ih30
  obtain ⟨i, rfl⟩ : ∃ z, z = q9 := ⟨_, rfl⟩
  have hi : i ≤ n := hq9
  have hJ := f_cl_J (K := K) (St := St) (Ex := Ex) (Co := Co) (pr := pr) (t := td) hJ0 i hi
  have hQ := f_cl_q (K := K) (St := St) (Ex := Ex) (Co := Co) (pr := pr) (t := td) (s := ((He, Ca, sd), Ov, BL, AL)) hBL hAL i
  have hExi := hEx i
  show jj_W _ _ _ _ _ _ _ _ _ _ _ _ _ _ _ _ _ 30 [(3, .int (iI (i : Int))), (1, .long (lI (f_W up dn dv td n K St Ex Am He Ca sh pr))), (0, .ref (ha 0))] [] (wH ha cA hA nA ed cI cJ cZ td pr up dn dv r8_2 (((f_cl K St Ex Co pr td i ((He, Ca, sd), Ov, BL, AL)).1).2.2) mc n mo sh co (((f_cl K St Ex Co pr td i ((He, Ca, sd), Ov, BL, AL)).1).2.1) Cz K St Ex Am (f_gone Ex td i Bi) (f_gone Ex td i As) ((f_cl K St Ex Co pr td i ((He, Ca, sd), Ov, BL, AL)).2.2.1) ((f_cl K St Ex Co pr td i ((He, Ca, sd), Ov, BL, AL)).2.2.2) (((f_cl K St Ex Co pr td i ((He, Ca, sd), Ov, BL, AL)).1).1) Co ++ EE)
  refine jj_iload_n C0 0 rfl dX3_close_30 ?_
  refine jj_aload_n C0 2 rfl dX3_close_31 ?_
  refine jj_get C0 (ci := 4) (v := .ref (ha 5)) hin_X3 (0) (rfl) rfl 2 (by decide) (hw _ hU_158) (fun _ h9 => h9) rfl dX3_close_32 ?_
  refine jj_callVi C0 (cc_Jx4a65c_size_8abf5   ) (cwV 0 hw (lw_gV hU_185 hU_186 hU_187 hU_65 hU_188) rfl rfl rfl (by decide +kernel) ⟨Nat.le_of_ble_eq_true rfl, Nat.le_of_ble_eq_true rfl⟩) (ci := 0) (q0 := 5) rfl (rfl) rfl rfl (Nat.le_of_ble_eq_true rfl) ⟨by decide, by decide⟩ rfl rfl dX3_close_35 ?_
  intro _ hu
  show jj_W _ _ _ _ _ _ _ _ _ _ _ _ _ _ _ _ _ 38 _ [.int (iI (n : Int)), .int (iI (i : Int))] (wH ha cA hA nA ed cI cJ cZ td pr up dn dv r8_2 (((f_cl K St Ex Co pr td i ((He, Ca, sd), Ov, BL, AL)).1).2.2) mc n mo sh co (((f_cl K St Ex Co pr td i ((He, Ca, sd), Ov, BL, AL)).1).2.1) Cz K St Ex Am (f_gone Ex td i Bi) (f_gone Ex td i As) ((f_cl K St Ex Co pr td i ((He, Ca, sd), Ov, BL, AL)).2.2.1) ((f_cl K St Ex Co pr td i ((He, Ca, sd), Ov, BL, AL)).2.2.2) (((f_cl K St Ex Co pr td i ((He, Ca, sd), Ov, BL, AL)).1).1) Co ++ EE)
  refine jj_icmp_ge C0 (by omega) (by omega) dX3_close_38 (tgt := 81) (by decide) (fun c_3 => ?_) (fun c_3 => ?_)
  · have hJn := f_cl_J (K := K) (St := St) (Ex := Ex) (Co := Co) (pr := pr) (t := td) hJ0 n (Nat.le_refl _)
    refine jj_ws (ws' := wH ha cA hA nA ed cI cJ cZ td pr up dn dv r8_2 (((f_cl K St Ex Co pr td n ((He, Ca, sd), Ov, BL, AL)).1).2.2) mc n mo sh co (((f_cl K St Ex Co pr td n ((He, Ca, sd), Ov, BL, AL)).1).2.1) Cz K St Ex Am (f_gone Ex td n Bi) (f_gone Ex td n As) ((f_cl K St Ex Co pr td n ((He, Ca, sd), Ov, BL, AL)).2.2.1) ((f_cl K St Ex Co pr td n ((He, Ca, sd), Ov, BL, AL)).2.2.2) (((f_cl K St Ex Co pr td n ((He, Ca, sd), Ov, BL, AL)).1).1) Co ++ EE) (by rw [show i = n by omega]) ?_
    refine jj_aload_n C0 2 rfl dX3_close_81 ?_
    refine jj_callVl C0 (cc_X3_worthNow   (by first | exact hpr | omega) (by first | exact hexs | omega) (by first | exact hn | omega) (by first | exact htd | omega) (by first | exact hup | omega) (by first | exact hdn | omega) (by first | exact hdv | omega) (by first | exact hK | omega) (by first | exact hSt | omega) (by first | exact hEx | omega) (by first | exact hAm | omega) hJn.1 (by first | exact hsh | omega) (by first | exact hED | omega)) (cwV 0 hw (lw_gV hU_265 hU_267 hU_10 hU_60 hU_268) rfl rfl rfl (by decide +kernel) ⟨Nat.le_of_ble_eq_true rfl, Nat.le_of_ble_eq_true rfl⟩) (ci := 4) (q0 := 0) rfl (rfl) rfl rfl (Nat.le_of_ble_eq_true rfl) ⟨by decide, by decide⟩ rfl rfl dX3_close_82 ?_
    intro r8_4 hu
    show jj_W _ _ _ _ _ _ _ _ _ _ _ _ _ _ _ _ _ 85 _ [.long (lI (f_W up dn dv td n K St Ex Am (((f_cl K St Ex Co pr td n ((He, Ca, sd), Ov, BL, AL)).1).1) (((f_cl K St Ex Co pr td n ((He, Ca, sd), Ov, BL, AL)).1).2.1) sh pr))] (wH ha cA hA nA ed cI cJ cZ td pr up dn dv r8_4 (((f_cl K St Ex Co pr td n ((He, Ca, sd), Ov, BL, AL)).1).2.2) mc n mo sh co (((f_cl K St Ex Co pr td n ((He, Ca, sd), Ov, BL, AL)).1).2.1) Cz K St Ex Am (f_gone Ex td n Bi) (f_gone Ex td n As) ((f_cl K St Ex Co pr td n ((He, Ca, sd), Ov, BL, AL)).2.2.1) ((f_cl K St Ex Co pr td n ((He, Ca, sd), Ov, BL, AL)).2.2.2) (((f_cl K St Ex Co pr td n ((He, Ca, sd), Ov, BL, AL)).1).1) Co ++ EE)
    refine jj_lstore_n C0 (i := 3) rfl (lv' := [(3, .long (lI (f_W up dn dv td n K St Ex Am (((f_cl K St Ex Co pr td n ((He, Ca, sd), Ov, BL, AL)).1).1) (((f_cl K St Ex Co pr td n ((He, Ca, sd), Ov, BL, AL)).1).2.1) sh pr))), (1, .long (lI (f_W up dn dv td n K St Ex Am He Ca sh pr))), (0, .ref (ha 0))]) (by decide) rfl dX3_close_85 ?_
    refine jj_aload_n C0 2 rfl dX3_close_86 ?_
    refine jj_get C0 (ci := 4) (v := .ref (ha 1)) hin_X3 (0) (rfl) rfl 0 (by decide) (hw _ hU_156) (fun _ h9 => h9) rfl dX3_close_87 ?_
    refine jj_dup C0 dX3_close_90 rfl ?_
    refine jj_getN C0 (ci := 3) (v := .int (iI (td : Int))) hin_X2 (1) (rfl) rfl 5 (by decide) (va_Nw.use rfl (hE.1 _ (hN_103))) (fun _ h9 => h9) rfl dX3_close_91 ?_
    refine jj_iconst C0 dX3_close_94 ?_
    refine jj_iadd C0 dX3_close_95 ?_
    refine jj_topi (b := ((td + 1 : Nat) : Int)) (by omega) ?_
    refine jj_putN C0 (ci := 3) (v := .int (iI ((td + 1 : Nat) : Int))) (ty := .int) hin_X2 tyX2 tyX2_ok nmX2 (1) (rfl) rfl 5 (by decide) (va_Nw.use rfl (hE.1 _ (hN_103))) (fun _ h9 => h9) rfl (by decide +kernel) (rfl) rfl (Nat.le_of_ble_eq_true rfl) (ws' := wH ha cA hA nA ed cI cJ cZ (td + 1) pr up dn dv r8_4 (((f_cl K St Ex Co pr td n ((He, Ca, sd), Ov, BL, AL)).1).2.2) mc n mo sh co (((f_cl K St Ex Co pr td n ((He, Ca, sd), Ov, BL, AL)).1).2.1) Cz K St Ex Am (f_gone Ex td n Bi) (f_gone Ex td n As) ((f_cl K St Ex Co pr td n ((He, Ca, sd), Ov, BL, AL)).2.2.1) ((f_cl K St Ex Co pr td n ((He, Ca, sd), Ov, BL, AL)).2.2.2) (((f_cl K St Ex Co pr td n ((He, Ca, sd), Ov, BL, AL)).1).1) Co ++ EE) (rfl) dX3_close_96 ?_
    refine jj_aload_n C0 2 rfl dX3_close_99 ?_
    refine jj_iconst C0 dX3_close_100 ?_
    refine jj_lload_n C0 0 rfl dX3_close_101 ?_
    refine jj_lload_n C0 1 rfl dX3_close_102 ?_
    refine jj_lsub C0 dX3_close_103 ?_
    refine jj_callVv C0 (cc_X3_addProfit  (k := 4) (x := ((f_W up dn dv td n K St Ex Am (((f_cl K St Ex Co pr td n ((He, Ca, sd), Ov, BL, AL)).1).1) (((f_cl K St Ex Co pr td n ((He, Ca, sd), Ov, BL, AL)).1).2.1) sh pr) - (f_W up dn dv td n K St Ex Am He Ca sh pr))) (by omega)) (cwV 2 hw (lw_gV hU_400 hU_402 hU_21 hU_60 hU_403) rfl rfl rfl (by decide +kernel) ⟨Nat.le_of_ble_eq_true rfl, Nat.le_of_ble_eq_true rfl⟩) (ci := 4) (q0 := 0) rfl (rfl) rfl rfl (Nat.le_of_ble_eq_true rfl) ⟨by decide, by decide⟩ rfl rfl dX3_close_104 ?_
    intro _ hu
    show jj_W _ _ _ _ _ _ _ _ _ _ _ _ _ _ _ _ _ 107 _ [] (wH ha cA hA nA ed cI cJ cZ (td + 1) pr up dn dv r8_4 (((f_cl K St Ex Co pr td n ((He, Ca, sd), Ov, BL, AL)).1).2.2) mc n mo sh co (((f_cl K St Ex Co pr td n ((He, Ca, sd), Ov, BL, AL)).1).2.1) (va_up Cz 4 (Cz 4 + ((f_W up dn dv td n K St Ex Am (((f_cl K St Ex Co pr td n ((He, Ca, sd), Ov, BL, AL)).1).1) (((f_cl K St Ex Co pr td n ((He, Ca, sd), Ov, BL, AL)).1).2.1) sh pr) - (f_W up dn dv td n K St Ex Am He Ca sh pr)))) K St Ex Am (f_gone Ex td n Bi) (f_gone Ex td n As) ((f_cl K St Ex Co pr td n ((He, Ca, sd), Ov, BL, AL)).2.2.1) ((f_cl K St Ex Co pr td n ((He, Ca, sd), Ov, BL, AL)).2.2.2) (((f_cl K St Ex Co pr td n ((He, Ca, sd), Ov, BL, AL)).1).1) Co ++ EE)
    refine jj_aload_n C0 2 rfl dX3_close_107 ?_
    refine jj_iconst C0 dX3_close_108 ?_
    refine jj_aload_n C0 2 rfl dX3_close_109 ?_
    refine jj_callVl C0 (cc_X3_worthNow   (by first | exact hpr | omega) (fun c hc => by have h1 := hexs c hc; omega) (by first | exact hn | omega) (by omega) (by first | exact hup | omega) (by first | exact hdn | omega) (by first | exact hdv | omega) (by first | exact hK | omega) (by first | exact hSt | omega) (by first | exact hEx | omega) (by first | exact hAm | omega) hJn.1 (by first | exact hsh | omega) (by first | exact hED | omega)) (cwV 0 hw (lw_gV hU_265 hU_267 hU_10 hU_60 hU_268) rfl rfl rfl (by decide +kernel) ⟨Nat.le_of_ble_eq_true rfl, Nat.le_of_ble_eq_true rfl⟩) (ci := 4) (q0 := 0) rfl (rfl) rfl rfl (Nat.le_of_ble_eq_true rfl) ⟨by decide, by decide⟩ rfl rfl dX3_close_110 ?_
    intro r8_5 hu
    show jj_W _ _ _ _ _ _ _ _ _ _ _ _ _ _ _ _ _ 113 _ [.long (lI (f_W up dn dv (td + 1) n K St Ex Am (((f_cl K St Ex Co pr td n ((He, Ca, sd), Ov, BL, AL)).1).1) (((f_cl K St Ex Co pr td n ((He, Ca, sd), Ov, BL, AL)).1).2.1) sh pr)), .int (iI 2), .ref (ha 0)] (wH ha cA hA nA ed cI cJ cZ (td + 1) pr up dn dv r8_5 (((f_cl K St Ex Co pr td n ((He, Ca, sd), Ov, BL, AL)).1).2.2) mc n mo sh co (((f_cl K St Ex Co pr td n ((He, Ca, sd), Ov, BL, AL)).1).2.1) (va_up Cz 4 (Cz 4 + ((f_W up dn dv td n K St Ex Am (((f_cl K St Ex Co pr td n ((He, Ca, sd), Ov, BL, AL)).1).1) (((f_cl K St Ex Co pr td n ((He, Ca, sd), Ov, BL, AL)).1).2.1) sh pr) - (f_W up dn dv td n K St Ex Am He Ca sh pr)))) K St Ex Am (f_gone Ex td n Bi) (f_gone Ex td n As) ((f_cl K St Ex Co pr td n ((He, Ca, sd), Ov, BL, AL)).2.2.1) ((f_cl K St Ex Co pr td n ((He, Ca, sd), Ov, BL, AL)).2.2.2) (((f_cl K St Ex Co pr td n ((He, Ca, sd), Ov, BL, AL)).1).1) Co ++ EE)
    refine jj_lload_n C0 0 rfl dX3_close_113 ?_
    refine jj_lsub C0 dX3_close_114 ?_
    refine jj_callVv C0 (cc_X3_addProfit  (k := 2) (x := ((f_W up dn dv (td + 1) n K St Ex Am (((f_cl K St Ex Co pr td n ((He, Ca, sd), Ov, BL, AL)).1).1) (((f_cl K St Ex Co pr td n ((He, Ca, sd), Ov, BL, AL)).1).2.1) sh pr) - (f_W up dn dv td n K St Ex Am (((f_cl K St Ex Co pr td n ((He, Ca, sd), Ov, BL, AL)).1).1) (((f_cl K St Ex Co pr td n ((He, Ca, sd), Ov, BL, AL)).1).2.1) sh pr))) (by omega)) (cwV 2 hw (lw_gV hU_400 hU_402 hU_21 hU_60 hU_403) rfl rfl rfl (by decide +kernel) ⟨Nat.le_of_ble_eq_true rfl, Nat.le_of_ble_eq_true rfl⟩) (ci := 4) (q0 := 0) rfl (rfl) rfl rfl (Nat.le_of_ble_eq_true rfl) ⟨by decide, by decide⟩ rfl rfl dX3_close_115 ?_
    intro _ hu
    show jj_W _ _ _ _ _ _ _ _ _ _ _ _ _ _ _ _ _ 118 _ [] (wH ha cA hA nA ed cI cJ cZ (td + 1) pr up dn dv r8_5 (((f_cl K St Ex Co pr td n ((He, Ca, sd), Ov, BL, AL)).1).2.2) mc n mo sh co (((f_cl K St Ex Co pr td n ((He, Ca, sd), Ov, BL, AL)).1).2.1) (va_up (va_up Cz 4 (Cz 4 + ((f_W up dn dv td n K St Ex Am (((f_cl K St Ex Co pr td n ((He, Ca, sd), Ov, BL, AL)).1).1) (((f_cl K St Ex Co pr td n ((He, Ca, sd), Ov, BL, AL)).1).2.1) sh pr) - (f_W up dn dv td n K St Ex Am He Ca sh pr)))) 2 ((va_up Cz 4 (Cz 4 + ((f_W up dn dv td n K St Ex Am (((f_cl K St Ex Co pr td n ((He, Ca, sd), Ov, BL, AL)).1).1) (((f_cl K St Ex Co pr td n ((He, Ca, sd), Ov, BL, AL)).1).2.1) sh pr) - (f_W up dn dv td n K St Ex Am He Ca sh pr)))) 2 + ((f_W up dn dv (td + 1) n K St Ex Am (((f_cl K St Ex Co pr td n ((He, Ca, sd), Ov, BL, AL)).1).1) (((f_cl K St Ex Co pr td n ((He, Ca, sd), Ov, BL, AL)).1).2.1) sh pr) - (f_W up dn dv td n K St Ex Am (((f_cl K St Ex Co pr td n ((He, Ca, sd), Ov, BL, AL)).1).1) (((f_cl K St Ex Co pr td n ((He, Ca, sd), Ov, BL, AL)).1).2.1) sh pr)))) K St Ex Am (f_gone Ex td n Bi) (f_gone Ex td n As) ((f_cl K St Ex Co pr td n ((He, Ca, sd), Ov, BL, AL)).2.2.1) ((f_cl K St Ex Co pr td n ((He, Ca, sd), Ov, BL, AL)).2.2.2) (((f_cl K St Ex Co pr td n ((He, Ca, sd), Ov, BL, AL)).1).1) Co ++ EE)
    refine jj_aload_n C0 2 rfl dX3_close_118 ?_
    refine jj_get C0 (ci := 4) (v := .ref (ha 1)) hin_X3 (0) (rfl) rfl 0 (by decide) (hw _ hU_156) (fun _ h9 => h9) rfl dX3_close_119 ?_
    refine jj_getN C0 (ci := 3) (v := .int (iI ((td + 1) : Int))) hin_X2 (1) (rfl) rfl 5 (by decide) (va_Nw.use rfl (hE.1 _ (hN_103))) (fun _ h9 => h9) rfl dX3_close_122 ?_
    exact jj_iret C0 hr r8_5 (trivial) (rfl) (rfl) (by decide) (by decide) dX3_close_125
  · refine jj_aload_n C0 2 rfl dX3_close_41 ?_
    refine jj_get C0 (ci := 4) (v := .ref (ha 5)) hin_X3 (0) (rfl) rfl 2 (by decide) (hw _ hU_158) (fun _ h9 => h9) rfl dX3_close_42 ?_
    refine jj_iload_n C0 0 rfl dX3_close_45 ?_
    refine jj_callVr C0 (cc_Jx4a65c_get_915e3  (i := i) (by omega) (by first | exact hn | omega) (by first | exact hED | omega)) (cwV 1 hw (lw_gV hU_189 hU_190 hU_191 hU_65 hU_192) rfl rfl rfl (by decide +kernel) ⟨Nat.le_of_ble_eq_true rfl, Nat.le_of_ble_eq_true rfl⟩) (ci := 0) (q0 := 5) rfl (rfl) rfl rfl (Nat.le_of_ble_eq_true rfl) ⟨by decide, by decide⟩ rfl rfl dX3_close_46 ?_
    intro _ hu
    show jj_W _ _ _ _ _ _ _ _ _ _ _ _ _ _ _ _ _ 49 _ [.ref (cA i)] (wH ha cA hA nA ed cI cJ cZ td pr up dn dv r8_2 (((f_cl K St Ex Co pr td i ((He, Ca, sd), Ov, BL, AL)).1).2.2) mc n mo sh co (((f_cl K St Ex Co pr td i ((He, Ca, sd), Ov, BL, AL)).1).2.1) Cz K St Ex Am (f_gone Ex td i Bi) (f_gone Ex td i As) ((f_cl K St Ex Co pr td i ((He, Ca, sd), Ov, BL, AL)).2.2.1) ((f_cl K St Ex Co pr td i ((He, Ca, sd), Ov, BL, AL)).2.2.2) (((f_cl K St Ex Co pr td i ((He, Ca, sd), Ov, BL, AL)).1).1) Co ++ EE)
    refine jj_cast C0 (ci := 1) (q0 := (8 + (3 * i + 0))) rfl ((wH_c (c := i) (by omega))) (hw _ hU_203) dX3_close_49 ?_
    refine jj_astore C0 (lv' := [(4, .ref (cA i)), (3, .int (iI (i : Int))), (1, .long (lI (f_W up dn dv td n K St Ex Am He Ca sh pr))), (0, .ref (ha 0))]) (by decide) rfl dX3_close_52 ?_
    refine jj_aload C0 0 rfl dX3_close_54 ?_
    refine jj_getN C0 (ci := 1) (v := .int (iI (Ex i))) hin_X0 ((8 + (3 * i + 0))) ((wH_c (c := i) (by omega))) rfl 2 (by decide) (va_Nw.use rfl (hE.1 _ (hN_458))) (fun _ h9 => h9) rfl dX3_close_56 ?_
    have hb_Ex_59312 := hEx i
    refine jj_aload_n C0 3 rfl dX3_close_59 ?_
    refine jj_get C0 (ci := 4) (v := .ref (ha 1)) hin_X3 (0) (rfl) rfl 0 (by decide) (hw _ hU_156) (fun _ h9 => h9) rfl dX3_close_60 ?_
    refine jj_getN C0 (ci := 3) (v := .int (iI (td : Int))) hin_X2 (1) (rfl) rfl 5 (by decide) (va_Nw.use rfl (hE.1 _ (hN_103))) (fun _ h9 => h9) rfl dX3_close_63 ?_
    refine jj_icmp_ne C0 (by omega) (by omega) dX3_close_66 (tgt := 75) (by decide) (fun c_6 => ?_) (fun c_6 => ?_)
    · refine jj_ws (ws' := wH ha cA hA nA ed cI cJ cZ td pr up dn dv r8_2 (((f_cl K St Ex Co pr td (i + 1) ((He, Ca, sd), Ov, BL, AL)).1).2.2) mc n mo sh co (((f_cl K St Ex Co pr td (i + 1) ((He, Ca, sd), Ov, BL, AL)).1).2.1) Cz K St Ex Am (f_gone Ex td (i + 1) Bi) (f_gone Ex td (i + 1) As) ((f_cl K St Ex Co pr td (i + 1) ((He, Ca, sd), Ov, BL, AL)).2.2.1) ((f_cl K St Ex Co pr td (i + 1) ((He, Ca, sd), Ov, BL, AL)).2.2.2) (((f_cl K St Ex Co pr td (i + 1) ((He, Ca, sd), Ov, BL, AL)).1).1) Co ++ EE) (by simp only [f_cl]; first | (rw [if_pos (by omega), f_gone_up (by omega), f_gone_up (by omega)]; done) | (rw [if_neg (by omega), f_gone_no (i := i) (F := Bi) (by omega), f_gone_no (i := i) (F := As) (by omega)]; done) | (rw [if_pos (by omega), f_gone_up (by omega), f_gone_up (by omega)]; rfl)) ?_
      refine jj_iinc C0 (z := ((i + 1 : Nat) : Int)) (lv' := [(3, .int (iI ((i + 1 : Nat) : Int))), (4, .ref (cA i)), (1, .long (lI (f_W up dn dv td n K St Ex Am He Ca sh pr))), (0, .ref (ha 0))]) 1 rfl (by omega) (by decide) rfl dX3_close_75 ?_
      refine jj_goto C0 (tgt := 30) dX3_close_78 (by decide) ?_
      refine jj_lv [0, 2, 3] rfl ?_
      exact ih30 (i + 1) (by omega) (by dsimp only; omega)
    · refine jj_aload_n C0 3 rfl dX3_close_69 ?_
      refine jj_aload C0 0 rfl dX3_close_70 ?_
      refine jj_callVv C0 (cc_X3_expire  (c := i) (Ov := ((f_cl K St Ex Co pr td i ((He, Ca, sd), Ov, BL, AL)).2.1)) (by omega) (hJ.2.2 i (by omega)) hJ.2.1 hJ.1 (by first | exact hpr | omega) (by first | exact hK | omega) (by first | exact hSt | omega) (by first | exact hCo | omega) hQ.1 hQ.2) (cwV 1 hw (lw_gV hU_699 hU_701 hU_39 hU_60 hU_702) rfl rfl rfl (by decide +kernel) ⟨Nat.le_of_ble_eq_true rfl, Nat.le_of_ble_eq_true rfl⟩) (ci := 4) (q0 := 0) rfl (rfl) rfl rfl (Nat.le_of_ble_eq_true rfl) ⟨by decide, by decide⟩ rfl rfl dX3_close_72 ?_
      intro _ hu
      show jj_W _ _ _ _ _ _ _ _ _ _ _ _ _ _ _ _ _ 75 _ [] (wH ha cA hA nA ed cI cJ cZ td pr up dn dv r8_2 (((f_exp Co i (f_pays (K i) (St i) pr) (((((f_cl K St Ex Co pr td i ((He, Ca, sd), Ov, BL, AL)).1).1), (((f_cl K St Ex Co pr td i ((He, Ca, sd), Ov, BL, AL)).1).2.1), (((f_cl K St Ex Co pr td i ((He, Ca, sd), Ov, BL, AL)).1).2.2)), ((f_cl K St Ex Co pr td i ((He, Ca, sd), Ov, BL, AL)).2.1), ((f_cl K St Ex Co pr td i ((He, Ca, sd), Ov, BL, AL)).2.2.1), ((f_cl K St Ex Co pr td i ((He, Ca, sd), Ov, BL, AL)).2.2.2))).1).2.2) mc n mo sh co (((f_exp Co i (f_pays (K i) (St i) pr) (((((f_cl K St Ex Co pr td i ((He, Ca, sd), Ov, BL, AL)).1).1), (((f_cl K St Ex Co pr td i ((He, Ca, sd), Ov, BL, AL)).1).2.1), (((f_cl K St Ex Co pr td i ((He, Ca, sd), Ov, BL, AL)).1).2.2)), ((f_cl K St Ex Co pr td i ((He, Ca, sd), Ov, BL, AL)).2.1), ((f_cl K St Ex Co pr td i ((He, Ca, sd), Ov, BL, AL)).2.2.1), ((f_cl K St Ex Co pr td i ((He, Ca, sd), Ov, BL, AL)).2.2.2))).1).2.1) Cz K St Ex Am (va_up (f_gone Ex td i Bi) i 0) (va_up (f_gone Ex td i As) i 0) ((f_exp Co i (f_pays (K i) (St i) pr) (((((f_cl K St Ex Co pr td i ((He, Ca, sd), Ov, BL, AL)).1).1), (((f_cl K St Ex Co pr td i ((He, Ca, sd), Ov, BL, AL)).1).2.1), (((f_cl K St Ex Co pr td i ((He, Ca, sd), Ov, BL, AL)).1).2.2)), ((f_cl K St Ex Co pr td i ((He, Ca, sd), Ov, BL, AL)).2.1), ((f_cl K St Ex Co pr td i ((He, Ca, sd), Ov, BL, AL)).2.2.1), ((f_cl K St Ex Co pr td i ((He, Ca, sd), Ov, BL, AL)).2.2.2))).2.2.1) ((f_exp Co i (f_pays (K i) (St i) pr) (((((f_cl K St Ex Co pr td i ((He, Ca, sd), Ov, BL, AL)).1).1), (((f_cl K St Ex Co pr td i ((He, Ca, sd), Ov, BL, AL)).1).2.1), (((f_cl K St Ex Co pr td i ((He, Ca, sd), Ov, BL, AL)).1).2.2)), ((f_cl K St Ex Co pr td i ((He, Ca, sd), Ov, BL, AL)).2.1), ((f_cl K St Ex Co pr td i ((He, Ca, sd), Ov, BL, AL)).2.2.1), ((f_cl K St Ex Co pr td i ((He, Ca, sd), Ov, BL, AL)).2.2.2))).2.2.2) (((f_exp Co i (f_pays (K i) (St i) pr) (((((f_cl K St Ex Co pr td i ((He, Ca, sd), Ov, BL, AL)).1).1), (((f_cl K St Ex Co pr td i ((He, Ca, sd), Ov, BL, AL)).1).2.1), (((f_cl K St Ex Co pr td i ((He, Ca, sd), Ov, BL, AL)).1).2.2)), ((f_cl K St Ex Co pr td i ((He, Ca, sd), Ov, BL, AL)).2.1), ((f_cl K St Ex Co pr td i ((He, Ca, sd), Ov, BL, AL)).2.2.1), ((f_cl K St Ex Co pr td i ((He, Ca, sd), Ov, BL, AL)).2.2.2))).1).1) Co ++ EE)
      refine jj_ws (ws' := wH ha cA hA nA ed cI cJ cZ td pr up dn dv r8_2 (((f_cl K St Ex Co pr td (i + 1) ((He, Ca, sd), Ov, BL, AL)).1).2.2) mc n mo sh co (((f_cl K St Ex Co pr td (i + 1) ((He, Ca, sd), Ov, BL, AL)).1).2.1) Cz K St Ex Am (f_gone Ex td (i + 1) Bi) (f_gone Ex td (i + 1) As) ((f_cl K St Ex Co pr td (i + 1) ((He, Ca, sd), Ov, BL, AL)).2.2.1) ((f_cl K St Ex Co pr td (i + 1) ((He, Ca, sd), Ov, BL, AL)).2.2.2) (((f_cl K St Ex Co pr td (i + 1) ((He, Ca, sd), Ov, BL, AL)).1).1) Co ++ EE) (by simp only [f_cl]; first | (rw [if_pos (by omega), f_gone_up (by omega), f_gone_up (by omega)]; done) | (rw [if_neg (by omega), f_gone_no (i := i) (F := Bi) (by omega), f_gone_no (i := i) (F := As) (by omega)]; done) | (rw [if_pos (by omega), f_gone_up (by omega), f_gone_up (by omega)]; rfl)) ?_
      refine jj_iinc C0 (z := ((i + 1 : Nat) : Int)) (lv' := [(3, .int (iI ((i + 1 : Nat) : Int))), (4, .ref (cA i)), (1, .long (lI (f_W up dn dv td n K St Ex Am He Ca sh pr))), (0, .ref (ha 0))]) 1 rfl (by omega) (by decide) rfl dX3_close_75 ?_
      refine jj_goto C0 (tgt := 30) dX3_close_78 (by decide) ?_
      refine jj_lv [0, 2, 3] rfl ?_
      exact ih30 (i + 1) (by omega) (by dsimp only; omega)
set_option maxHeartbeats 4000000 in
set_option maxRecDepth 100000 in
theorem cc_X3_commonDivisor  {a b : Int} (ha : 0 ≤ a ∧ a ≤ 1024000000000000000) (hb : 1 ≤ b ∧ b ≤ 10240000000000) : jj_Ml EVh (dC, dI) vwCl [(cI, .int), (cJ, .long), (cZ, .boolean), (cO, .object "java/lang/Object")] l yX3_commonDivisor (Cond.code yX3_commonDivisor cX3_commonDivisor 11 (some .long) :: lw_U) ({ frames := 0, cells := 0, slots := 0, locals := 0 } : Room) [.long (lI a), .long (lI b)] (ws) (S := Unit) (fun _ => (f_g a b)) (fun _ => True) (fun _ => ws) := by
  refine jj_start (cc := cX3_commonDivisor) (nL := 11) (ret := (some .long)) (lv := [(0, .long (lI a)), (2, .long (lI b))]) (fun A => jj_Ql _ _ _ _ _ _ A) hEVh (by decide) rfl (Nat.le_of_ble_eq_true rfl) rfl ?_
  intro p9 e9 s9 m9 a9 b9 me9 c9 A9 C1 hr hin
  have C0 : jj_C p9 s9 m9 a9 me9 c9 (dC, dI) vwCl A9 11 cX3_commonDivisor "Strikehall" lw_U _ EVh := jj_toU C1
  have hw := C0.2.2.2.2.1
  refine jj_lload_n C0 0 rfl dX3_commonDivisor_0 ?_
  refine jj_lstore C0 (lv' := [(4, .long (lI a)), (0, .long (lI a)), (2, .long (lI b))]) (by decide) rfl dX3_commonDivisor_1 ?_
  refine jj_lload_n C0 2 rfl dX3_commonDivisor_3 ?_
  refine jj_lstore C0 (lv' := [(6, .long (lI b)), (4, .long (lI a)), (0, .long (lI a)), (2, .long (lI b))]) (by decide) rfl dX3_commonDivisor_4 ?_
  refine jj_iconst C0 dX3_commonDivisor_6 ?_
  refine jj_istore C0 (lv' := [(8, .int (iI 0)), (6, .long (lI b)), (4, .long (lI a)), (0, .long (lI a)), (2, .long (lI b))]) (by decide) rfl dX3_commonDivisor_7 ?_
  refine jj_ind (X := Nat × Int × Int) (fun q9 => match q9 with | ⟨i, p, q⟩ => (101 - i : Nat)) (fun q9 => match q9 with | ⟨i, p, q⟩ => [(8, .int (iI (i : Int))), (6, .long (lI q)), (4, .long (lI p)), (0, .long (lI a)), (2, .long (lI b))]) (fun q9 => match q9 with | ⟨i, p, q⟩ => []) (fun q9 => match q9 with | ⟨i, p, q⟩ => ws) (fun q9 => match q9 with | ⟨i, p, q⟩ => i ≤ 100 ∧ f_eu a b i p q) ?_ (0, a, b) ⟨Nat.zero_le _, f_eu_0 ha hb⟩
  intro q9 hq9 ih9
  obtain ⟨i, p, q⟩ := q9
  obtain ⟨hi, he⟩ : i ≤ 100 ∧ f_eu a b i p q := hq9
  have hp := he.1
  have hq := he.2.1
  show jj_W _ _ _ _ _ _ _ _ _ _ _ _ _ _ _ _ _ 9 [(8, .int (iI (i : Int))), (6, .long (lI q)), (4, .long (lI p)), (0, .long (lI a)), (2, .long (lI b))] [] (ws)
  refine jj_iload C0 0 rfl dX3_commonDivisor_9 ?_
  refine jj_bipush C0 dX3_commonDivisor_11 (by decide) ?_
  refine jj_icmp_ge C0 (by omega) (by omega) dX3_commonDivisor_13 (tgt := 44) (by decide) (fun c_1 => ?_) (fun c_1 => ?_)
  · have hi0 : i = 100 := by omega
    have hq0 : q = 0 := by subst hi0; exact f_eu_end he
    refine jj_lload C0 2 rfl dX3_commonDivisor_44 ?_
    exact jj_lret C0 hr () (trivial) (by rw [← he.2.2.1, show q = 0 by omega, f_g_0 hp.1]) (rfl) (by decide) (by decide) dX3_commonDivisor_46
  · refine jj_lload C0 1 rfl dX3_commonDivisor_16 ?_
    refine jj_lconst C0 (z := 0) (by decide) dX3_commonDivisor_18 ?_
    refine jj_lcmp_eq C0 (by omega) (by omega) dX3_commonDivisor_19 dX3_commonDivisor_20 (tgt := 44) (by decide) (fun c_2 => ?_) (fun c_2 => ?_)
    · refine jj_lload C0 2 rfl dX3_commonDivisor_44 ?_
      exact jj_lret C0 hr () (trivial) (by rw [← he.2.2.1, show q = 0 by omega, f_g_0 hp.1]) (rfl) (by decide) (by decide) dX3_commonDivisor_46
    · refine jj_lload C0 2 rfl dX3_commonDivisor_23 ?_
      refine jj_lload C0 1 rfl dX3_commonDivisor_25 ?_
      refine jj_lrem C0 (by omega) (by omega) (by omega) (by omega) dX3_commonDivisor_27 ?_
      refine jj_lstore C0 (lv' := [(9, .long (lI (p % q))), (8, .int (iI (i : Int))), (6, .long (lI q)), (4, .long (lI p)), (0, .long (lI a)), (2, .long (lI b))]) (by decide) rfl dX3_commonDivisor_28 ?_
      refine jj_lload C0 2 rfl dX3_commonDivisor_30 ?_
      refine jj_lstore C0 (lv' := [(4, .long (lI q)), (9, .long (lI (p % q))), (8, .int (iI (i : Int))), (6, .long (lI q)), (0, .long (lI a)), (2, .long (lI b))]) (by decide) rfl dX3_commonDivisor_32 ?_
      refine jj_lload C0 1 rfl dX3_commonDivisor_34 ?_
      refine jj_lstore C0 (lv' := [(6, .long (lI (p % q))), (4, .long (lI q)), (9, .long (lI (p % q))), (8, .int (iI (i : Int))), (0, .long (lI a)), (2, .long (lI b))]) (by decide) rfl dX3_commonDivisor_36 ?_
      refine jj_iinc C0 (z := ((i + 1 : Nat) : Int)) (lv' := [(8, .int (iI ((i + 1 : Nat) : Int))), (6, .long (lI (p % q))), (4, .long (lI q)), (9, .long (lI (p % q))), (0, .long (lI a)), (2, .long (lI b))]) 3 rfl (by omega) (by decide) rfl dX3_commonDivisor_38 ?_
      refine jj_goto C0 (tgt := 9) dX3_commonDivisor_41 (by decide) ?_
      refine jj_lv [0, 1, 2, 4, 5] rfl ?_
      exact ih9 (i + 1, q, p % q) ⟨by omega, f_eu_1 he (by omega)⟩ (by dsimp only; omega)
set_option maxHeartbeats 4000000 in
set_option maxRecDepth 100000 in
theorem cc_X3_value  {c : Nat} {v : Int} (hv : v = 0 ∨ v = 1) (hcn : c < n) (hpr : 0 ≤ pr ∧ pr ≤ 20000) (hexs : ∀ c, c < n → Ex c ≤ (td : Int) + 10) (hn : n ≤ 12) (htd : td ≤ 200) (hup : 1 ≤ up ∧ up ≤ 10) (hdn : 1 ≤ dn ∧ dn ≤ 10) (hdv : ∀ j, 0 ≤ dv j ∧ dv j ≤ 1000) (hK : ∀ j, 0 ≤ K j ∧ K j ≤ 1) (hSt : ∀ j, 0 ≤ St j ∧ St j ≤ 20000) (hEx : ∀ j, 0 ≤ Ex j ∧ Ex j ≤ 200) (hAm : ∀ j, 0 ≤ Am j ∧ Am j ≤ 1) (hED : 0 < n → f_ED cA n ed cO EE) : jj_Ml EVh (dC, dI) vwCl [(cI, .int), (cJ, .long), (cZ, .boolean), (cO, .object "java/lang/Object")] l yX3_value (Cond.code yX3_value cX3_value 10 (some .long) :: lw_U) ({ frames := 4, cells := 0, slots := 0, locals := 85 } : Room) [.ref (ha 0), .int (iI (c : Int)), .int (iI v)] (wH ha cA hA nA ed cI cJ cZ td pr up dn dv rw sd mc n mo sh co Ca Cz K St Ex Am Bi As BL AL He Co ++ EE) (S := (Nat → Int)) (fun r8 => (if v = 0 then (f_num up dn dv td (K c) (St c) (Ex c) (Am c) pr) / f_g (f_den up dn td (Ex c)) (f_num up dn dv td (K c) (St c) (Ex c) (Am c) pr) else (f_den up dn td (Ex c)) / f_g (f_den up dn td (Ex c)) (f_num up dn dv td (K c) (St c) (Ex c) (Am c) pr))) (fun r8 => True) (fun r8 => wH ha cA hA nA ed cI cJ cZ td pr up dn dv r8 sd mc n mo sh co Ca Cz K St Ex Am Bi As BL AL He Co ++ EE) := by
  refine jj_start (cc := cX3_value) (nL := 10) (ret := (some .long)) (lv := [(0, .ref (ha 0)), (1, .int (iI (c : Int))), (2, .int (iI v))]) (fun A => jj_Ql _ _ _ _ _ _ A) hEVh (by decide) rfl (Nat.le_of_ble_eq_true rfl) rfl ?_
  intro p9 e9 s9 m9 a9 b9 me9 c9 A9 C1 hr hin
  have C0 : jj_C p9 s9 m9 a9 me9 c9 (dC, dI) vwCl A9 10 cX3_value "Strikehall" lw_U _ EVh := jj_toU C1
  have hw := C0.2.2.2.2.1
  have hE := C0.2.2.2.2.2.2.2.1
  have hex := hexs c hcn
  have hfr : -30000 ≤ pr ∧ pr ≤ 30000 := by omega
  have hnb := f_num_bd (ki := K c) (am := Am c) hup hdn hdv (hSt c) hfr hex
  have hgb := f_g_bd (a := (f_den up dn td (Ex c))) (b := (f_num up dn dv td (K c) (St c) (Ex c) (Am c) pr)) hnb.2.2.1
  refine jj_aload_n C0 0 rfl dX3_value_0 ?_
  refine jj_iload_n C0 1 rfl dX3_value_1 ?_
  refine jj_callVr C0 (cc_X3_contractOf  (c := c) (by first | exact hcn | omega) (by first | exact hn | omega) (by first | exact hED | omega)) (cwV 1 hw (lw_gV hU_554 hU_556 hU_26 hU_60 hU_557) rfl rfl rfl (by decide +kernel) ⟨Nat.le_of_ble_eq_true rfl, Nat.le_of_ble_eq_true rfl⟩) (ci := 4) (q0 := 0) rfl (rfl) rfl rfl (Nat.le_of_ble_eq_true rfl) ⟨by decide, by decide⟩ rfl rfl dX3_value_2 ?_
  intro _ hu
  show jj_W _ _ _ _ _ _ _ _ _ _ _ _ _ _ _ _ _ 5 _ [.ref (cA c)] (wH ha cA hA nA ed cI cJ cZ td pr up dn dv rw sd mc n mo sh co Ca Cz K St Ex Am Bi As BL AL He Co ++ EE)
  refine jj_astore_n C0 (i := 3) rfl (lv' := [(3, .ref (cA c)), (0, .ref (ha 0)), (1, .int (iI (c : Int))), (2, .int (iI v))]) (by decide) rfl dX3_value_5 ?_
  refine jj_aload_n C0 1 rfl dX3_value_6 ?_
  refine jj_get C0 (ci := 4) (v := .ref (ha 1)) hin_X3 (0) (rfl) rfl 0 (by decide) (hw _ hU_156) (fun _ h9 => h9) rfl dX3_value_7 ?_
  refine jj_aload_n C0 0 rfl dX3_value_10 ?_
  refine jj_aload_n C0 1 rfl dX3_value_11 ?_
  refine jj_get C0 (ci := 4) (v := .ref (ha 1)) hin_X3 (0) (rfl) rfl 0 (by decide) (hw _ hU_156) (fun _ h9 => h9) rfl dX3_value_12 ?_
  refine jj_getN C0 (ci := 3) (v := .int (iI pr)) hin_X2 (1) (rfl) rfl 2 (by decide) (va_Nw.use rfl (hE.1 _ (hN_97))) (fun _ h9 => h9) rfl dX3_value_15 ?_
  refine jj_callVNl C0 (cc_X2_numberAt  (c := c) (fr := pr) (by first | exact hex | omega) (by first | exact hcn | omega) (by first | exact htd | omega) (by first | exact hfr | omega) (by first | exact hup | omega) (by first | exact hdn | omega) (by first | exact hdv | omega) (by first | exact hK | omega) (by first | exact hSt | omega) (by first | exact hEx | omega) (by first | exact hAm | omega)) ⟨va_cnB 2 hw (lw_gc hU_289 lw_UU) rfl rfl rfl (hE.1 _ hN_718) (hw _ hU_61) (by decide +kernel) ⟨Nat.le_of_ble_eq_true rfl, Nat.le_of_ble_eq_true rfl⟩, hw _ hU_288, hw _ hU_15⟩ (ci := 3) (q0 := 1) rfl (rfl) rfl rfl (Nat.le_of_ble_eq_true rfl) ⟨by decide, by decide⟩ rfl rfl dX3_value_18 ?_
  intro r8_1 hu
  show jj_W _ _ _ _ _ _ _ _ _ _ _ _ _ _ _ _ _ 21 _ [.long (lI (f_num up dn dv td (K c) (St c) (Ex c) (Am c) pr))] (wH ha cA hA nA ed cI cJ cZ td pr up dn dv r8_1 sd mc n mo sh co Ca Cz K St Ex Am Bi As BL AL He Co ++ EE)
  refine jj_lstore C0 (lv' := [(4, .long (lI (f_num up dn dv td (K c) (St c) (Ex c) (Am c) pr))), (3, .ref (cA c)), (0, .ref (ha 0)), (1, .int (iI (c : Int))), (2, .int (iI v))]) (by decide) rfl dX3_value_21 ?_
  refine jj_aload_n C0 2 rfl dX3_value_23 ?_
  refine jj_get C0 (ci := 4) (v := .ref (ha 1)) hin_X3 (0) (rfl) rfl 0 (by decide) (hw _ hU_156) (fun _ h9 => h9) rfl dX3_value_24 ?_
  refine jj_aload_n C0 1 rfl dX3_value_27 ?_
  refine jj_callVNl C0 (cc_X2_belowOf  (c := c) (by first | exact hex | omega) (by first | exact hcn | omega) (by first | exact hup | omega) (by first | exact hdn | omega) (by first | exact htd | omega) (by first | exact hEx | omega)) ⟨va_cnB 1 hw (lw_gc hU_311 lw_UU) rfl rfl rfl (hE.1 _ hN_719) (hw _ hU_61) (by decide +kernel) ⟨Nat.le_of_ble_eq_true rfl, Nat.le_of_ble_eq_true rfl⟩, hw _ hU_310, hw _ hU_19⟩ (ci := 3) (q0 := 1) rfl (rfl) rfl rfl (Nat.le_of_ble_eq_true rfl) ⟨by decide, by decide⟩ rfl rfl dX3_value_28 ?_
  intro _ hu
  show jj_W _ _ _ _ _ _ _ _ _ _ _ _ _ _ _ _ _ 31 _ [.long (lI (f_den up dn td (Ex c)))] (wH ha cA hA nA ed cI cJ cZ td pr up dn dv r8_1 sd mc n mo sh co Ca Cz K St Ex Am Bi As BL AL He Co ++ EE)
  refine jj_lstore C0 (lv' := [(6, .long (lI (f_den up dn td (Ex c)))), (4, .long (lI (f_num up dn dv td (K c) (St c) (Ex c) (Am c) pr))), (3, .ref (cA c)), (0, .ref (ha 0)), (1, .int (iI (c : Int))), (2, .int (iI v))]) (by decide) rfl dX3_value_31 ?_
  refine jj_lload C0 1 rfl dX3_value_33 ?_
  refine jj_lload C0 0 rfl dX3_value_35 ?_
  refine jj_callSl C0 (cc_X3_commonDivisor  (a := (f_num up dn dv td (K c) (St c) (Ex c) (Am c) pr)) (b := (f_den up dn td (Ex c))) (by omega) (by omega)) (cwS 2 hw (lw_gS hU_720 hU_721 hU_60 hU_722) rfl rfl rfl (by decide +kernel) ⟨Nat.le_of_ble_eq_true rfl, Nat.le_of_ble_eq_true rfl⟩) rfl rfl (Nat.le_of_ble_eq_true rfl) ⟨by decide, by decide⟩ rfl rfl dX3_value_37 ?_
  intro _ hu
  show jj_W _ _ _ _ _ _ _ _ _ _ _ _ _ _ _ _ _ 40 _ [.long (lI (f_g (f_num up dn dv td (K c) (St c) (Ex c) (Am c) pr) (f_den up dn td (Ex c))))] (wH ha cA hA nA ed cI cJ cZ td pr up dn dv r8_1 sd mc n mo sh co Ca Cz K St Ex Am Bi As BL AL He Co ++ EE)
  refine jj_topl (b := (f_g (f_den up dn td (Ex c)) (f_num up dn dv td (K c) (St c) (Ex c) (Am c) pr))) (f_g_comm _ _) ?_
  refine jj_lstore C0 (lv' := [(8, .long (lI (f_g (f_den up dn td (Ex c)) (f_num up dn dv td (K c) (St c) (Ex c) (Am c) pr)))), (6, .long (lI (f_den up dn td (Ex c)))), (4, .long (lI (f_num up dn dv td (K c) (St c) (Ex c) (Am c) pr))), (3, .ref (cA c)), (0, .ref (ha 0)), (1, .int (iI (c : Int))), (2, .int (iI v))]) (by decide) rfl dX3_value_40 ?_
  refine jj_lload C0 0 rfl dX3_value_42 ?_
  refine jj_lconst C0 (z := 0) (by decide) dX3_value_44 ?_
  refine jj_lcmp_ne C0 (by omega) (by omega) dX3_value_45 dX3_value_46 (tgt := 59) (by decide) (fun c_2 => ?_) (fun c_2 => absurd c_2 (by omega))
  refine jj_iload_n C0 6 rfl dX3_value_59 ?_
  refine jj_if_eq C0 (by omega) dX3_value_60 (tgt := 68) (by decide) (fun c_3 => ?_) (fun c_3 => ?_)
  · refine jj_lload C0 2 rfl dX3_value_68 ?_
    refine jj_lload C0 0 rfl dX3_value_70 ?_
    refine jj_ldiv C0 (by omega) (by omega) (by omega) (by omega) dX3_value_72 ?_
    exact jj_lret C0 hr r8_1 (trivial) (by first | rw [if_pos (by omega)] | rw [if_neg (by omega)]) (rfl) (by decide) (by decide) dX3_value_73
  · refine jj_lload C0 1 rfl dX3_value_63 ?_
    refine jj_goto C0 (tgt := 70) dX3_value_65 (by decide) ?_
    refine jj_lload C0 0 rfl dX3_value_70 ?_
    refine jj_ldiv C0 (by omega) (by omega) (by omega) (by omega) dX3_value_72 ?_
    exact jj_lret C0 hr r8_1 (trivial) (by first | rw [if_pos (by omega)] | rw [if_neg (by omega)]) (rfl) (by decide) (by decide) dX3_value_73
set_option maxHeartbeats 4000000 in
set_option maxRecDepth 100000 in
theorem cc_nbw_0  {c d k : Nat} {fr : Int} (hdk : k ≤ d) (hdr : (td : Int) + (d : Int) + 0 = Ex c ∧ d + 0 ≤ 10) (hcn : c < n) (htd : td ≤ 200) (hfr : -30000 ≤ fr ∧ fr ≤ 30000) (hup : 1 ≤ up ∧ up ≤ 10) (hdn : 1 ≤ dn ∧ dn ≤ 10) (hdv : ∀ j, 0 ≤ dv j ∧ dv j ≤ 1000) (hK : ∀ j, 0 ≤ K j ∧ K j ≤ 1) (hSt : ∀ j, 0 ≤ St j ∧ St j ≤ 20000) (hEx : ∀ j, 0 ≤ Ex j ∧ Ex j ≤ 200) (hAm : ∀ j, 0 ≤ Am j ∧ Am j ≤ 1) : jj_Ml EVh (dC, dI) vwCl [(cI, .int), (cJ, .long), (cZ, .boolean), (cO, .object "java/lang/Object")] l yX3_numberByWays (Cond.code yX3_numberByWays cX3_numberByWays 8 (some .long) :: lw_U) ({ frames := 2, cells := 0, slots := 0, locals := 34 } : Room) [.ref (ha 1), .ref (cA c), .int (iI (f_price up dn dv td fr d k)), .int (iI 0)] (wH ha cA hA nA ed cI cJ cZ td pr up dn dv rw sd mc n mo sh co Ca Cz K St Ex Am Bi As BL AL He Co ++ EE) (S := Unit) (fun _ => (f_V up dn dv td (K c) (St c) (Am c) fr 0 d k)) (fun _ => True) (fun _ => wH ha cA hA nA ed cI cJ cZ td pr up dn dv rw sd mc n mo sh co Ca Cz K St Ex Am Bi As BL AL He Co ++ EE) := by
  refine jj_start (cc := cX3_numberByWays) (nL := 8) (ret := (some .long)) (lv := [(0, .ref (ha 1)), (1, .ref (cA c)), (2, .int (iI (f_price up dn dv td fr d k))), (3, .int (iI 0))]) (fun A => jj_Ql _ _ _ _ _ _ A) hEVh (by decide) rfl (Nat.le_of_ble_eq_true rfl) rfl ?_
  intro p9 e9 s9 m9 a9 b9 me9 c9 A9 C1 hr hin
  have C0 : jj_C p9 s9 m9 a9 me9 c9 (dC, dI) vwCl A9 8 cX3_numberByWays "Strikehall" lw_U _ EVh := jj_toU C1
  have hw := C0.2.2.2.2.1
  have hE := C0.2.2.2.2.2.2.2.1
  have hp := f_price_bd (t := td) (j := d) (k := k) hup hdn hdv hfr (by omega) (by omega)
  have hpy := f_pays_bd (k := K c) (hSt c) hp
  have hexb := hEx c
  have hdvb := hdv (td + 1 + d)
  refine jj_iload_n C0 3 rfl dX3_numberByWays_0 ?_
  refine jj_if_lt C0 (by omega) dX3_numberByWays_1 (tgt := 10) (by decide) (fun c_1 => absurd c_1 (by omega)) (fun c_1 => ?_)
  refine jj_iload_n C0 3 rfl dX3_numberByWays_4 ?_
  refine jj_bipush C0 dX3_numberByWays_5 (by decide) ?_
  refine jj_icmp_le C0 (by omega) (by omega) dX3_numberByWays_7 (tgt := 12) (by decide) (fun c_2 => ?_) (fun c_2 => absurd c_2 (by omega))
  refine jj_aload_n C0 1 rfl dX3_numberByWays_12 ?_
  refine jj_iload_n C0 2 rfl dX3_numberByWays_13 ?_
  refine jj_callVNi C0 (cc_X0_paysAt  (c := c) (z := (f_price up dn dv td fr d k)) (by first | exact hcn | omega) (by omega) (by first | exact hK | omega) (by first | exact hSt | omega)) ⟨va_cnB 1 hw (lw_gc hU_301 lw_UU) rfl rfl rfl (hE.1 _ hN_663) (hw _ hU_75) (by decide +kernel) ⟨Nat.le_of_ble_eq_true rfl, Nat.le_of_ble_eq_true rfl⟩, hw _ hU_300, hw _ hU_18⟩ (ci := 1) (q0 := (8 + (3 * c + 0))) rfl ((wH_c (c := c) (by omega))) rfl rfl (Nat.le_of_ble_eq_true rfl) ⟨by decide, by decide⟩ rfl rfl dX3_numberByWays_14 ?_
  intro _ hu
  show jj_W _ _ _ _ _ _ _ _ _ _ _ _ _ _ _ _ _ 17 _ [.int (iI (f_pays (K c) (St c) (f_price up dn dv td fr d k)))] (wH ha cA hA nA ed cI cJ cZ td pr up dn dv rw sd mc n mo sh co Ca Cz K St Ex Am Bi As BL AL He Co ++ EE)
  refine jj_istore C0 (lv' := [(4, .int (iI (f_pays (K c) (St c) (f_price up dn dv td fr d k)))), (0, .ref (ha 1)), (1, .ref (cA c)), (2, .int (iI (f_price up dn dv td fr d k))), (3, .int (iI 0))]) (by decide) rfl dX3_numberByWays_17 ?_
  refine jj_iload_n C0 4 rfl dX3_numberByWays_19 ?_
  refine jj_if_ne C0 (by omega) dX3_numberByWays_20 (tgt := 27) (by decide) (fun c_3 => absurd c_3 (by omega)) (fun c_3 => ?_)
  refine jj_iload C0 0 rfl dX3_numberByWays_23 ?_
  refine jj_i2l C0 (by omega) dX3_numberByWays_25 ?_
  exact jj_lret C0 hr () (trivial) (rfl) (rfl) (by decide) (by decide) dX3_numberByWays_26
set_option maxHeartbeats 4000000 in
set_option maxRecDepth 100000 in
theorem cc_nbw_1  {c d k : Nat} {fr : Int} (hdk : k ≤ d) (hdr : (td : Int) + (d : Int) + 1 = Ex c ∧ d + 1 ≤ 10) (hcn : c < n) (htd : td ≤ 200) (hfr : -30000 ≤ fr ∧ fr ≤ 30000) (hup : 1 ≤ up ∧ up ≤ 10) (hdn : 1 ≤ dn ∧ dn ≤ 10) (hdv : ∀ j, 0 ≤ dv j ∧ dv j ≤ 1000) (hK : ∀ j, 0 ≤ K j ∧ K j ≤ 1) (hSt : ∀ j, 0 ≤ St j ∧ St j ≤ 20000) (hEx : ∀ j, 0 ≤ Ex j ∧ Ex j ≤ 200) (hAm : ∀ j, 0 ≤ Am j ∧ Am j ≤ 1) : jj_Ml EVh (dC, dI) vwCl [(cI, .int), (cJ, .long), (cZ, .boolean), (cO, .object "java/lang/Object")] l yX3_numberByWays (Cond.code yX3_numberByWays cX3_numberByWays 8 (some .long) :: lw_U) ({ frames := 3, cells := 0, slots := 0, locals := 61 } : Room) [.ref (ha 1), .ref (cA c), .int (iI (f_price up dn dv td fr d k)), .int (iI 1)] (wH ha cA hA nA ed cI cJ cZ td pr up dn dv rw sd mc n mo sh co Ca Cz K St Ex Am Bi As BL AL He Co ++ EE) (S := Unit) (fun _ => (f_V up dn dv td (K c) (St c) (Am c) fr 1 d k)) (fun _ => True) (fun _ => wH ha cA hA nA ed cI cJ cZ td pr up dn dv rw sd mc n mo sh co Ca Cz K St Ex Am Bi As BL AL He Co ++ EE) := by
  refine jj_start (cc := cX3_numberByWays) (nL := 8) (ret := (some .long)) (lv := [(0, .ref (ha 1)), (1, .ref (cA c)), (2, .int (iI (f_price up dn dv td fr d k))), (3, .int (iI 1))]) (fun A => jj_Ql _ _ _ _ _ _ A) hEVh (by decide) rfl (Nat.le_of_ble_eq_true rfl) rfl ?_
  intro p9 e9 s9 m9 a9 b9 me9 c9 A9 C1 hr hin
  have C0 : jj_C p9 s9 m9 a9 me9 c9 (dC, dI) vwCl A9 8 cX3_numberByWays "Strikehall" lw_U _ EVh := jj_toU C1
  have hw := C0.2.2.2.2.1
  have hE := C0.2.2.2.2.2.2.2.1
  have hp := f_price_bd (t := td) (j := d) (k := k) hup hdn hdv hfr (by omega) (by omega)
  have hpy := f_pays_bd (k := K c) (hSt c) hp
  have hexb := hEx c
  have hdvb := hdv (td + 1 + d)
  have hg := f_go_lR hup hdn hdv (hSt c) hfr (ki := K c) (am := Am c) (t := td) (r := 0) (d := d) (k := k) (by omega) (by omega)
  refine jj_iload_n C0 3 rfl dX3_numberByWays_0 ?_
  refine jj_if_lt C0 (by omega) dX3_numberByWays_1 (tgt := 10) (by decide) (fun c_1 => absurd c_1 (by omega)) (fun c_1 => ?_)
  refine jj_iload_n C0 3 rfl dX3_numberByWays_4 ?_
  refine jj_bipush C0 dX3_numberByWays_5 (by decide) ?_
  refine jj_icmp_le C0 (by omega) (by omega) dX3_numberByWays_7 (tgt := 12) (by decide) (fun c_2 => ?_) (fun c_2 => absurd c_2 (by omega))
  refine jj_aload_n C0 1 rfl dX3_numberByWays_12 ?_
  refine jj_iload_n C0 2 rfl dX3_numberByWays_13 ?_
  refine jj_callVNi C0 (cc_X0_paysAt  (c := c) (z := (f_price up dn dv td fr d k)) (by first | exact hcn | omega) (by omega) (by first | exact hK | omega) (by first | exact hSt | omega)) ⟨va_cnB 1 hw (lw_gc hU_301 lw_UU) rfl rfl rfl (hE.1 _ hN_663) (hw _ hU_75) (by decide +kernel) ⟨Nat.le_of_ble_eq_true rfl, Nat.le_of_ble_eq_true rfl⟩, hw _ hU_300, hw _ hU_18⟩ (ci := 1) (q0 := (8 + (3 * c + 0))) rfl ((wH_c (c := c) (by omega))) rfl rfl (Nat.le_of_ble_eq_true rfl) ⟨by decide, by decide⟩ rfl rfl dX3_numberByWays_14 ?_
  intro _ hu
  show jj_W _ _ _ _ _ _ _ _ _ _ _ _ _ _ _ _ _ 17 _ [.int (iI (f_pays (K c) (St c) (f_price up dn dv td fr d k)))] (wH ha cA hA nA ed cI cJ cZ td pr up dn dv rw sd mc n mo sh co Ca Cz K St Ex Am Bi As BL AL He Co ++ EE)
  refine jj_istore C0 (lv' := [(4, .int (iI (f_pays (K c) (St c) (f_price up dn dv td fr d k)))), (0, .ref (ha 1)), (1, .ref (cA c)), (2, .int (iI (f_price up dn dv td fr d k))), (3, .int (iI 1))]) (by decide) rfl dX3_numberByWays_17 ?_
  refine jj_iload_n C0 4 rfl dX3_numberByWays_19 ?_
  refine jj_if_ne C0 (by omega) dX3_numberByWays_20 (tgt := 27) (by decide) (fun c_3 => ?_) (fun c_3 => absurd c_3 (by omega))
  refine jj_iload_n C0 3 rfl dX3_numberByWays_27 ?_
  refine jj_aload_n C0 1 rfl dX3_numberByWays_28 ?_
  refine jj_aload_n C0 2 rfl dX3_numberByWays_29 ?_
  refine jj_getN C0 (ci := 1) (v := .int (iI (Ex c))) hin_X0 ((8 + (3 * c + 0))) ((wH_c (c := c) (by omega))) rfl 2 (by decide) (va_Nw.use rfl (hE.1 _ (hN_458))) (fun _ h9 => h9) rfl dX3_numberByWays_30 ?_
  have hb_Ex_47718 := hEx c
  refine jj_iload_n C0 4 rfl dX3_numberByWays_33 ?_
  refine jj_isub C0 dX3_numberByWays_34 ?_
  refine jj_iconst C0 dX3_numberByWays_35 ?_
  refine jj_iadd C0 dX3_numberByWays_36 ?_
  refine jj_topi (b := ((td + 1 + d : Nat) : Int)) (by omega) ?_
  refine jj_callVNi C0 (cc_X2_dividendOn  (d := (td + 1 + d)) (by omega)) ⟨va_cnB 1 hw (lw_gc hU_297 lw_UU) rfl rfl rfl (hE.1 _ hN_418) (hw _ hU_61) (by decide +kernel) ⟨Nat.le_of_ble_eq_true rfl, Nat.le_of_ble_eq_true rfl⟩, hw _ hU_296, hw _ hU_17⟩ (ci := 3) (q0 := 1) rfl (rfl) rfl rfl (Nat.le_of_ble_eq_true rfl) ⟨by decide, by decide⟩ rfl rfl dX3_numberByWays_37 ?_
  intro _ hu
  show jj_W _ _ _ _ _ _ _ _ _ _ _ _ _ _ _ _ _ 40 _ [.int (iI (dv (td + 1 + d))), .int (iI (f_price up dn dv td fr d k))] (wH ha cA hA nA ed cI cJ cZ td pr up dn dv rw sd mc n mo sh co Ca Cz K St Ex Am Bi As BL AL He Co ++ EE)
  refine jj_isub C0 dX3_numberByWays_40 ?_
  refine jj_istore C0 (lv' := [(5, .int (iI ((f_price up dn dv td fr d k) - (dv (td + 1 + d))))), (4, .int (iI (f_pays (K c) (St c) (f_price up dn dv td fr d k)))), (0, .ref (ha 1)), (1, .ref (cA c)), (2, .int (iI (f_price up dn dv td fr d k))), (3, .int (iI 1))]) (by decide) rfl dX3_numberByWays_41 ?_
  refine jj_aload_n C0 2 rfl dX3_numberByWays_43 ?_
  refine jj_getN C0 (ci := 3) (v := .int (iI dn)) hin_X2 (1) (rfl) rfl 4 (by decide) (va_Nw.use rfl (hE.1 _ (hN_101))) (fun _ h9 => h9) rfl dX3_numberByWays_44 ?_
  refine jj_i2l C0 (by omega) dX3_numberByWays_47 ?_
  refine jj_aload_n C0 2 rfl dX3_numberByWays_48 ?_
  refine jj_aload_n C0 3 rfl dX3_numberByWays_49 ?_
  refine jj_iload C0 0 rfl dX3_numberByWays_50 ?_
  refine jj_bipush C0 dX3_numberByWays_52 (by decide) ?_
  refine jj_aload_n C0 2 rfl dX3_numberByWays_54 ?_
  refine jj_getN C0 (ci := 3) (v := .int (iI up)) hin_X2 (1) (rfl) rfl 3 (by decide) (va_Nw.use rfl (hE.1 _ (hN_99))) (fun _ h9 => h9) rfl dX3_numberByWays_55 ?_
  refine jj_imul C0 dX3_numberByWays_58 ?_
  refine jj_iadd C0 dX3_numberByWays_59 ?_
  refine jj_topi (b := (f_price up dn dv td fr (d + 1) (k + 1))) (f_pr_up) ?_
  refine jj_iload_n C0 5 rfl dX3_numberByWays_60 ?_
  refine jj_iconst C0 dX3_numberByWays_61 ?_
  refine jj_isub C0 dX3_numberByWays_62 ?_
  refine jj_topi (b := 0) (by omega) ?_
  refine jj_callSl C0 (cc_nbw_0  (c := c) (d := (d + 1)) (k := (k + 1)) (fr := fr) (by first | exact hdk | omega) (by first | exact hdr | omega) (by first | exact hcn | omega) (by first | exact htd | omega) (by first | exact hfr | omega) (by first | exact hup | omega) (by first | exact hdn | omega) (by first | exact hdv | omega) (by first | exact hK | omega) (by first | exact hSt | omega) (by first | exact hEx | omega) (by first | exact hAm | omega)) (cwS 4 hw (lw_gS hU_737 hU_738 hU_60 hU_739) rfl rfl rfl (by decide +kernel) ⟨Nat.le_of_ble_eq_true rfl, Nat.le_of_ble_eq_true rfl⟩) rfl rfl (Nat.le_of_ble_eq_true rfl) ⟨by decide, by decide⟩ rfl rfl dX3_numberByWays_63 ?_
  intro _ hu
  show jj_W _ _ _ _ _ _ _ _ _ _ _ _ _ _ _ _ _ 66 _ [.long (lI (f_V up dn dv td (K c) (St c) (Am c) fr 0 (d + 1) (k + 1))), .long (lI dn)] (wH ha cA hA nA ed cI cJ cZ td pr up dn dv rw sd mc n mo sh co Ca Cz K St Ex Am Bi As BL AL He Co ++ EE)
  refine jj_lmul C0 dX3_numberByWays_66 ?_
  refine jj_aload_n C0 2 rfl dX3_numberByWays_67 ?_
  refine jj_getN C0 (ci := 3) (v := .int (iI up)) hin_X2 (1) (rfl) rfl 3 (by decide) (va_Nw.use rfl (hE.1 _ (hN_99))) (fun _ h9 => h9) rfl dX3_numberByWays_68 ?_
  refine jj_i2l C0 (by omega) dX3_numberByWays_71 ?_
  refine jj_aload_n C0 2 rfl dX3_numberByWays_72 ?_
  refine jj_aload_n C0 3 rfl dX3_numberByWays_73 ?_
  refine jj_iload C0 0 rfl dX3_numberByWays_74 ?_
  refine jj_bipush C0 dX3_numberByWays_76 (by decide) ?_
  refine jj_aload_n C0 2 rfl dX3_numberByWays_78 ?_
  refine jj_getN C0 (ci := 3) (v := .int (iI dn)) hin_X2 (1) (rfl) rfl 4 (by decide) (va_Nw.use rfl (hE.1 _ (hN_101))) (fun _ h9 => h9) rfl dX3_numberByWays_79 ?_
  refine jj_imul C0 dX3_numberByWays_82 ?_
  refine jj_isub C0 dX3_numberByWays_83 ?_
  refine jj_topi (b := (f_price up dn dv td fr (d + 1) k)) (f_pr_dn) ?_
  refine jj_iload_n C0 5 rfl dX3_numberByWays_84 ?_
  refine jj_iconst C0 dX3_numberByWays_85 ?_
  refine jj_isub C0 dX3_numberByWays_86 ?_
  refine jj_topi (b := 0) (by omega) ?_
  refine jj_callSl C0 (cc_nbw_0  (c := c) (d := (d + 1)) (k := k) (fr := fr) (by first | exact hdk | omega) (by first | exact hdr | omega) (by first | exact hcn | omega) (by first | exact htd | omega) (by first | exact hfr | omega) (by first | exact hup | omega) (by first | exact hdn | omega) (by first | exact hdv | omega) (by first | exact hK | omega) (by first | exact hSt | omega) (by first | exact hEx | omega) (by first | exact hAm | omega)) (cwS 4 hw (lw_gS hU_737 hU_738 hU_60 hU_739) rfl rfl rfl (by decide +kernel) ⟨Nat.le_of_ble_eq_true rfl, Nat.le_of_ble_eq_true rfl⟩) rfl rfl (Nat.le_of_ble_eq_true rfl) ⟨by decide, by decide⟩ rfl rfl dX3_numberByWays_87 ?_
  intro _ hu
  show jj_W _ _ _ _ _ _ _ _ _ _ _ _ _ _ _ _ _ 90 _ [.long (lI (f_V up dn dv td (K c) (St c) (Am c) fr 0 (d + 1) k)), .long (lI up), .long (lI (dn * (f_V up dn dv td (K c) (St c) (Am c) fr 0 (d + 1) (k + 1))))] (wH ha cA hA nA ed cI cJ cZ td pr up dn dv rw sd mc n mo sh co Ca Cz K St Ex Am Bi As BL AL He Co ++ EE)
  refine jj_lmul C0 dX3_numberByWays_90 ?_
  refine jj_ladd C0 dX3_numberByWays_91 ?_
  refine jj_lstore C0 (lv' := [(6, .long (lI ((dn * (f_V up dn dv td (K c) (St c) (Am c) fr 0 (d + 1) (k + 1))) + (up * (f_V up dn dv td (K c) (St c) (Am c) fr 0 (d + 1) k))))), (5, .int (iI ((f_price up dn dv td fr d k) - (dv (td + 1 + d))))), (4, .int (iI (f_pays (K c) (St c) (f_price up dn dv td fr d k)))), (0, .ref (ha 1)), (1, .ref (cA c)), (2, .int (iI (f_price up dn dv td fr d k))), (3, .int (iI 1))]) (by decide) rfl dX3_numberByWays_92 ?_
  refine jj_aload_n C0 4 rfl dX3_numberByWays_94 ?_
  refine jj_getN C0 (ci := 1) (v := .int (iI (Am c))) hin_X0 ((8 + (3 * c + 0))) ((wH_c (c := c) (by omega))) rfl 3 (by decide) (va_Nw.use rfl (hE.1 _ (hN_461))) (fun _ h9 => h9) rfl dX3_numberByWays_95 ?_
  have hb_Am_8303 := hAm c
  refine jj_if_ne C0 (by omega) dX3_numberByWays_98 (tgt := 104) (by decide) (fun c_4 => ?_) (fun c_4 => ?_)
  · refine jj_lload C0 0 rfl dX3_numberByWays_104 ?_
    refine jj_iload C0 2 rfl dX3_numberByWays_106 ?_
    refine jj_i2l C0 (by omega) dX3_numberByWays_108 ?_
    refine jj_aload_n C0 3 rfl dX3_numberByWays_109 ?_
    refine jj_getN C0 (ci := 3) (v := .int (iI up)) hin_X2 (1) (rfl) rfl 3 (by decide) (va_Nw.use rfl (hE.1 _ (hN_99))) (fun _ h9 => h9) rfl dX3_numberByWays_110 ?_
    refine jj_aload_n C0 3 rfl dX3_numberByWays_113 ?_
    refine jj_getN C0 (ci := 3) (v := .int (iI dn)) hin_X2 (1) (rfl) rfl 4 (by decide) (va_Nw.use rfl (hE.1 _ (hN_101))) (fun _ h9 => h9) rfl dX3_numberByWays_114 ?_
    refine jj_iadd C0 dX3_numberByWays_117 ?_
    refine jj_i2l C0 (by omega) dX3_numberByWays_118 ?_
    refine jj_iload_n C0 6 rfl dX3_numberByWays_119 ?_
    refine jj_callSl C0 (cc_X3_power  (b := (up + dn)) (e := (1 : Int)) (by omega)) (cwS 2 hw (lw_gS hU_740 hU_316 hU_60 hU_317) rfl rfl rfl (by decide +kernel) ⟨Nat.le_of_ble_eq_true rfl, Nat.le_of_ble_eq_true rfl⟩) rfl rfl (Nat.le_of_ble_eq_true rfl) ⟨by decide, by decide⟩ rfl rfl dX3_numberByWays_120 ?_
    intro _ hu
    show jj_W _ _ _ _ _ _ _ _ _ _ _ _ _ _ _ _ _ 123 _ [.long (lI ((up + dn) ^ ((1 : Int)).toNat)), .long (lI (f_pays (K c) (St c) (f_price up dn dv td fr d k))), .long (lI ((dn * (f_V up dn dv td (K c) (St c) (Am c) fr 0 (d + 1) (k + 1))) + (up * (f_V up dn dv td (K c) (St c) (Am c) fr 0 (d + 1) k))))] (wH ha cA hA nA ed cI cJ cZ td pr up dn dv rw sd mc n mo sh co Ca Cz K St Ex Am Bi As BL AL He Co ++ EE)
    refine jj_topl (b := ((up + dn) ^ (0 + 1))) (rfl) ?_
    refine jj_lmul C0 dX3_numberByWays_123 ?_
    refine jj_mmaxl C0 (by omega) (by omega) (hw _ hU_741) (List.forall_mem_cons.mpr ⟨hw _ hU_306, List.forall_mem_cons.mpr ⟨hw _ hU_73, List.forall_mem_cons.mpr ⟨hw _ hU_307, fun _ h => absurd h List.not_mem_nil⟩⟩⟩) (by decide) (Nat.le_of_ble_eq_true rfl) ⟨by decide, by decide⟩ dX3_numberByWays_124 ?_
    exact jj_lret C0 hr () (trivial) (by exact f_V_e1 (r := 0) (by omega)) (rfl) (by decide) (by decide) dX3_numberByWays_127
  · refine jj_lload C0 0 rfl dX3_numberByWays_101 ?_
    exact jj_lret C0 hr () (trivial) (by exact f_V_e0 (r := 0) (by omega)) (rfl) (by decide) (by decide) dX3_numberByWays_103
set_option maxHeartbeats 4000000 in
set_option maxRecDepth 100000 in
theorem cc_nbw_2  {c d k : Nat} {fr : Int} (hdk : k ≤ d) (hdr : (td : Int) + (d : Int) + 2 = Ex c ∧ d + 2 ≤ 10) (hcn : c < n) (htd : td ≤ 200) (hfr : -30000 ≤ fr ∧ fr ≤ 30000) (hup : 1 ≤ up ∧ up ≤ 10) (hdn : 1 ≤ dn ∧ dn ≤ 10) (hdv : ∀ j, 0 ≤ dv j ∧ dv j ≤ 1000) (hK : ∀ j, 0 ≤ K j ∧ K j ≤ 1) (hSt : ∀ j, 0 ≤ St j ∧ St j ≤ 20000) (hEx : ∀ j, 0 ≤ Ex j ∧ Ex j ≤ 200) (hAm : ∀ j, 0 ≤ Am j ∧ Am j ≤ 1) : jj_Ml EVh (dC, dI) vwCl [(cI, .int), (cJ, .long), (cZ, .boolean), (cO, .object "java/lang/Object")] l yX3_numberByWays (Cond.code yX3_numberByWays cX3_numberByWays 8 (some .long) :: lw_U) ({ frames := 4, cells := 0, slots := 0, locals := 88 } : Room) [.ref (ha 1), .ref (cA c), .int (iI (f_price up dn dv td fr d k)), .int (iI 2)] (wH ha cA hA nA ed cI cJ cZ td pr up dn dv rw sd mc n mo sh co Ca Cz K St Ex Am Bi As BL AL He Co ++ EE) (S := Unit) (fun _ => (f_V up dn dv td (K c) (St c) (Am c) fr 2 d k)) (fun _ => True) (fun _ => wH ha cA hA nA ed cI cJ cZ td pr up dn dv rw sd mc n mo sh co Ca Cz K St Ex Am Bi As BL AL He Co ++ EE) := by
  refine jj_start (cc := cX3_numberByWays) (nL := 8) (ret := (some .long)) (lv := [(0, .ref (ha 1)), (1, .ref (cA c)), (2, .int (iI (f_price up dn dv td fr d k))), (3, .int (iI 2))]) (fun A => jj_Ql _ _ _ _ _ _ A) hEVh (by decide) rfl (Nat.le_of_ble_eq_true rfl) rfl ?_
  intro p9 e9 s9 m9 a9 b9 me9 c9 A9 C1 hr hin
  have C0 : jj_C p9 s9 m9 a9 me9 c9 (dC, dI) vwCl A9 8 cX3_numberByWays "Strikehall" lw_U _ EVh := jj_toU C1
  have hw := C0.2.2.2.2.1
  have hE := C0.2.2.2.2.2.2.2.1
  have hp := f_price_bd (t := td) (j := d) (k := k) hup hdn hdv hfr (by omega) (by omega)
  have hpy := f_pays_bd (k := K c) (hSt c) hp
  have hexb := hEx c
  have hdvb := hdv (td + 1 + d)
  have hg := f_go_lR hup hdn hdv (hSt c) hfr (ki := K c) (am := Am c) (t := td) (r := 1) (d := d) (k := k) (by omega) (by omega)
  refine jj_iload_n C0 3 rfl dX3_numberByWays_0 ?_
  refine jj_if_lt C0 (by omega) dX3_numberByWays_1 (tgt := 10) (by decide) (fun c_1 => absurd c_1 (by omega)) (fun c_1 => ?_)
  refine jj_iload_n C0 3 rfl dX3_numberByWays_4 ?_
  refine jj_bipush C0 dX3_numberByWays_5 (by decide) ?_
  refine jj_icmp_le C0 (by omega) (by omega) dX3_numberByWays_7 (tgt := 12) (by decide) (fun c_2 => ?_) (fun c_2 => absurd c_2 (by omega))
  refine jj_aload_n C0 1 rfl dX3_numberByWays_12 ?_
  refine jj_iload_n C0 2 rfl dX3_numberByWays_13 ?_
  refine jj_callVNi C0 (cc_X0_paysAt  (c := c) (z := (f_price up dn dv td fr d k)) (by first | exact hcn | omega) (by omega) (by first | exact hK | omega) (by first | exact hSt | omega)) ⟨va_cnB 1 hw (lw_gc hU_301 lw_UU) rfl rfl rfl (hE.1 _ hN_663) (hw _ hU_75) (by decide +kernel) ⟨Nat.le_of_ble_eq_true rfl, Nat.le_of_ble_eq_true rfl⟩, hw _ hU_300, hw _ hU_18⟩ (ci := 1) (q0 := (8 + (3 * c + 0))) rfl ((wH_c (c := c) (by omega))) rfl rfl (Nat.le_of_ble_eq_true rfl) ⟨by decide, by decide⟩ rfl rfl dX3_numberByWays_14 ?_
  intro _ hu
  show jj_W _ _ _ _ _ _ _ _ _ _ _ _ _ _ _ _ _ 17 _ [.int (iI (f_pays (K c) (St c) (f_price up dn dv td fr d k)))] (wH ha cA hA nA ed cI cJ cZ td pr up dn dv rw sd mc n mo sh co Ca Cz K St Ex Am Bi As BL AL He Co ++ EE)
  refine jj_istore C0 (lv' := [(4, .int (iI (f_pays (K c) (St c) (f_price up dn dv td fr d k)))), (0, .ref (ha 1)), (1, .ref (cA c)), (2, .int (iI (f_price up dn dv td fr d k))), (3, .int (iI 2))]) (by decide) rfl dX3_numberByWays_17 ?_
  refine jj_iload_n C0 4 rfl dX3_numberByWays_19 ?_
  refine jj_if_ne C0 (by omega) dX3_numberByWays_20 (tgt := 27) (by decide) (fun c_3 => ?_) (fun c_3 => absurd c_3 (by omega))
  refine jj_iload_n C0 3 rfl dX3_numberByWays_27 ?_
  refine jj_aload_n C0 1 rfl dX3_numberByWays_28 ?_
  refine jj_aload_n C0 2 rfl dX3_numberByWays_29 ?_
  refine jj_getN C0 (ci := 1) (v := .int (iI (Ex c))) hin_X0 ((8 + (3 * c + 0))) ((wH_c (c := c) (by omega))) rfl 2 (by decide) (va_Nw.use rfl (hE.1 _ (hN_458))) (fun _ h9 => h9) rfl dX3_numberByWays_30 ?_
  have hb_Ex_47718 := hEx c
  refine jj_iload_n C0 4 rfl dX3_numberByWays_33 ?_
  refine jj_isub C0 dX3_numberByWays_34 ?_
  refine jj_iconst C0 dX3_numberByWays_35 ?_
  refine jj_iadd C0 dX3_numberByWays_36 ?_
  refine jj_topi (b := ((td + 1 + d : Nat) : Int)) (by omega) ?_
  refine jj_callVNi C0 (cc_X2_dividendOn  (d := (td + 1 + d)) (by omega)) ⟨va_cnB 1 hw (lw_gc hU_297 lw_UU) rfl rfl rfl (hE.1 _ hN_418) (hw _ hU_61) (by decide +kernel) ⟨Nat.le_of_ble_eq_true rfl, Nat.le_of_ble_eq_true rfl⟩, hw _ hU_296, hw _ hU_17⟩ (ci := 3) (q0 := 1) rfl (rfl) rfl rfl (Nat.le_of_ble_eq_true rfl) ⟨by decide, by decide⟩ rfl rfl dX3_numberByWays_37 ?_
  intro _ hu
  show jj_W _ _ _ _ _ _ _ _ _ _ _ _ _ _ _ _ _ 40 _ [.int (iI (dv (td + 1 + d))), .int (iI (f_price up dn dv td fr d k))] (wH ha cA hA nA ed cI cJ cZ td pr up dn dv rw sd mc n mo sh co Ca Cz K St Ex Am Bi As BL AL He Co ++ EE)
  refine jj_isub C0 dX3_numberByWays_40 ?_
  refine jj_istore C0 (lv' := [(5, .int (iI ((f_price up dn dv td fr d k) - (dv (td + 1 + d))))), (4, .int (iI (f_pays (K c) (St c) (f_price up dn dv td fr d k)))), (0, .ref (ha 1)), (1, .ref (cA c)), (2, .int (iI (f_price up dn dv td fr d k))), (3, .int (iI 2))]) (by decide) rfl dX3_numberByWays_41 ?_
  refine jj_aload_n C0 2 rfl dX3_numberByWays_43 ?_
  refine jj_getN C0 (ci := 3) (v := .int (iI dn)) hin_X2 (1) (rfl) rfl 4 (by decide) (va_Nw.use rfl (hE.1 _ (hN_101))) (fun _ h9 => h9) rfl dX3_numberByWays_44 ?_
  refine jj_i2l C0 (by omega) dX3_numberByWays_47 ?_
  refine jj_aload_n C0 2 rfl dX3_numberByWays_48 ?_
  refine jj_aload_n C0 3 rfl dX3_numberByWays_49 ?_
  refine jj_iload C0 0 rfl dX3_numberByWays_50 ?_
  refine jj_bipush C0 dX3_numberByWays_52 (by decide) ?_
  refine jj_aload_n C0 2 rfl dX3_numberByWays_54 ?_
  refine jj_getN C0 (ci := 3) (v := .int (iI up)) hin_X2 (1) (rfl) rfl 3 (by decide) (va_Nw.use rfl (hE.1 _ (hN_99))) (fun _ h9 => h9) rfl dX3_numberByWays_55 ?_
  refine jj_imul C0 dX3_numberByWays_58 ?_
  refine jj_iadd C0 dX3_numberByWays_59 ?_
  refine jj_topi (b := (f_price up dn dv td fr (d + 1) (k + 1))) (f_pr_up) ?_
  refine jj_iload_n C0 5 rfl dX3_numberByWays_60 ?_
  refine jj_iconst C0 dX3_numberByWays_61 ?_
  refine jj_isub C0 dX3_numberByWays_62 ?_
  refine jj_topi (b := 1) (by omega) ?_
  refine jj_callSl C0 (cc_nbw_1  (c := c) (d := (d + 1)) (k := (k + 1)) (fr := fr) (by first | exact hdk | omega) (by first | exact hdr | omega) (by first | exact hcn | omega) (by first | exact htd | omega) (by first | exact hfr | omega) (by first | exact hup | omega) (by first | exact hdn | omega) (by first | exact hdv | omega) (by first | exact hK | omega) (by first | exact hSt | omega) (by first | exact hEx | omega) (by first | exact hAm | omega)) (cwS 4 hw (lw_gS hU_737 hU_738 hU_60 hU_739) rfl rfl rfl (by decide +kernel) ⟨Nat.le_of_ble_eq_true rfl, Nat.le_of_ble_eq_true rfl⟩) rfl rfl (Nat.le_of_ble_eq_true rfl) ⟨by decide, by decide⟩ rfl rfl dX3_numberByWays_63 ?_
  intro _ hu
  show jj_W _ _ _ _ _ _ _ _ _ _ _ _ _ _ _ _ _ 66 _ [.long (lI (f_V up dn dv td (K c) (St c) (Am c) fr 1 (d + 1) (k + 1))), .long (lI dn)] (wH ha cA hA nA ed cI cJ cZ td pr up dn dv rw sd mc n mo sh co Ca Cz K St Ex Am Bi As BL AL He Co ++ EE)
  refine jj_lmul C0 dX3_numberByWays_66 ?_
  refine jj_aload_n C0 2 rfl dX3_numberByWays_67 ?_
  refine jj_getN C0 (ci := 3) (v := .int (iI up)) hin_X2 (1) (rfl) rfl 3 (by decide) (va_Nw.use rfl (hE.1 _ (hN_99))) (fun _ h9 => h9) rfl dX3_numberByWays_68 ?_
  refine jj_i2l C0 (by omega) dX3_numberByWays_71 ?_
  refine jj_aload_n C0 2 rfl dX3_numberByWays_72 ?_
  refine jj_aload_n C0 3 rfl dX3_numberByWays_73 ?_
  refine jj_iload C0 0 rfl dX3_numberByWays_74 ?_
  refine jj_bipush C0 dX3_numberByWays_76 (by decide) ?_
  refine jj_aload_n C0 2 rfl dX3_numberByWays_78 ?_
  refine jj_getN C0 (ci := 3) (v := .int (iI dn)) hin_X2 (1) (rfl) rfl 4 (by decide) (va_Nw.use rfl (hE.1 _ (hN_101))) (fun _ h9 => h9) rfl dX3_numberByWays_79 ?_
  refine jj_imul C0 dX3_numberByWays_82 ?_
  refine jj_isub C0 dX3_numberByWays_83 ?_
  refine jj_topi (b := (f_price up dn dv td fr (d + 1) k)) (f_pr_dn) ?_
  refine jj_iload_n C0 5 rfl dX3_numberByWays_84 ?_
  refine jj_iconst C0 dX3_numberByWays_85 ?_
  refine jj_isub C0 dX3_numberByWays_86 ?_
  refine jj_topi (b := 1) (by omega) ?_
  refine jj_callSl C0 (cc_nbw_1  (c := c) (d := (d + 1)) (k := k) (fr := fr) (by first | exact hdk | omega) (by first | exact hdr | omega) (by first | exact hcn | omega) (by first | exact htd | omega) (by first | exact hfr | omega) (by first | exact hup | omega) (by first | exact hdn | omega) (by first | exact hdv | omega) (by first | exact hK | omega) (by first | exact hSt | omega) (by first | exact hEx | omega) (by first | exact hAm | omega)) (cwS 4 hw (lw_gS hU_737 hU_738 hU_60 hU_739) rfl rfl rfl (by decide +kernel) ⟨Nat.le_of_ble_eq_true rfl, Nat.le_of_ble_eq_true rfl⟩) rfl rfl (Nat.le_of_ble_eq_true rfl) ⟨by decide, by decide⟩ rfl rfl dX3_numberByWays_87 ?_
  intro _ hu
  show jj_W _ _ _ _ _ _ _ _ _ _ _ _ _ _ _ _ _ 90 _ [.long (lI (f_V up dn dv td (K c) (St c) (Am c) fr 1 (d + 1) k)), .long (lI up), .long (lI (dn * (f_V up dn dv td (K c) (St c) (Am c) fr 1 (d + 1) (k + 1))))] (wH ha cA hA nA ed cI cJ cZ td pr up dn dv rw sd mc n mo sh co Ca Cz K St Ex Am Bi As BL AL He Co ++ EE)
  refine jj_lmul C0 dX3_numberByWays_90 ?_
  refine jj_ladd C0 dX3_numberByWays_91 ?_
  refine jj_lstore C0 (lv' := [(6, .long (lI ((dn * (f_V up dn dv td (K c) (St c) (Am c) fr 1 (d + 1) (k + 1))) + (up * (f_V up dn dv td (K c) (St c) (Am c) fr 1 (d + 1) k))))), (5, .int (iI ((f_price up dn dv td fr d k) - (dv (td + 1 + d))))), (4, .int (iI (f_pays (K c) (St c) (f_price up dn dv td fr d k)))), (0, .ref (ha 1)), (1, .ref (cA c)), (2, .int (iI (f_price up dn dv td fr d k))), (3, .int (iI 2))]) (by decide) rfl dX3_numberByWays_92 ?_
  refine jj_aload_n C0 4 rfl dX3_numberByWays_94 ?_
  refine jj_getN C0 (ci := 1) (v := .int (iI (Am c))) hin_X0 ((8 + (3 * c + 0))) ((wH_c (c := c) (by omega))) rfl 3 (by decide) (va_Nw.use rfl (hE.1 _ (hN_461))) (fun _ h9 => h9) rfl dX3_numberByWays_95 ?_
  have hb_Am_8303 := hAm c
  refine jj_if_ne C0 (by omega) dX3_numberByWays_98 (tgt := 104) (by decide) (fun c_4 => ?_) (fun c_4 => ?_)
  · refine jj_lload C0 0 rfl dX3_numberByWays_104 ?_
    refine jj_iload C0 2 rfl dX3_numberByWays_106 ?_
    refine jj_i2l C0 (by omega) dX3_numberByWays_108 ?_
    refine jj_aload_n C0 3 rfl dX3_numberByWays_109 ?_
    refine jj_getN C0 (ci := 3) (v := .int (iI up)) hin_X2 (1) (rfl) rfl 3 (by decide) (va_Nw.use rfl (hE.1 _ (hN_99))) (fun _ h9 => h9) rfl dX3_numberByWays_110 ?_
    refine jj_aload_n C0 3 rfl dX3_numberByWays_113 ?_
    refine jj_getN C0 (ci := 3) (v := .int (iI dn)) hin_X2 (1) (rfl) rfl 4 (by decide) (va_Nw.use rfl (hE.1 _ (hN_101))) (fun _ h9 => h9) rfl dX3_numberByWays_114 ?_
    refine jj_iadd C0 dX3_numberByWays_117 ?_
    refine jj_i2l C0 (by omega) dX3_numberByWays_118 ?_
    refine jj_iload_n C0 6 rfl dX3_numberByWays_119 ?_
    refine jj_callSl C0 (cc_X3_power  (b := (up + dn)) (e := (2 : Int)) (by omega)) (cwS 2 hw (lw_gS hU_740 hU_316 hU_60 hU_317) rfl rfl rfl (by decide +kernel) ⟨Nat.le_of_ble_eq_true rfl, Nat.le_of_ble_eq_true rfl⟩) rfl rfl (Nat.le_of_ble_eq_true rfl) ⟨by decide, by decide⟩ rfl rfl dX3_numberByWays_120 ?_
    intro _ hu
    show jj_W _ _ _ _ _ _ _ _ _ _ _ _ _ _ _ _ _ 123 _ [.long (lI ((up + dn) ^ ((2 : Int)).toNat)), .long (lI (f_pays (K c) (St c) (f_price up dn dv td fr d k))), .long (lI ((dn * (f_V up dn dv td (K c) (St c) (Am c) fr 1 (d + 1) (k + 1))) + (up * (f_V up dn dv td (K c) (St c) (Am c) fr 1 (d + 1) k))))] (wH ha cA hA nA ed cI cJ cZ td pr up dn dv rw sd mc n mo sh co Ca Cz K St Ex Am Bi As BL AL He Co ++ EE)
    refine jj_topl (b := ((up + dn) ^ (1 + 1))) (rfl) ?_
    refine jj_lmul C0 dX3_numberByWays_123 ?_
    refine jj_mmaxl C0 (by omega) (by omega) (hw _ hU_741) (List.forall_mem_cons.mpr ⟨hw _ hU_306, List.forall_mem_cons.mpr ⟨hw _ hU_73, List.forall_mem_cons.mpr ⟨hw _ hU_307, fun _ h => absurd h List.not_mem_nil⟩⟩⟩) (by decide) (Nat.le_of_ble_eq_true rfl) ⟨by decide, by decide⟩ dX3_numberByWays_124 ?_
    exact jj_lret C0 hr () (trivial) (by exact f_V_e1 (r := 1) (by omega)) (rfl) (by decide) (by decide) dX3_numberByWays_127
  · refine jj_lload C0 0 rfl dX3_numberByWays_101 ?_
    exact jj_lret C0 hr () (trivial) (by exact f_V_e0 (r := 1) (by omega)) (rfl) (by decide) (by decide) dX3_numberByWays_103
set_option maxHeartbeats 4000000 in
set_option maxRecDepth 100000 in
theorem cc_nbw_3  {c d k : Nat} {fr : Int} (hdk : k ≤ d) (hdr : (td : Int) + (d : Int) + 3 = Ex c ∧ d + 3 ≤ 10) (hcn : c < n) (htd : td ≤ 200) (hfr : -30000 ≤ fr ∧ fr ≤ 30000) (hup : 1 ≤ up ∧ up ≤ 10) (hdn : 1 ≤ dn ∧ dn ≤ 10) (hdv : ∀ j, 0 ≤ dv j ∧ dv j ≤ 1000) (hK : ∀ j, 0 ≤ K j ∧ K j ≤ 1) (hSt : ∀ j, 0 ≤ St j ∧ St j ≤ 20000) (hEx : ∀ j, 0 ≤ Ex j ∧ Ex j ≤ 200) (hAm : ∀ j, 0 ≤ Am j ∧ Am j ≤ 1) : jj_Ml EVh (dC, dI) vwCl [(cI, .int), (cJ, .long), (cZ, .boolean), (cO, .object "java/lang/Object")] l yX3_numberByWays (Cond.code yX3_numberByWays cX3_numberByWays 8 (some .long) :: lw_U) ({ frames := 5, cells := 0, slots := 0, locals := 115 } : Room) [.ref (ha 1), .ref (cA c), .int (iI (f_price up dn dv td fr d k)), .int (iI 3)] (wH ha cA hA nA ed cI cJ cZ td pr up dn dv rw sd mc n mo sh co Ca Cz K St Ex Am Bi As BL AL He Co ++ EE) (S := Unit) (fun _ => (f_V up dn dv td (K c) (St c) (Am c) fr 3 d k)) (fun _ => True) (fun _ => wH ha cA hA nA ed cI cJ cZ td pr up dn dv rw sd mc n mo sh co Ca Cz K St Ex Am Bi As BL AL He Co ++ EE) := by
  refine jj_start (cc := cX3_numberByWays) (nL := 8) (ret := (some .long)) (lv := [(0, .ref (ha 1)), (1, .ref (cA c)), (2, .int (iI (f_price up dn dv td fr d k))), (3, .int (iI 3))]) (fun A => jj_Ql _ _ _ _ _ _ A) hEVh (by decide) rfl (Nat.le_of_ble_eq_true rfl) rfl ?_
  intro p9 e9 s9 m9 a9 b9 me9 c9 A9 C1 hr hin
  have C0 : jj_C p9 s9 m9 a9 me9 c9 (dC, dI) vwCl A9 8 cX3_numberByWays "Strikehall" lw_U _ EVh := jj_toU C1
  have hw := C0.2.2.2.2.1
  have hE := C0.2.2.2.2.2.2.2.1
  have hp := f_price_bd (t := td) (j := d) (k := k) hup hdn hdv hfr (by omega) (by omega)
  have hpy := f_pays_bd (k := K c) (hSt c) hp
  have hexb := hEx c
  have hdvb := hdv (td + 1 + d)
  have hg := f_go_lR hup hdn hdv (hSt c) hfr (ki := K c) (am := Am c) (t := td) (r := 2) (d := d) (k := k) (by omega) (by omega)
  refine jj_iload_n C0 3 rfl dX3_numberByWays_0 ?_
  refine jj_if_lt C0 (by omega) dX3_numberByWays_1 (tgt := 10) (by decide) (fun c_1 => absurd c_1 (by omega)) (fun c_1 => ?_)
  refine jj_iload_n C0 3 rfl dX3_numberByWays_4 ?_
  refine jj_bipush C0 dX3_numberByWays_5 (by decide) ?_
  refine jj_icmp_le C0 (by omega) (by omega) dX3_numberByWays_7 (tgt := 12) (by decide) (fun c_2 => ?_) (fun c_2 => absurd c_2 (by omega))
  refine jj_aload_n C0 1 rfl dX3_numberByWays_12 ?_
  refine jj_iload_n C0 2 rfl dX3_numberByWays_13 ?_
  refine jj_callVNi C0 (cc_X0_paysAt  (c := c) (z := (f_price up dn dv td fr d k)) (by first | exact hcn | omega) (by omega) (by first | exact hK | omega) (by first | exact hSt | omega)) ⟨va_cnB 1 hw (lw_gc hU_301 lw_UU) rfl rfl rfl (hE.1 _ hN_663) (hw _ hU_75) (by decide +kernel) ⟨Nat.le_of_ble_eq_true rfl, Nat.le_of_ble_eq_true rfl⟩, hw _ hU_300, hw _ hU_18⟩ (ci := 1) (q0 := (8 + (3 * c + 0))) rfl ((wH_c (c := c) (by omega))) rfl rfl (Nat.le_of_ble_eq_true rfl) ⟨by decide, by decide⟩ rfl rfl dX3_numberByWays_14 ?_
  intro _ hu
  show jj_W _ _ _ _ _ _ _ _ _ _ _ _ _ _ _ _ _ 17 _ [.int (iI (f_pays (K c) (St c) (f_price up dn dv td fr d k)))] (wH ha cA hA nA ed cI cJ cZ td pr up dn dv rw sd mc n mo sh co Ca Cz K St Ex Am Bi As BL AL He Co ++ EE)
  refine jj_istore C0 (lv' := [(4, .int (iI (f_pays (K c) (St c) (f_price up dn dv td fr d k)))), (0, .ref (ha 1)), (1, .ref (cA c)), (2, .int (iI (f_price up dn dv td fr d k))), (3, .int (iI 3))]) (by decide) rfl dX3_numberByWays_17 ?_
  refine jj_iload_n C0 4 rfl dX3_numberByWays_19 ?_
  refine jj_if_ne C0 (by omega) dX3_numberByWays_20 (tgt := 27) (by decide) (fun c_3 => ?_) (fun c_3 => absurd c_3 (by omega))
  refine jj_iload_n C0 3 rfl dX3_numberByWays_27 ?_
  refine jj_aload_n C0 1 rfl dX3_numberByWays_28 ?_
  refine jj_aload_n C0 2 rfl dX3_numberByWays_29 ?_
  refine jj_getN C0 (ci := 1) (v := .int (iI (Ex c))) hin_X0 ((8 + (3 * c + 0))) ((wH_c (c := c) (by omega))) rfl 2 (by decide) (va_Nw.use rfl (hE.1 _ (hN_458))) (fun _ h9 => h9) rfl dX3_numberByWays_30 ?_
  have hb_Ex_47718 := hEx c
  refine jj_iload_n C0 4 rfl dX3_numberByWays_33 ?_
  refine jj_isub C0 dX3_numberByWays_34 ?_
  refine jj_iconst C0 dX3_numberByWays_35 ?_
  refine jj_iadd C0 dX3_numberByWays_36 ?_
  refine jj_topi (b := ((td + 1 + d : Nat) : Int)) (by omega) ?_
  refine jj_callVNi C0 (cc_X2_dividendOn  (d := (td + 1 + d)) (by omega)) ⟨va_cnB 1 hw (lw_gc hU_297 lw_UU) rfl rfl rfl (hE.1 _ hN_418) (hw _ hU_61) (by decide +kernel) ⟨Nat.le_of_ble_eq_true rfl, Nat.le_of_ble_eq_true rfl⟩, hw _ hU_296, hw _ hU_17⟩ (ci := 3) (q0 := 1) rfl (rfl) rfl rfl (Nat.le_of_ble_eq_true rfl) ⟨by decide, by decide⟩ rfl rfl dX3_numberByWays_37 ?_
  intro _ hu
  show jj_W _ _ _ _ _ _ _ _ _ _ _ _ _ _ _ _ _ 40 _ [.int (iI (dv (td + 1 + d))), .int (iI (f_price up dn dv td fr d k))] (wH ha cA hA nA ed cI cJ cZ td pr up dn dv rw sd mc n mo sh co Ca Cz K St Ex Am Bi As BL AL He Co ++ EE)
  refine jj_isub C0 dX3_numberByWays_40 ?_
  refine jj_istore C0 (lv' := [(5, .int (iI ((f_price up dn dv td fr d k) - (dv (td + 1 + d))))), (4, .int (iI (f_pays (K c) (St c) (f_price up dn dv td fr d k)))), (0, .ref (ha 1)), (1, .ref (cA c)), (2, .int (iI (f_price up dn dv td fr d k))), (3, .int (iI 3))]) (by decide) rfl dX3_numberByWays_41 ?_
  refine jj_aload_n C0 2 rfl dX3_numberByWays_43 ?_
  refine jj_getN C0 (ci := 3) (v := .int (iI dn)) hin_X2 (1) (rfl) rfl 4 (by decide) (va_Nw.use rfl (hE.1 _ (hN_101))) (fun _ h9 => h9) rfl dX3_numberByWays_44 ?_
  refine jj_i2l C0 (by omega) dX3_numberByWays_47 ?_
  refine jj_aload_n C0 2 rfl dX3_numberByWays_48 ?_
  refine jj_aload_n C0 3 rfl dX3_numberByWays_49 ?_
  refine jj_iload C0 0 rfl dX3_numberByWays_50 ?_
  refine jj_bipush C0 dX3_numberByWays_52 (by decide) ?_
  refine jj_aload_n C0 2 rfl dX3_numberByWays_54 ?_
  refine jj_getN C0 (ci := 3) (v := .int (iI up)) hin_X2 (1) (rfl) rfl 3 (by decide) (va_Nw.use rfl (hE.1 _ (hN_99))) (fun _ h9 => h9) rfl dX3_numberByWays_55 ?_
  refine jj_imul C0 dX3_numberByWays_58 ?_
  refine jj_iadd C0 dX3_numberByWays_59 ?_
  refine jj_topi (b := (f_price up dn dv td fr (d + 1) (k + 1))) (f_pr_up) ?_
  refine jj_iload_n C0 5 rfl dX3_numberByWays_60 ?_
  refine jj_iconst C0 dX3_numberByWays_61 ?_
  refine jj_isub C0 dX3_numberByWays_62 ?_
  refine jj_topi (b := 2) (by omega) ?_
  refine jj_callSl C0 (cc_nbw_2  (c := c) (d := (d + 1)) (k := (k + 1)) (fr := fr) (by first | exact hdk | omega) (by first | exact hdr | omega) (by first | exact hcn | omega) (by first | exact htd | omega) (by first | exact hfr | omega) (by first | exact hup | omega) (by first | exact hdn | omega) (by first | exact hdv | omega) (by first | exact hK | omega) (by first | exact hSt | omega) (by first | exact hEx | omega) (by first | exact hAm | omega)) (cwS 4 hw (lw_gS hU_737 hU_738 hU_60 hU_739) rfl rfl rfl (by decide +kernel) ⟨Nat.le_of_ble_eq_true rfl, Nat.le_of_ble_eq_true rfl⟩) rfl rfl (Nat.le_of_ble_eq_true rfl) ⟨by decide, by decide⟩ rfl rfl dX3_numberByWays_63 ?_
  intro _ hu
  show jj_W _ _ _ _ _ _ _ _ _ _ _ _ _ _ _ _ _ 66 _ [.long (lI (f_V up dn dv td (K c) (St c) (Am c) fr 2 (d + 1) (k + 1))), .long (lI dn)] (wH ha cA hA nA ed cI cJ cZ td pr up dn dv rw sd mc n mo sh co Ca Cz K St Ex Am Bi As BL AL He Co ++ EE)
  refine jj_lmul C0 dX3_numberByWays_66 ?_
  refine jj_aload_n C0 2 rfl dX3_numberByWays_67 ?_
  refine jj_getN C0 (ci := 3) (v := .int (iI up)) hin_X2 (1) (rfl) rfl 3 (by decide) (va_Nw.use rfl (hE.1 _ (hN_99))) (fun _ h9 => h9) rfl dX3_numberByWays_68 ?_
  refine jj_i2l C0 (by omega) dX3_numberByWays_71 ?_
  refine jj_aload_n C0 2 rfl dX3_numberByWays_72 ?_
  refine jj_aload_n C0 3 rfl dX3_numberByWays_73 ?_
  refine jj_iload C0 0 rfl dX3_numberByWays_74 ?_
  refine jj_bipush C0 dX3_numberByWays_76 (by decide) ?_
  refine jj_aload_n C0 2 rfl dX3_numberByWays_78 ?_
  refine jj_getN C0 (ci := 3) (v := .int (iI dn)) hin_X2 (1) (rfl) rfl 4 (by decide) (va_Nw.use rfl (hE.1 _ (hN_101))) (fun _ h9 => h9) rfl dX3_numberByWays_79 ?_
  refine jj_imul C0 dX3_numberByWays_82 ?_
  refine jj_isub C0 dX3_numberByWays_83 ?_
  refine jj_topi (b := (f_price up dn dv td fr (d + 1) k)) (f_pr_dn) ?_
  refine jj_iload_n C0 5 rfl dX3_numberByWays_84 ?_
  refine jj_iconst C0 dX3_numberByWays_85 ?_
  refine jj_isub C0 dX3_numberByWays_86 ?_
  refine jj_topi (b := 2) (by omega) ?_
  refine jj_callSl C0 (cc_nbw_2  (c := c) (d := (d + 1)) (k := k) (fr := fr) (by first | exact hdk | omega) (by first | exact hdr | omega) (by first | exact hcn | omega) (by first | exact htd | omega) (by first | exact hfr | omega) (by first | exact hup | omega) (by first | exact hdn | omega) (by first | exact hdv | omega) (by first | exact hK | omega) (by first | exact hSt | omega) (by first | exact hEx | omega) (by first | exact hAm | omega)) (cwS 4 hw (lw_gS hU_737 hU_738 hU_60 hU_739) rfl rfl rfl (by decide +kernel) ⟨Nat.le_of_ble_eq_true rfl, Nat.le_of_ble_eq_true rfl⟩) rfl rfl (Nat.le_of_ble_eq_true rfl) ⟨by decide, by decide⟩ rfl rfl dX3_numberByWays_87 ?_
  intro _ hu
  show jj_W _ _ _ _ _ _ _ _ _ _ _ _ _ _ _ _ _ 90 _ [.long (lI (f_V up dn dv td (K c) (St c) (Am c) fr 2 (d + 1) k)), .long (lI up), .long (lI (dn * (f_V up dn dv td (K c) (St c) (Am c) fr 2 (d + 1) (k + 1))))] (wH ha cA hA nA ed cI cJ cZ td pr up dn dv rw sd mc n mo sh co Ca Cz K St Ex Am Bi As BL AL He Co ++ EE)
  refine jj_lmul C0 dX3_numberByWays_90 ?_
  refine jj_ladd C0 dX3_numberByWays_91 ?_
  refine jj_lstore C0 (lv' := [(6, .long (lI ((dn * (f_V up dn dv td (K c) (St c) (Am c) fr 2 (d + 1) (k + 1))) + (up * (f_V up dn dv td (K c) (St c) (Am c) fr 2 (d + 1) k))))), (5, .int (iI ((f_price up dn dv td fr d k) - (dv (td + 1 + d))))), (4, .int (iI (f_pays (K c) (St c) (f_price up dn dv td fr d k)))), (0, .ref (ha 1)), (1, .ref (cA c)), (2, .int (iI (f_price up dn dv td fr d k))), (3, .int (iI 3))]) (by decide) rfl dX3_numberByWays_92 ?_
  refine jj_aload_n C0 4 rfl dX3_numberByWays_94 ?_
  refine jj_getN C0 (ci := 1) (v := .int (iI (Am c))) hin_X0 ((8 + (3 * c + 0))) ((wH_c (c := c) (by omega))) rfl 3 (by decide) (va_Nw.use rfl (hE.1 _ (hN_461))) (fun _ h9 => h9) rfl dX3_numberByWays_95 ?_
  have hb_Am_8303 := hAm c
  refine jj_if_ne C0 (by omega) dX3_numberByWays_98 (tgt := 104) (by decide) (fun c_4 => ?_) (fun c_4 => ?_)
  · refine jj_lload C0 0 rfl dX3_numberByWays_104 ?_
    refine jj_iload C0 2 rfl dX3_numberByWays_106 ?_
    refine jj_i2l C0 (by omega) dX3_numberByWays_108 ?_
    refine jj_aload_n C0 3 rfl dX3_numberByWays_109 ?_
    refine jj_getN C0 (ci := 3) (v := .int (iI up)) hin_X2 (1) (rfl) rfl 3 (by decide) (va_Nw.use rfl (hE.1 _ (hN_99))) (fun _ h9 => h9) rfl dX3_numberByWays_110 ?_
    refine jj_aload_n C0 3 rfl dX3_numberByWays_113 ?_
    refine jj_getN C0 (ci := 3) (v := .int (iI dn)) hin_X2 (1) (rfl) rfl 4 (by decide) (va_Nw.use rfl (hE.1 _ (hN_101))) (fun _ h9 => h9) rfl dX3_numberByWays_114 ?_
    refine jj_iadd C0 dX3_numberByWays_117 ?_
    refine jj_i2l C0 (by omega) dX3_numberByWays_118 ?_
    refine jj_iload_n C0 6 rfl dX3_numberByWays_119 ?_
    refine jj_callSl C0 (cc_X3_power  (b := (up + dn)) (e := (3 : Int)) (by omega)) (cwS 2 hw (lw_gS hU_740 hU_316 hU_60 hU_317) rfl rfl rfl (by decide +kernel) ⟨Nat.le_of_ble_eq_true rfl, Nat.le_of_ble_eq_true rfl⟩) rfl rfl (Nat.le_of_ble_eq_true rfl) ⟨by decide, by decide⟩ rfl rfl dX3_numberByWays_120 ?_
    intro _ hu
    show jj_W _ _ _ _ _ _ _ _ _ _ _ _ _ _ _ _ _ 123 _ [.long (lI ((up + dn) ^ ((3 : Int)).toNat)), .long (lI (f_pays (K c) (St c) (f_price up dn dv td fr d k))), .long (lI ((dn * (f_V up dn dv td (K c) (St c) (Am c) fr 2 (d + 1) (k + 1))) + (up * (f_V up dn dv td (K c) (St c) (Am c) fr 2 (d + 1) k))))] (wH ha cA hA nA ed cI cJ cZ td pr up dn dv rw sd mc n mo sh co Ca Cz K St Ex Am Bi As BL AL He Co ++ EE)
    refine jj_topl (b := ((up + dn) ^ (2 + 1))) (rfl) ?_
    refine jj_lmul C0 dX3_numberByWays_123 ?_
    refine jj_mmaxl C0 (by omega) (by omega) (hw _ hU_741) (List.forall_mem_cons.mpr ⟨hw _ hU_306, List.forall_mem_cons.mpr ⟨hw _ hU_73, List.forall_mem_cons.mpr ⟨hw _ hU_307, fun _ h => absurd h List.not_mem_nil⟩⟩⟩) (by decide) (Nat.le_of_ble_eq_true rfl) ⟨by decide, by decide⟩ dX3_numberByWays_124 ?_
    exact jj_lret C0 hr () (trivial) (by exact f_V_e1 (r := 2) (by omega)) (rfl) (by decide) (by decide) dX3_numberByWays_127
  · refine jj_lload C0 0 rfl dX3_numberByWays_101 ?_
    exact jj_lret C0 hr () (trivial) (by exact f_V_e0 (r := 2) (by omega)) (rfl) (by decide) (by decide) dX3_numberByWays_103
set_option maxHeartbeats 4000000 in
set_option maxRecDepth 100000 in
theorem cc_nbw_4  {c d k : Nat} {fr : Int} (hdk : k ≤ d) (hdr : (td : Int) + (d : Int) + 4 = Ex c ∧ d + 4 ≤ 10) (hcn : c < n) (htd : td ≤ 200) (hfr : -30000 ≤ fr ∧ fr ≤ 30000) (hup : 1 ≤ up ∧ up ≤ 10) (hdn : 1 ≤ dn ∧ dn ≤ 10) (hdv : ∀ j, 0 ≤ dv j ∧ dv j ≤ 1000) (hK : ∀ j, 0 ≤ K j ∧ K j ≤ 1) (hSt : ∀ j, 0 ≤ St j ∧ St j ≤ 20000) (hEx : ∀ j, 0 ≤ Ex j ∧ Ex j ≤ 200) (hAm : ∀ j, 0 ≤ Am j ∧ Am j ≤ 1) : jj_Ml EVh (dC, dI) vwCl [(cI, .int), (cJ, .long), (cZ, .boolean), (cO, .object "java/lang/Object")] l yX3_numberByWays (Cond.code yX3_numberByWays cX3_numberByWays 8 (some .long) :: lw_U) ({ frames := 6, cells := 0, slots := 0, locals := 142 } : Room) [.ref (ha 1), .ref (cA c), .int (iI (f_price up dn dv td fr d k)), .int (iI 4)] (wH ha cA hA nA ed cI cJ cZ td pr up dn dv rw sd mc n mo sh co Ca Cz K St Ex Am Bi As BL AL He Co ++ EE) (S := Unit) (fun _ => (f_V up dn dv td (K c) (St c) (Am c) fr 4 d k)) (fun _ => True) (fun _ => wH ha cA hA nA ed cI cJ cZ td pr up dn dv rw sd mc n mo sh co Ca Cz K St Ex Am Bi As BL AL He Co ++ EE) := by
  refine jj_start (cc := cX3_numberByWays) (nL := 8) (ret := (some .long)) (lv := [(0, .ref (ha 1)), (1, .ref (cA c)), (2, .int (iI (f_price up dn dv td fr d k))), (3, .int (iI 4))]) (fun A => jj_Ql _ _ _ _ _ _ A) hEVh (by decide) rfl (Nat.le_of_ble_eq_true rfl) rfl ?_
  intro p9 e9 s9 m9 a9 b9 me9 c9 A9 C1 hr hin
  have C0 : jj_C p9 s9 m9 a9 me9 c9 (dC, dI) vwCl A9 8 cX3_numberByWays "Strikehall" lw_U _ EVh := jj_toU C1
  have hw := C0.2.2.2.2.1
  have hE := C0.2.2.2.2.2.2.2.1
  have hp := f_price_bd (t := td) (j := d) (k := k) hup hdn hdv hfr (by omega) (by omega)
  have hpy := f_pays_bd (k := K c) (hSt c) hp
  have hexb := hEx c
  have hdvb := hdv (td + 1 + d)
  have hg := f_go_lR hup hdn hdv (hSt c) hfr (ki := K c) (am := Am c) (t := td) (r := 3) (d := d) (k := k) (by omega) (by omega)
  refine jj_iload_n C0 3 rfl dX3_numberByWays_0 ?_
  refine jj_if_lt C0 (by omega) dX3_numberByWays_1 (tgt := 10) (by decide) (fun c_1 => absurd c_1 (by omega)) (fun c_1 => ?_)
  refine jj_iload_n C0 3 rfl dX3_numberByWays_4 ?_
  refine jj_bipush C0 dX3_numberByWays_5 (by decide) ?_
  refine jj_icmp_le C0 (by omega) (by omega) dX3_numberByWays_7 (tgt := 12) (by decide) (fun c_2 => ?_) (fun c_2 => absurd c_2 (by omega))
  refine jj_aload_n C0 1 rfl dX3_numberByWays_12 ?_
  refine jj_iload_n C0 2 rfl dX3_numberByWays_13 ?_
  refine jj_callVNi C0 (cc_X0_paysAt  (c := c) (z := (f_price up dn dv td fr d k)) (by first | exact hcn | omega) (by omega) (by first | exact hK | omega) (by first | exact hSt | omega)) ⟨va_cnB 1 hw (lw_gc hU_301 lw_UU) rfl rfl rfl (hE.1 _ hN_663) (hw _ hU_75) (by decide +kernel) ⟨Nat.le_of_ble_eq_true rfl, Nat.le_of_ble_eq_true rfl⟩, hw _ hU_300, hw _ hU_18⟩ (ci := 1) (q0 := (8 + (3 * c + 0))) rfl ((wH_c (c := c) (by omega))) rfl rfl (Nat.le_of_ble_eq_true rfl) ⟨by decide, by decide⟩ rfl rfl dX3_numberByWays_14 ?_
  intro _ hu
  show jj_W _ _ _ _ _ _ _ _ _ _ _ _ _ _ _ _ _ 17 _ [.int (iI (f_pays (K c) (St c) (f_price up dn dv td fr d k)))] (wH ha cA hA nA ed cI cJ cZ td pr up dn dv rw sd mc n mo sh co Ca Cz K St Ex Am Bi As BL AL He Co ++ EE)
  refine jj_istore C0 (lv' := [(4, .int (iI (f_pays (K c) (St c) (f_price up dn dv td fr d k)))), (0, .ref (ha 1)), (1, .ref (cA c)), (2, .int (iI (f_price up dn dv td fr d k))), (3, .int (iI 4))]) (by decide) rfl dX3_numberByWays_17 ?_
  refine jj_iload_n C0 4 rfl dX3_numberByWays_19 ?_
  refine jj_if_ne C0 (by omega) dX3_numberByWays_20 (tgt := 27) (by decide) (fun c_3 => ?_) (fun c_3 => absurd c_3 (by omega))
  refine jj_iload_n C0 3 rfl dX3_numberByWays_27 ?_
  refine jj_aload_n C0 1 rfl dX3_numberByWays_28 ?_
  refine jj_aload_n C0 2 rfl dX3_numberByWays_29 ?_
  refine jj_getN C0 (ci := 1) (v := .int (iI (Ex c))) hin_X0 ((8 + (3 * c + 0))) ((wH_c (c := c) (by omega))) rfl 2 (by decide) (va_Nw.use rfl (hE.1 _ (hN_458))) (fun _ h9 => h9) rfl dX3_numberByWays_30 ?_
  have hb_Ex_47718 := hEx c
  refine jj_iload_n C0 4 rfl dX3_numberByWays_33 ?_
  refine jj_isub C0 dX3_numberByWays_34 ?_
  refine jj_iconst C0 dX3_numberByWays_35 ?_
  refine jj_iadd C0 dX3_numberByWays_36 ?_
  refine jj_topi (b := ((td + 1 + d : Nat) : Int)) (by omega) ?_
  refine jj_callVNi C0 (cc_X2_dividendOn  (d := (td + 1 + d)) (by omega)) ⟨va_cnB 1 hw (lw_gc hU_297 lw_UU) rfl rfl rfl (hE.1 _ hN_418) (hw _ hU_61) (by decide +kernel) ⟨Nat.le_of_ble_eq_true rfl, Nat.le_of_ble_eq_true rfl⟩, hw _ hU_296, hw _ hU_17⟩ (ci := 3) (q0 := 1) rfl (rfl) rfl rfl (Nat.le_of_ble_eq_true rfl) ⟨by decide, by decide⟩ rfl rfl dX3_numberByWays_37 ?_
  intro _ hu
  show jj_W _ _ _ _ _ _ _ _ _ _ _ _ _ _ _ _ _ 40 _ [.int (iI (dv (td + 1 + d))), .int (iI (f_price up dn dv td fr d k))] (wH ha cA hA nA ed cI cJ cZ td pr up dn dv rw sd mc n mo sh co Ca Cz K St Ex Am Bi As BL AL He Co ++ EE)
  refine jj_isub C0 dX3_numberByWays_40 ?_
  refine jj_istore C0 (lv' := [(5, .int (iI ((f_price up dn dv td fr d k) - (dv (td + 1 + d))))), (4, .int (iI (f_pays (K c) (St c) (f_price up dn dv td fr d k)))), (0, .ref (ha 1)), (1, .ref (cA c)), (2, .int (iI (f_price up dn dv td fr d k))), (3, .int (iI 4))]) (by decide) rfl dX3_numberByWays_41 ?_
  refine jj_aload_n C0 2 rfl dX3_numberByWays_43 ?_
  refine jj_getN C0 (ci := 3) (v := .int (iI dn)) hin_X2 (1) (rfl) rfl 4 (by decide) (va_Nw.use rfl (hE.1 _ (hN_101))) (fun _ h9 => h9) rfl dX3_numberByWays_44 ?_
  refine jj_i2l C0 (by omega) dX3_numberByWays_47 ?_
  refine jj_aload_n C0 2 rfl dX3_numberByWays_48 ?_
  refine jj_aload_n C0 3 rfl dX3_numberByWays_49 ?_
  refine jj_iload C0 0 rfl dX3_numberByWays_50 ?_
  refine jj_bipush C0 dX3_numberByWays_52 (by decide) ?_
  refine jj_aload_n C0 2 rfl dX3_numberByWays_54 ?_
  refine jj_getN C0 (ci := 3) (v := .int (iI up)) hin_X2 (1) (rfl) rfl 3 (by decide) (va_Nw.use rfl (hE.1 _ (hN_99))) (fun _ h9 => h9) rfl dX3_numberByWays_55 ?_
  refine jj_imul C0 dX3_numberByWays_58 ?_
  refine jj_iadd C0 dX3_numberByWays_59 ?_
  refine jj_topi (b := (f_price up dn dv td fr (d + 1) (k + 1))) (f_pr_up) ?_
  refine jj_iload_n C0 5 rfl dX3_numberByWays_60 ?_
  refine jj_iconst C0 dX3_numberByWays_61 ?_
  refine jj_isub C0 dX3_numberByWays_62 ?_
  refine jj_topi (b := 3) (by omega) ?_
  refine jj_callSl C0 (cc_nbw_3  (c := c) (d := (d + 1)) (k := (k + 1)) (fr := fr) (by first | exact hdk | omega) (by first | exact hdr | omega) (by first | exact hcn | omega) (by first | exact htd | omega) (by first | exact hfr | omega) (by first | exact hup | omega) (by first | exact hdn | omega) (by first | exact hdv | omega) (by first | exact hK | omega) (by first | exact hSt | omega) (by first | exact hEx | omega) (by first | exact hAm | omega)) (cwS 4 hw (lw_gS hU_737 hU_738 hU_60 hU_739) rfl rfl rfl (by decide +kernel) ⟨Nat.le_of_ble_eq_true rfl, Nat.le_of_ble_eq_true rfl⟩) rfl rfl (Nat.le_of_ble_eq_true rfl) ⟨by decide, by decide⟩ rfl rfl dX3_numberByWays_63 ?_
  intro _ hu
  show jj_W _ _ _ _ _ _ _ _ _ _ _ _ _ _ _ _ _ 66 _ [.long (lI (f_V up dn dv td (K c) (St c) (Am c) fr 3 (d + 1) (k + 1))), .long (lI dn)] (wH ha cA hA nA ed cI cJ cZ td pr up dn dv rw sd mc n mo sh co Ca Cz K St Ex Am Bi As BL AL He Co ++ EE)
  refine jj_lmul C0 dX3_numberByWays_66 ?_
  refine jj_aload_n C0 2 rfl dX3_numberByWays_67 ?_
  refine jj_getN C0 (ci := 3) (v := .int (iI up)) hin_X2 (1) (rfl) rfl 3 (by decide) (va_Nw.use rfl (hE.1 _ (hN_99))) (fun _ h9 => h9) rfl dX3_numberByWays_68 ?_
  refine jj_i2l C0 (by omega) dX3_numberByWays_71 ?_
  refine jj_aload_n C0 2 rfl dX3_numberByWays_72 ?_
  refine jj_aload_n C0 3 rfl dX3_numberByWays_73 ?_
  refine jj_iload C0 0 rfl dX3_numberByWays_74 ?_
  refine jj_bipush C0 dX3_numberByWays_76 (by decide) ?_
  refine jj_aload_n C0 2 rfl dX3_numberByWays_78 ?_
  refine jj_getN C0 (ci := 3) (v := .int (iI dn)) hin_X2 (1) (rfl) rfl 4 (by decide) (va_Nw.use rfl (hE.1 _ (hN_101))) (fun _ h9 => h9) rfl dX3_numberByWays_79 ?_
  refine jj_imul C0 dX3_numberByWays_82 ?_
  refine jj_isub C0 dX3_numberByWays_83 ?_
  refine jj_topi (b := (f_price up dn dv td fr (d + 1) k)) (f_pr_dn) ?_
  refine jj_iload_n C0 5 rfl dX3_numberByWays_84 ?_
  refine jj_iconst C0 dX3_numberByWays_85 ?_
  refine jj_isub C0 dX3_numberByWays_86 ?_
  refine jj_topi (b := 3) (by omega) ?_
  refine jj_callSl C0 (cc_nbw_3  (c := c) (d := (d + 1)) (k := k) (fr := fr) (by first | exact hdk | omega) (by first | exact hdr | omega) (by first | exact hcn | omega) (by first | exact htd | omega) (by first | exact hfr | omega) (by first | exact hup | omega) (by first | exact hdn | omega) (by first | exact hdv | omega) (by first | exact hK | omega) (by first | exact hSt | omega) (by first | exact hEx | omega) (by first | exact hAm | omega)) (cwS 4 hw (lw_gS hU_737 hU_738 hU_60 hU_739) rfl rfl rfl (by decide +kernel) ⟨Nat.le_of_ble_eq_true rfl, Nat.le_of_ble_eq_true rfl⟩) rfl rfl (Nat.le_of_ble_eq_true rfl) ⟨by decide, by decide⟩ rfl rfl dX3_numberByWays_87 ?_
  intro _ hu
  show jj_W _ _ _ _ _ _ _ _ _ _ _ _ _ _ _ _ _ 90 _ [.long (lI (f_V up dn dv td (K c) (St c) (Am c) fr 3 (d + 1) k)), .long (lI up), .long (lI (dn * (f_V up dn dv td (K c) (St c) (Am c) fr 3 (d + 1) (k + 1))))] (wH ha cA hA nA ed cI cJ cZ td pr up dn dv rw sd mc n mo sh co Ca Cz K St Ex Am Bi As BL AL He Co ++ EE)
  refine jj_lmul C0 dX3_numberByWays_90 ?_
  refine jj_ladd C0 dX3_numberByWays_91 ?_
  refine jj_lstore C0 (lv' := [(6, .long (lI ((dn * (f_V up dn dv td (K c) (St c) (Am c) fr 3 (d + 1) (k + 1))) + (up * (f_V up dn dv td (K c) (St c) (Am c) fr 3 (d + 1) k))))), (5, .int (iI ((f_price up dn dv td fr d k) - (dv (td + 1 + d))))), (4, .int (iI (f_pays (K c) (St c) (f_price up dn dv td fr d k)))), (0, .ref (ha 1)), (1, .ref (cA c)), (2, .int (iI (f_price up dn dv td fr d k))), (3, .int (iI 4))]) (by decide) rfl dX3_numberByWays_92 ?_
  refine jj_aload_n C0 4 rfl dX3_numberByWays_94 ?_
  refine jj_getN C0 (ci := 1) (v := .int (iI (Am c))) hin_X0 ((8 + (3 * c + 0))) ((wH_c (c := c) (by omega))) rfl 3 (by decide) (va_Nw.use rfl (hE.1 _ (hN_461))) (fun _ h9 => h9) rfl dX3_numberByWays_95 ?_
  have hb_Am_8303 := hAm c
  refine jj_if_ne C0 (by omega) dX3_numberByWays_98 (tgt := 104) (by decide) (fun c_4 => ?_) (fun c_4 => ?_)
  · refine jj_lload C0 0 rfl dX3_numberByWays_104 ?_
    refine jj_iload C0 2 rfl dX3_numberByWays_106 ?_
    refine jj_i2l C0 (by omega) dX3_numberByWays_108 ?_
    refine jj_aload_n C0 3 rfl dX3_numberByWays_109 ?_
    refine jj_getN C0 (ci := 3) (v := .int (iI up)) hin_X2 (1) (rfl) rfl 3 (by decide) (va_Nw.use rfl (hE.1 _ (hN_99))) (fun _ h9 => h9) rfl dX3_numberByWays_110 ?_
    refine jj_aload_n C0 3 rfl dX3_numberByWays_113 ?_
    refine jj_getN C0 (ci := 3) (v := .int (iI dn)) hin_X2 (1) (rfl) rfl 4 (by decide) (va_Nw.use rfl (hE.1 _ (hN_101))) (fun _ h9 => h9) rfl dX3_numberByWays_114 ?_
    refine jj_iadd C0 dX3_numberByWays_117 ?_
    refine jj_i2l C0 (by omega) dX3_numberByWays_118 ?_
    refine jj_iload_n C0 6 rfl dX3_numberByWays_119 ?_
    refine jj_callSl C0 (cc_X3_power  (b := (up + dn)) (e := (4 : Int)) (by omega)) (cwS 2 hw (lw_gS hU_740 hU_316 hU_60 hU_317) rfl rfl rfl (by decide +kernel) ⟨Nat.le_of_ble_eq_true rfl, Nat.le_of_ble_eq_true rfl⟩) rfl rfl (Nat.le_of_ble_eq_true rfl) ⟨by decide, by decide⟩ rfl rfl dX3_numberByWays_120 ?_
    intro _ hu
    show jj_W _ _ _ _ _ _ _ _ _ _ _ _ _ _ _ _ _ 123 _ [.long (lI ((up + dn) ^ ((4 : Int)).toNat)), .long (lI (f_pays (K c) (St c) (f_price up dn dv td fr d k))), .long (lI ((dn * (f_V up dn dv td (K c) (St c) (Am c) fr 3 (d + 1) (k + 1))) + (up * (f_V up dn dv td (K c) (St c) (Am c) fr 3 (d + 1) k))))] (wH ha cA hA nA ed cI cJ cZ td pr up dn dv rw sd mc n mo sh co Ca Cz K St Ex Am Bi As BL AL He Co ++ EE)
    refine jj_topl (b := ((up + dn) ^ (3 + 1))) (rfl) ?_
    refine jj_lmul C0 dX3_numberByWays_123 ?_
    refine jj_mmaxl C0 (by omega) (by omega) (hw _ hU_741) (List.forall_mem_cons.mpr ⟨hw _ hU_306, List.forall_mem_cons.mpr ⟨hw _ hU_73, List.forall_mem_cons.mpr ⟨hw _ hU_307, fun _ h => absurd h List.not_mem_nil⟩⟩⟩) (by decide) (Nat.le_of_ble_eq_true rfl) ⟨by decide, by decide⟩ dX3_numberByWays_124 ?_
    exact jj_lret C0 hr () (trivial) (by exact f_V_e1 (r := 3) (by omega)) (rfl) (by decide) (by decide) dX3_numberByWays_127
  · refine jj_lload C0 0 rfl dX3_numberByWays_101 ?_
    exact jj_lret C0 hr () (trivial) (by exact f_V_e0 (r := 3) (by omega)) (rfl) (by decide) (by decide) dX3_numberByWays_103
set_option maxHeartbeats 4000000 in
set_option maxRecDepth 100000 in
theorem cc_nbw_5  {c d k : Nat} {fr : Int} (hdk : k ≤ d) (hdr : (td : Int) + (d : Int) + 5 = Ex c ∧ d + 5 ≤ 10) (hcn : c < n) (htd : td ≤ 200) (hfr : -30000 ≤ fr ∧ fr ≤ 30000) (hup : 1 ≤ up ∧ up ≤ 10) (hdn : 1 ≤ dn ∧ dn ≤ 10) (hdv : ∀ j, 0 ≤ dv j ∧ dv j ≤ 1000) (hK : ∀ j, 0 ≤ K j ∧ K j ≤ 1) (hSt : ∀ j, 0 ≤ St j ∧ St j ≤ 20000) (hEx : ∀ j, 0 ≤ Ex j ∧ Ex j ≤ 200) (hAm : ∀ j, 0 ≤ Am j ∧ Am j ≤ 1) : jj_Ml EVh (dC, dI) vwCl [(cI, .int), (cJ, .long), (cZ, .boolean), (cO, .object "java/lang/Object")] l yX3_numberByWays (Cond.code yX3_numberByWays cX3_numberByWays 8 (some .long) :: lw_U) ({ frames := 7, cells := 0, slots := 0, locals := 169 } : Room) [.ref (ha 1), .ref (cA c), .int (iI (f_price up dn dv td fr d k)), .int (iI 5)] (wH ha cA hA nA ed cI cJ cZ td pr up dn dv rw sd mc n mo sh co Ca Cz K St Ex Am Bi As BL AL He Co ++ EE) (S := Unit) (fun _ => (f_V up dn dv td (K c) (St c) (Am c) fr 5 d k)) (fun _ => True) (fun _ => wH ha cA hA nA ed cI cJ cZ td pr up dn dv rw sd mc n mo sh co Ca Cz K St Ex Am Bi As BL AL He Co ++ EE) := by
  refine jj_start (cc := cX3_numberByWays) (nL := 8) (ret := (some .long)) (lv := [(0, .ref (ha 1)), (1, .ref (cA c)), (2, .int (iI (f_price up dn dv td fr d k))), (3, .int (iI 5))]) (fun A => jj_Ql _ _ _ _ _ _ A) hEVh (by decide) rfl (Nat.le_of_ble_eq_true rfl) rfl ?_
  intro p9 e9 s9 m9 a9 b9 me9 c9 A9 C1 hr hin
  have C0 : jj_C p9 s9 m9 a9 me9 c9 (dC, dI) vwCl A9 8 cX3_numberByWays "Strikehall" lw_U _ EVh := jj_toU C1
  have hw := C0.2.2.2.2.1
  have hE := C0.2.2.2.2.2.2.2.1
  have hp := f_price_bd (t := td) (j := d) (k := k) hup hdn hdv hfr (by omega) (by omega)
  have hpy := f_pays_bd (k := K c) (hSt c) hp
  have hexb := hEx c
  have hdvb := hdv (td + 1 + d)
  have hg := f_go_lR hup hdn hdv (hSt c) hfr (ki := K c) (am := Am c) (t := td) (r := 4) (d := d) (k := k) (by omega) (by omega)
  refine jj_iload_n C0 3 rfl dX3_numberByWays_0 ?_
  refine jj_if_lt C0 (by omega) dX3_numberByWays_1 (tgt := 10) (by decide) (fun c_1 => absurd c_1 (by omega)) (fun c_1 => ?_)
  refine jj_iload_n C0 3 rfl dX3_numberByWays_4 ?_
  refine jj_bipush C0 dX3_numberByWays_5 (by decide) ?_
  refine jj_icmp_le C0 (by omega) (by omega) dX3_numberByWays_7 (tgt := 12) (by decide) (fun c_2 => ?_) (fun c_2 => absurd c_2 (by omega))
  refine jj_aload_n C0 1 rfl dX3_numberByWays_12 ?_
  refine jj_iload_n C0 2 rfl dX3_numberByWays_13 ?_
  refine jj_callVNi C0 (cc_X0_paysAt  (c := c) (z := (f_price up dn dv td fr d k)) (by first | exact hcn | omega) (by omega) (by first | exact hK | omega) (by first | exact hSt | omega)) ⟨va_cnB 1 hw (lw_gc hU_301 lw_UU) rfl rfl rfl (hE.1 _ hN_663) (hw _ hU_75) (by decide +kernel) ⟨Nat.le_of_ble_eq_true rfl, Nat.le_of_ble_eq_true rfl⟩, hw _ hU_300, hw _ hU_18⟩ (ci := 1) (q0 := (8 + (3 * c + 0))) rfl ((wH_c (c := c) (by omega))) rfl rfl (Nat.le_of_ble_eq_true rfl) ⟨by decide, by decide⟩ rfl rfl dX3_numberByWays_14 ?_
  intro _ hu
  show jj_W _ _ _ _ _ _ _ _ _ _ _ _ _ _ _ _ _ 17 _ [.int (iI (f_pays (K c) (St c) (f_price up dn dv td fr d k)))] (wH ha cA hA nA ed cI cJ cZ td pr up dn dv rw sd mc n mo sh co Ca Cz K St Ex Am Bi As BL AL He Co ++ EE)
  refine jj_istore C0 (lv' := [(4, .int (iI (f_pays (K c) (St c) (f_price up dn dv td fr d k)))), (0, .ref (ha 1)), (1, .ref (cA c)), (2, .int (iI (f_price up dn dv td fr d k))), (3, .int (iI 5))]) (by decide) rfl dX3_numberByWays_17 ?_
  refine jj_iload_n C0 4 rfl dX3_numberByWays_19 ?_
  refine jj_if_ne C0 (by omega) dX3_numberByWays_20 (tgt := 27) (by decide) (fun c_3 => ?_) (fun c_3 => absurd c_3 (by omega))
  refine jj_iload_n C0 3 rfl dX3_numberByWays_27 ?_
  refine jj_aload_n C0 1 rfl dX3_numberByWays_28 ?_
  refine jj_aload_n C0 2 rfl dX3_numberByWays_29 ?_
  refine jj_getN C0 (ci := 1) (v := .int (iI (Ex c))) hin_X0 ((8 + (3 * c + 0))) ((wH_c (c := c) (by omega))) rfl 2 (by decide) (va_Nw.use rfl (hE.1 _ (hN_458))) (fun _ h9 => h9) rfl dX3_numberByWays_30 ?_
  have hb_Ex_47718 := hEx c
  refine jj_iload_n C0 4 rfl dX3_numberByWays_33 ?_
  refine jj_isub C0 dX3_numberByWays_34 ?_
  refine jj_iconst C0 dX3_numberByWays_35 ?_
  refine jj_iadd C0 dX3_numberByWays_36 ?_
  refine jj_topi (b := ((td + 1 + d : Nat) : Int)) (by omega) ?_
  refine jj_callVNi C0 (cc_X2_dividendOn  (d := (td + 1 + d)) (by omega)) ⟨va_cnB 1 hw (lw_gc hU_297 lw_UU) rfl rfl rfl (hE.1 _ hN_418) (hw _ hU_61) (by decide +kernel) ⟨Nat.le_of_ble_eq_true rfl, Nat.le_of_ble_eq_true rfl⟩, hw _ hU_296, hw _ hU_17⟩ (ci := 3) (q0 := 1) rfl (rfl) rfl rfl (Nat.le_of_ble_eq_true rfl) ⟨by decide, by decide⟩ rfl rfl dX3_numberByWays_37 ?_
  intro _ hu
  show jj_W _ _ _ _ _ _ _ _ _ _ _ _ _ _ _ _ _ 40 _ [.int (iI (dv (td + 1 + d))), .int (iI (f_price up dn dv td fr d k))] (wH ha cA hA nA ed cI cJ cZ td pr up dn dv rw sd mc n mo sh co Ca Cz K St Ex Am Bi As BL AL He Co ++ EE)
  refine jj_isub C0 dX3_numberByWays_40 ?_
  refine jj_istore C0 (lv' := [(5, .int (iI ((f_price up dn dv td fr d k) - (dv (td + 1 + d))))), (4, .int (iI (f_pays (K c) (St c) (f_price up dn dv td fr d k)))), (0, .ref (ha 1)), (1, .ref (cA c)), (2, .int (iI (f_price up dn dv td fr d k))), (3, .int (iI 5))]) (by decide) rfl dX3_numberByWays_41 ?_
  refine jj_aload_n C0 2 rfl dX3_numberByWays_43 ?_
  refine jj_getN C0 (ci := 3) (v := .int (iI dn)) hin_X2 (1) (rfl) rfl 4 (by decide) (va_Nw.use rfl (hE.1 _ (hN_101))) (fun _ h9 => h9) rfl dX3_numberByWays_44 ?_
  refine jj_i2l C0 (by omega) dX3_numberByWays_47 ?_
  refine jj_aload_n C0 2 rfl dX3_numberByWays_48 ?_
  refine jj_aload_n C0 3 rfl dX3_numberByWays_49 ?_
  refine jj_iload C0 0 rfl dX3_numberByWays_50 ?_
  refine jj_bipush C0 dX3_numberByWays_52 (by decide) ?_
  refine jj_aload_n C0 2 rfl dX3_numberByWays_54 ?_
  refine jj_getN C0 (ci := 3) (v := .int (iI up)) hin_X2 (1) (rfl) rfl 3 (by decide) (va_Nw.use rfl (hE.1 _ (hN_99))) (fun _ h9 => h9) rfl dX3_numberByWays_55 ?_
  refine jj_imul C0 dX3_numberByWays_58 ?_
  refine jj_iadd C0 dX3_numberByWays_59 ?_
  refine jj_topi (b := (f_price up dn dv td fr (d + 1) (k + 1))) (f_pr_up) ?_
  refine jj_iload_n C0 5 rfl dX3_numberByWays_60 ?_
  refine jj_iconst C0 dX3_numberByWays_61 ?_
  refine jj_isub C0 dX3_numberByWays_62 ?_
  refine jj_topi (b := 4) (by omega) ?_
  refine jj_callSl C0 (cc_nbw_4  (c := c) (d := (d + 1)) (k := (k + 1)) (fr := fr) (by first | exact hdk | omega) (by first | exact hdr | omega) (by first | exact hcn | omega) (by first | exact htd | omega) (by first | exact hfr | omega) (by first | exact hup | omega) (by first | exact hdn | omega) (by first | exact hdv | omega) (by first | exact hK | omega) (by first | exact hSt | omega) (by first | exact hEx | omega) (by first | exact hAm | omega)) (cwS 4 hw (lw_gS hU_737 hU_738 hU_60 hU_739) rfl rfl rfl (by decide +kernel) ⟨Nat.le_of_ble_eq_true rfl, Nat.le_of_ble_eq_true rfl⟩) rfl rfl (Nat.le_of_ble_eq_true rfl) ⟨by decide, by decide⟩ rfl rfl dX3_numberByWays_63 ?_
  intro _ hu
  show jj_W _ _ _ _ _ _ _ _ _ _ _ _ _ _ _ _ _ 66 _ [.long (lI (f_V up dn dv td (K c) (St c) (Am c) fr 4 (d + 1) (k + 1))), .long (lI dn)] (wH ha cA hA nA ed cI cJ cZ td pr up dn dv rw sd mc n mo sh co Ca Cz K St Ex Am Bi As BL AL He Co ++ EE)
  refine jj_lmul C0 dX3_numberByWays_66 ?_
  refine jj_aload_n C0 2 rfl dX3_numberByWays_67 ?_
  refine jj_getN C0 (ci := 3) (v := .int (iI up)) hin_X2 (1) (rfl) rfl 3 (by decide) (va_Nw.use rfl (hE.1 _ (hN_99))) (fun _ h9 => h9) rfl dX3_numberByWays_68 ?_
  refine jj_i2l C0 (by omega) dX3_numberByWays_71 ?_
  refine jj_aload_n C0 2 rfl dX3_numberByWays_72 ?_
  refine jj_aload_n C0 3 rfl dX3_numberByWays_73 ?_
  refine jj_iload C0 0 rfl dX3_numberByWays_74 ?_
  refine jj_bipush C0 dX3_numberByWays_76 (by decide) ?_
  refine jj_aload_n C0 2 rfl dX3_numberByWays_78 ?_
  refine jj_getN C0 (ci := 3) (v := .int (iI dn)) hin_X2 (1) (rfl) rfl 4 (by decide) (va_Nw.use rfl (hE.1 _ (hN_101))) (fun _ h9 => h9) rfl dX3_numberByWays_79 ?_
  refine jj_imul C0 dX3_numberByWays_82 ?_
  refine jj_isub C0 dX3_numberByWays_83 ?_
  refine jj_topi (b := (f_price up dn dv td fr (d + 1) k)) (f_pr_dn) ?_
  refine jj_iload_n C0 5 rfl dX3_numberByWays_84 ?_
  refine jj_iconst C0 dX3_numberByWays_85 ?_
  refine jj_isub C0 dX3_numberByWays_86 ?_
  refine jj_topi (b := 4) (by omega) ?_
  refine jj_callSl C0 (cc_nbw_4  (c := c) (d := (d + 1)) (k := k) (fr := fr) (by first | exact hdk | omega) (by first | exact hdr | omega) (by first | exact hcn | omega) (by first | exact htd | omega) (by first | exact hfr | omega) (by first | exact hup | omega) (by first | exact hdn | omega) (by first | exact hdv | omega) (by first | exact hK | omega) (by first | exact hSt | omega) (by first | exact hEx | omega) (by first | exact hAm | omega)) (cwS 4 hw (lw_gS hU_737 hU_738 hU_60 hU_739) rfl rfl rfl (by decide +kernel) ⟨Nat.le_of_ble_eq_true rfl, Nat.le_of_ble_eq_true rfl⟩) rfl rfl (Nat.le_of_ble_eq_true rfl) ⟨by decide, by decide⟩ rfl rfl dX3_numberByWays_87 ?_
  intro _ hu
  show jj_W _ _ _ _ _ _ _ _ _ _ _ _ _ _ _ _ _ 90 _ [.long (lI (f_V up dn dv td (K c) (St c) (Am c) fr 4 (d + 1) k)), .long (lI up), .long (lI (dn * (f_V up dn dv td (K c) (St c) (Am c) fr 4 (d + 1) (k + 1))))] (wH ha cA hA nA ed cI cJ cZ td pr up dn dv rw sd mc n mo sh co Ca Cz K St Ex Am Bi As BL AL He Co ++ EE)
  refine jj_lmul C0 dX3_numberByWays_90 ?_
  refine jj_ladd C0 dX3_numberByWays_91 ?_
  refine jj_lstore C0 (lv' := [(6, .long (lI ((dn * (f_V up dn dv td (K c) (St c) (Am c) fr 4 (d + 1) (k + 1))) + (up * (f_V up dn dv td (K c) (St c) (Am c) fr 4 (d + 1) k))))), (5, .int (iI ((f_price up dn dv td fr d k) - (dv (td + 1 + d))))), (4, .int (iI (f_pays (K c) (St c) (f_price up dn dv td fr d k)))), (0, .ref (ha 1)), (1, .ref (cA c)), (2, .int (iI (f_price up dn dv td fr d k))), (3, .int (iI 5))]) (by decide) rfl dX3_numberByWays_92 ?_
  refine jj_aload_n C0 4 rfl dX3_numberByWays_94 ?_
  refine jj_getN C0 (ci := 1) (v := .int (iI (Am c))) hin_X0 ((8 + (3 * c + 0))) ((wH_c (c := c) (by omega))) rfl 3 (by decide) (va_Nw.use rfl (hE.1 _ (hN_461))) (fun _ h9 => h9) rfl dX3_numberByWays_95 ?_
  have hb_Am_8303 := hAm c
  refine jj_if_ne C0 (by omega) dX3_numberByWays_98 (tgt := 104) (by decide) (fun c_4 => ?_) (fun c_4 => ?_)
  · refine jj_lload C0 0 rfl dX3_numberByWays_104 ?_
    refine jj_iload C0 2 rfl dX3_numberByWays_106 ?_
    refine jj_i2l C0 (by omega) dX3_numberByWays_108 ?_
    refine jj_aload_n C0 3 rfl dX3_numberByWays_109 ?_
    refine jj_getN C0 (ci := 3) (v := .int (iI up)) hin_X2 (1) (rfl) rfl 3 (by decide) (va_Nw.use rfl (hE.1 _ (hN_99))) (fun _ h9 => h9) rfl dX3_numberByWays_110 ?_
    refine jj_aload_n C0 3 rfl dX3_numberByWays_113 ?_
    refine jj_getN C0 (ci := 3) (v := .int (iI dn)) hin_X2 (1) (rfl) rfl 4 (by decide) (va_Nw.use rfl (hE.1 _ (hN_101))) (fun _ h9 => h9) rfl dX3_numberByWays_114 ?_
    refine jj_iadd C0 dX3_numberByWays_117 ?_
    refine jj_i2l C0 (by omega) dX3_numberByWays_118 ?_
    refine jj_iload_n C0 6 rfl dX3_numberByWays_119 ?_
    refine jj_callSl C0 (cc_X3_power  (b := (up + dn)) (e := (5 : Int)) (by omega)) (cwS 2 hw (lw_gS hU_740 hU_316 hU_60 hU_317) rfl rfl rfl (by decide +kernel) ⟨Nat.le_of_ble_eq_true rfl, Nat.le_of_ble_eq_true rfl⟩) rfl rfl (Nat.le_of_ble_eq_true rfl) ⟨by decide, by decide⟩ rfl rfl dX3_numberByWays_120 ?_
    intro _ hu
    show jj_W _ _ _ _ _ _ _ _ _ _ _ _ _ _ _ _ _ 123 _ [.long (lI ((up + dn) ^ ((5 : Int)).toNat)), .long (lI (f_pays (K c) (St c) (f_price up dn dv td fr d k))), .long (lI ((dn * (f_V up dn dv td (K c) (St c) (Am c) fr 4 (d + 1) (k + 1))) + (up * (f_V up dn dv td (K c) (St c) (Am c) fr 4 (d + 1) k))))] (wH ha cA hA nA ed cI cJ cZ td pr up dn dv rw sd mc n mo sh co Ca Cz K St Ex Am Bi As BL AL He Co ++ EE)
    refine jj_topl (b := ((up + dn) ^ (4 + 1))) (rfl) ?_
    refine jj_lmul C0 dX3_numberByWays_123 ?_
    refine jj_mmaxl C0 (by omega) (by omega) (hw _ hU_741) (List.forall_mem_cons.mpr ⟨hw _ hU_306, List.forall_mem_cons.mpr ⟨hw _ hU_73, List.forall_mem_cons.mpr ⟨hw _ hU_307, fun _ h => absurd h List.not_mem_nil⟩⟩⟩) (by decide) (Nat.le_of_ble_eq_true rfl) ⟨by decide, by decide⟩ dX3_numberByWays_124 ?_
    exact jj_lret C0 hr () (trivial) (by exact f_V_e1 (r := 4) (by omega)) (rfl) (by decide) (by decide) dX3_numberByWays_127
  · refine jj_lload C0 0 rfl dX3_numberByWays_101 ?_
    exact jj_lret C0 hr () (trivial) (by exact f_V_e0 (r := 4) (by omega)) (rfl) (by decide) (by decide) dX3_numberByWays_103
set_option maxHeartbeats 4000000 in
set_option maxRecDepth 100000 in
theorem cc_nbw_6  {c d k : Nat} {fr : Int} (hdk : k ≤ d) (hdr : (td : Int) + (d : Int) + 6 = Ex c ∧ d + 6 ≤ 10) (hcn : c < n) (htd : td ≤ 200) (hfr : -30000 ≤ fr ∧ fr ≤ 30000) (hup : 1 ≤ up ∧ up ≤ 10) (hdn : 1 ≤ dn ∧ dn ≤ 10) (hdv : ∀ j, 0 ≤ dv j ∧ dv j ≤ 1000) (hK : ∀ j, 0 ≤ K j ∧ K j ≤ 1) (hSt : ∀ j, 0 ≤ St j ∧ St j ≤ 20000) (hEx : ∀ j, 0 ≤ Ex j ∧ Ex j ≤ 200) (hAm : ∀ j, 0 ≤ Am j ∧ Am j ≤ 1) : jj_Ml EVh (dC, dI) vwCl [(cI, .int), (cJ, .long), (cZ, .boolean), (cO, .object "java/lang/Object")] l yX3_numberByWays (Cond.code yX3_numberByWays cX3_numberByWays 8 (some .long) :: lw_U) ({ frames := 8, cells := 0, slots := 0, locals := 196 } : Room) [.ref (ha 1), .ref (cA c), .int (iI (f_price up dn dv td fr d k)), .int (iI 6)] (wH ha cA hA nA ed cI cJ cZ td pr up dn dv rw sd mc n mo sh co Ca Cz K St Ex Am Bi As BL AL He Co ++ EE) (S := Unit) (fun _ => (f_V up dn dv td (K c) (St c) (Am c) fr 6 d k)) (fun _ => True) (fun _ => wH ha cA hA nA ed cI cJ cZ td pr up dn dv rw sd mc n mo sh co Ca Cz K St Ex Am Bi As BL AL He Co ++ EE) := by
  refine jj_start (cc := cX3_numberByWays) (nL := 8) (ret := (some .long)) (lv := [(0, .ref (ha 1)), (1, .ref (cA c)), (2, .int (iI (f_price up dn dv td fr d k))), (3, .int (iI 6))]) (fun A => jj_Ql _ _ _ _ _ _ A) hEVh (by decide) rfl (Nat.le_of_ble_eq_true rfl) rfl ?_
  intro p9 e9 s9 m9 a9 b9 me9 c9 A9 C1 hr hin
  have C0 : jj_C p9 s9 m9 a9 me9 c9 (dC, dI) vwCl A9 8 cX3_numberByWays "Strikehall" lw_U _ EVh := jj_toU C1
  have hw := C0.2.2.2.2.1
  have hE := C0.2.2.2.2.2.2.2.1
  have hp := f_price_bd (t := td) (j := d) (k := k) hup hdn hdv hfr (by omega) (by omega)
  have hpy := f_pays_bd (k := K c) (hSt c) hp
  have hexb := hEx c
  have hdvb := hdv (td + 1 + d)
  have hg := f_go_lR hup hdn hdv (hSt c) hfr (ki := K c) (am := Am c) (t := td) (r := 5) (d := d) (k := k) (by omega) (by omega)
  refine jj_iload_n C0 3 rfl dX3_numberByWays_0 ?_
  refine jj_if_lt C0 (by omega) dX3_numberByWays_1 (tgt := 10) (by decide) (fun c_1 => absurd c_1 (by omega)) (fun c_1 => ?_)
  refine jj_iload_n C0 3 rfl dX3_numberByWays_4 ?_
  refine jj_bipush C0 dX3_numberByWays_5 (by decide) ?_
  refine jj_icmp_le C0 (by omega) (by omega) dX3_numberByWays_7 (tgt := 12) (by decide) (fun c_2 => ?_) (fun c_2 => absurd c_2 (by omega))
  refine jj_aload_n C0 1 rfl dX3_numberByWays_12 ?_
  refine jj_iload_n C0 2 rfl dX3_numberByWays_13 ?_
  refine jj_callVNi C0 (cc_X0_paysAt  (c := c) (z := (f_price up dn dv td fr d k)) (by first | exact hcn | omega) (by omega) (by first | exact hK | omega) (by first | exact hSt | omega)) ⟨va_cnB 1 hw (lw_gc hU_301 lw_UU) rfl rfl rfl (hE.1 _ hN_663) (hw _ hU_75) (by decide +kernel) ⟨Nat.le_of_ble_eq_true rfl, Nat.le_of_ble_eq_true rfl⟩, hw _ hU_300, hw _ hU_18⟩ (ci := 1) (q0 := (8 + (3 * c + 0))) rfl ((wH_c (c := c) (by omega))) rfl rfl (Nat.le_of_ble_eq_true rfl) ⟨by decide, by decide⟩ rfl rfl dX3_numberByWays_14 ?_
  intro _ hu
  show jj_W _ _ _ _ _ _ _ _ _ _ _ _ _ _ _ _ _ 17 _ [.int (iI (f_pays (K c) (St c) (f_price up dn dv td fr d k)))] (wH ha cA hA nA ed cI cJ cZ td pr up dn dv rw sd mc n mo sh co Ca Cz K St Ex Am Bi As BL AL He Co ++ EE)
  refine jj_istore C0 (lv' := [(4, .int (iI (f_pays (K c) (St c) (f_price up dn dv td fr d k)))), (0, .ref (ha 1)), (1, .ref (cA c)), (2, .int (iI (f_price up dn dv td fr d k))), (3, .int (iI 6))]) (by decide) rfl dX3_numberByWays_17 ?_
  refine jj_iload_n C0 4 rfl dX3_numberByWays_19 ?_
  refine jj_if_ne C0 (by omega) dX3_numberByWays_20 (tgt := 27) (by decide) (fun c_3 => ?_) (fun c_3 => absurd c_3 (by omega))
  refine jj_iload_n C0 3 rfl dX3_numberByWays_27 ?_
  refine jj_aload_n C0 1 rfl dX3_numberByWays_28 ?_
  refine jj_aload_n C0 2 rfl dX3_numberByWays_29 ?_
  refine jj_getN C0 (ci := 1) (v := .int (iI (Ex c))) hin_X0 ((8 + (3 * c + 0))) ((wH_c (c := c) (by omega))) rfl 2 (by decide) (va_Nw.use rfl (hE.1 _ (hN_458))) (fun _ h9 => h9) rfl dX3_numberByWays_30 ?_
  have hb_Ex_47718 := hEx c
  refine jj_iload_n C0 4 rfl dX3_numberByWays_33 ?_
  refine jj_isub C0 dX3_numberByWays_34 ?_
  refine jj_iconst C0 dX3_numberByWays_35 ?_
  refine jj_iadd C0 dX3_numberByWays_36 ?_
  refine jj_topi (b := ((td + 1 + d : Nat) : Int)) (by omega) ?_
  refine jj_callVNi C0 (cc_X2_dividendOn  (d := (td + 1 + d)) (by omega)) ⟨va_cnB 1 hw (lw_gc hU_297 lw_UU) rfl rfl rfl (hE.1 _ hN_418) (hw _ hU_61) (by decide +kernel) ⟨Nat.le_of_ble_eq_true rfl, Nat.le_of_ble_eq_true rfl⟩, hw _ hU_296, hw _ hU_17⟩ (ci := 3) (q0 := 1) rfl (rfl) rfl rfl (Nat.le_of_ble_eq_true rfl) ⟨by decide, by decide⟩ rfl rfl dX3_numberByWays_37 ?_
  intro _ hu
  show jj_W _ _ _ _ _ _ _ _ _ _ _ _ _ _ _ _ _ 40 _ [.int (iI (dv (td + 1 + d))), .int (iI (f_price up dn dv td fr d k))] (wH ha cA hA nA ed cI cJ cZ td pr up dn dv rw sd mc n mo sh co Ca Cz K St Ex Am Bi As BL AL He Co ++ EE)
  refine jj_isub C0 dX3_numberByWays_40 ?_
  refine jj_istore C0 (lv' := [(5, .int (iI ((f_price up dn dv td fr d k) - (dv (td + 1 + d))))), (4, .int (iI (f_pays (K c) (St c) (f_price up dn dv td fr d k)))), (0, .ref (ha 1)), (1, .ref (cA c)), (2, .int (iI (f_price up dn dv td fr d k))), (3, .int (iI 6))]) (by decide) rfl dX3_numberByWays_41 ?_
  refine jj_aload_n C0 2 rfl dX3_numberByWays_43 ?_
  refine jj_getN C0 (ci := 3) (v := .int (iI dn)) hin_X2 (1) (rfl) rfl 4 (by decide) (va_Nw.use rfl (hE.1 _ (hN_101))) (fun _ h9 => h9) rfl dX3_numberByWays_44 ?_
  refine jj_i2l C0 (by omega) dX3_numberByWays_47 ?_
  refine jj_aload_n C0 2 rfl dX3_numberByWays_48 ?_
  refine jj_aload_n C0 3 rfl dX3_numberByWays_49 ?_
  refine jj_iload C0 0 rfl dX3_numberByWays_50 ?_
  refine jj_bipush C0 dX3_numberByWays_52 (by decide) ?_
  refine jj_aload_n C0 2 rfl dX3_numberByWays_54 ?_
  refine jj_getN C0 (ci := 3) (v := .int (iI up)) hin_X2 (1) (rfl) rfl 3 (by decide) (va_Nw.use rfl (hE.1 _ (hN_99))) (fun _ h9 => h9) rfl dX3_numberByWays_55 ?_
  refine jj_imul C0 dX3_numberByWays_58 ?_
  refine jj_iadd C0 dX3_numberByWays_59 ?_
  refine jj_topi (b := (f_price up dn dv td fr (d + 1) (k + 1))) (f_pr_up) ?_
  refine jj_iload_n C0 5 rfl dX3_numberByWays_60 ?_
  refine jj_iconst C0 dX3_numberByWays_61 ?_
  refine jj_isub C0 dX3_numberByWays_62 ?_
  refine jj_topi (b := 5) (by omega) ?_
  refine jj_callSl C0 (cc_nbw_5  (c := c) (d := (d + 1)) (k := (k + 1)) (fr := fr) (by first | exact hdk | omega) (by first | exact hdr | omega) (by first | exact hcn | omega) (by first | exact htd | omega) (by first | exact hfr | omega) (by first | exact hup | omega) (by first | exact hdn | omega) (by first | exact hdv | omega) (by first | exact hK | omega) (by first | exact hSt | omega) (by first | exact hEx | omega) (by first | exact hAm | omega)) (cwS 4 hw (lw_gS hU_737 hU_738 hU_60 hU_739) rfl rfl rfl (by decide +kernel) ⟨Nat.le_of_ble_eq_true rfl, Nat.le_of_ble_eq_true rfl⟩) rfl rfl (Nat.le_of_ble_eq_true rfl) ⟨by decide, by decide⟩ rfl rfl dX3_numberByWays_63 ?_
  intro _ hu
  show jj_W _ _ _ _ _ _ _ _ _ _ _ _ _ _ _ _ _ 66 _ [.long (lI (f_V up dn dv td (K c) (St c) (Am c) fr 5 (d + 1) (k + 1))), .long (lI dn)] (wH ha cA hA nA ed cI cJ cZ td pr up dn dv rw sd mc n mo sh co Ca Cz K St Ex Am Bi As BL AL He Co ++ EE)
  refine jj_lmul C0 dX3_numberByWays_66 ?_
  refine jj_aload_n C0 2 rfl dX3_numberByWays_67 ?_
  refine jj_getN C0 (ci := 3) (v := .int (iI up)) hin_X2 (1) (rfl) rfl 3 (by decide) (va_Nw.use rfl (hE.1 _ (hN_99))) (fun _ h9 => h9) rfl dX3_numberByWays_68 ?_
  refine jj_i2l C0 (by omega) dX3_numberByWays_71 ?_
  refine jj_aload_n C0 2 rfl dX3_numberByWays_72 ?_
  refine jj_aload_n C0 3 rfl dX3_numberByWays_73 ?_
  refine jj_iload C0 0 rfl dX3_numberByWays_74 ?_
  refine jj_bipush C0 dX3_numberByWays_76 (by decide) ?_
  refine jj_aload_n C0 2 rfl dX3_numberByWays_78 ?_
  refine jj_getN C0 (ci := 3) (v := .int (iI dn)) hin_X2 (1) (rfl) rfl 4 (by decide) (va_Nw.use rfl (hE.1 _ (hN_101))) (fun _ h9 => h9) rfl dX3_numberByWays_79 ?_
  refine jj_imul C0 dX3_numberByWays_82 ?_
  refine jj_isub C0 dX3_numberByWays_83 ?_
  refine jj_topi (b := (f_price up dn dv td fr (d + 1) k)) (f_pr_dn) ?_
  refine jj_iload_n C0 5 rfl dX3_numberByWays_84 ?_
  refine jj_iconst C0 dX3_numberByWays_85 ?_
  refine jj_isub C0 dX3_numberByWays_86 ?_
  refine jj_topi (b := 5) (by omega) ?_
  refine jj_callSl C0 (cc_nbw_5  (c := c) (d := (d + 1)) (k := k) (fr := fr) (by first | exact hdk | omega) (by first | exact hdr | omega) (by first | exact hcn | omega) (by first | exact htd | omega) (by first | exact hfr | omega) (by first | exact hup | omega) (by first | exact hdn | omega) (by first | exact hdv | omega) (by first | exact hK | omega) (by first | exact hSt | omega) (by first | exact hEx | omega) (by first | exact hAm | omega)) (cwS 4 hw (lw_gS hU_737 hU_738 hU_60 hU_739) rfl rfl rfl (by decide +kernel) ⟨Nat.le_of_ble_eq_true rfl, Nat.le_of_ble_eq_true rfl⟩) rfl rfl (Nat.le_of_ble_eq_true rfl) ⟨by decide, by decide⟩ rfl rfl dX3_numberByWays_87 ?_
  intro _ hu
  show jj_W _ _ _ _ _ _ _ _ _ _ _ _ _ _ _ _ _ 90 _ [.long (lI (f_V up dn dv td (K c) (St c) (Am c) fr 5 (d + 1) k)), .long (lI up), .long (lI (dn * (f_V up dn dv td (K c) (St c) (Am c) fr 5 (d + 1) (k + 1))))] (wH ha cA hA nA ed cI cJ cZ td pr up dn dv rw sd mc n mo sh co Ca Cz K St Ex Am Bi As BL AL He Co ++ EE)
  refine jj_lmul C0 dX3_numberByWays_90 ?_
  refine jj_ladd C0 dX3_numberByWays_91 ?_
  refine jj_lstore C0 (lv' := [(6, .long (lI ((dn * (f_V up dn dv td (K c) (St c) (Am c) fr 5 (d + 1) (k + 1))) + (up * (f_V up dn dv td (K c) (St c) (Am c) fr 5 (d + 1) k))))), (5, .int (iI ((f_price up dn dv td fr d k) - (dv (td + 1 + d))))), (4, .int (iI (f_pays (K c) (St c) (f_price up dn dv td fr d k)))), (0, .ref (ha 1)), (1, .ref (cA c)), (2, .int (iI (f_price up dn dv td fr d k))), (3, .int (iI 6))]) (by decide) rfl dX3_numberByWays_92 ?_
  refine jj_aload_n C0 4 rfl dX3_numberByWays_94 ?_
  refine jj_getN C0 (ci := 1) (v := .int (iI (Am c))) hin_X0 ((8 + (3 * c + 0))) ((wH_c (c := c) (by omega))) rfl 3 (by decide) (va_Nw.use rfl (hE.1 _ (hN_461))) (fun _ h9 => h9) rfl dX3_numberByWays_95 ?_
  have hb_Am_8303 := hAm c
  refine jj_if_ne C0 (by omega) dX3_numberByWays_98 (tgt := 104) (by decide) (fun c_4 => ?_) (fun c_4 => ?_)
  · refine jj_lload C0 0 rfl dX3_numberByWays_104 ?_
    refine jj_iload C0 2 rfl dX3_numberByWays_106 ?_
    refine jj_i2l C0 (by omega) dX3_numberByWays_108 ?_
    refine jj_aload_n C0 3 rfl dX3_numberByWays_109 ?_
    refine jj_getN C0 (ci := 3) (v := .int (iI up)) hin_X2 (1) (rfl) rfl 3 (by decide) (va_Nw.use rfl (hE.1 _ (hN_99))) (fun _ h9 => h9) rfl dX3_numberByWays_110 ?_
    refine jj_aload_n C0 3 rfl dX3_numberByWays_113 ?_
    refine jj_getN C0 (ci := 3) (v := .int (iI dn)) hin_X2 (1) (rfl) rfl 4 (by decide) (va_Nw.use rfl (hE.1 _ (hN_101))) (fun _ h9 => h9) rfl dX3_numberByWays_114 ?_
    refine jj_iadd C0 dX3_numberByWays_117 ?_
    refine jj_i2l C0 (by omega) dX3_numberByWays_118 ?_
    refine jj_iload_n C0 6 rfl dX3_numberByWays_119 ?_
    refine jj_callSl C0 (cc_X3_power  (b := (up + dn)) (e := (6 : Int)) (by omega)) (cwS 2 hw (lw_gS hU_740 hU_316 hU_60 hU_317) rfl rfl rfl (by decide +kernel) ⟨Nat.le_of_ble_eq_true rfl, Nat.le_of_ble_eq_true rfl⟩) rfl rfl (Nat.le_of_ble_eq_true rfl) ⟨by decide, by decide⟩ rfl rfl dX3_numberByWays_120 ?_
    intro _ hu
    show jj_W _ _ _ _ _ _ _ _ _ _ _ _ _ _ _ _ _ 123 _ [.long (lI ((up + dn) ^ ((6 : Int)).toNat)), .long (lI (f_pays (K c) (St c) (f_price up dn dv td fr d k))), .long (lI ((dn * (f_V up dn dv td (K c) (St c) (Am c) fr 5 (d + 1) (k + 1))) + (up * (f_V up dn dv td (K c) (St c) (Am c) fr 5 (d + 1) k))))] (wH ha cA hA nA ed cI cJ cZ td pr up dn dv rw sd mc n mo sh co Ca Cz K St Ex Am Bi As BL AL He Co ++ EE)
    refine jj_topl (b := ((up + dn) ^ (5 + 1))) (rfl) ?_
    refine jj_lmul C0 dX3_numberByWays_123 ?_
    refine jj_mmaxl C0 (by omega) (by omega) (hw _ hU_741) (List.forall_mem_cons.mpr ⟨hw _ hU_306, List.forall_mem_cons.mpr ⟨hw _ hU_73, List.forall_mem_cons.mpr ⟨hw _ hU_307, fun _ h => absurd h List.not_mem_nil⟩⟩⟩) (by decide) (Nat.le_of_ble_eq_true rfl) ⟨by decide, by decide⟩ dX3_numberByWays_124 ?_
    exact jj_lret C0 hr () (trivial) (by exact f_V_e1 (r := 5) (by omega)) (rfl) (by decide) (by decide) dX3_numberByWays_127
  · refine jj_lload C0 0 rfl dX3_numberByWays_101 ?_
    exact jj_lret C0 hr () (trivial) (by exact f_V_e0 (r := 5) (by omega)) (rfl) (by decide) (by decide) dX3_numberByWays_103
set_option maxHeartbeats 4000000 in
set_option maxRecDepth 100000 in
theorem cc_nbw_7  {c d k : Nat} {fr : Int} (hdk : k ≤ d) (hdr : (td : Int) + (d : Int) + 7 = Ex c ∧ d + 7 ≤ 10) (hcn : c < n) (htd : td ≤ 200) (hfr : -30000 ≤ fr ∧ fr ≤ 30000) (hup : 1 ≤ up ∧ up ≤ 10) (hdn : 1 ≤ dn ∧ dn ≤ 10) (hdv : ∀ j, 0 ≤ dv j ∧ dv j ≤ 1000) (hK : ∀ j, 0 ≤ K j ∧ K j ≤ 1) (hSt : ∀ j, 0 ≤ St j ∧ St j ≤ 20000) (hEx : ∀ j, 0 ≤ Ex j ∧ Ex j ≤ 200) (hAm : ∀ j, 0 ≤ Am j ∧ Am j ≤ 1) : jj_Ml EVh (dC, dI) vwCl [(cI, .int), (cJ, .long), (cZ, .boolean), (cO, .object "java/lang/Object")] l yX3_numberByWays (Cond.code yX3_numberByWays cX3_numberByWays 8 (some .long) :: lw_U) ({ frames := 9, cells := 0, slots := 0, locals := 223 } : Room) [.ref (ha 1), .ref (cA c), .int (iI (f_price up dn dv td fr d k)), .int (iI 7)] (wH ha cA hA nA ed cI cJ cZ td pr up dn dv rw sd mc n mo sh co Ca Cz K St Ex Am Bi As BL AL He Co ++ EE) (S := Unit) (fun _ => (f_V up dn dv td (K c) (St c) (Am c) fr 7 d k)) (fun _ => True) (fun _ => wH ha cA hA nA ed cI cJ cZ td pr up dn dv rw sd mc n mo sh co Ca Cz K St Ex Am Bi As BL AL He Co ++ EE) := by
  refine jj_start (cc := cX3_numberByWays) (nL := 8) (ret := (some .long)) (lv := [(0, .ref (ha 1)), (1, .ref (cA c)), (2, .int (iI (f_price up dn dv td fr d k))), (3, .int (iI 7))]) (fun A => jj_Ql _ _ _ _ _ _ A) hEVh (by decide) rfl (Nat.le_of_ble_eq_true rfl) rfl ?_
  intro p9 e9 s9 m9 a9 b9 me9 c9 A9 C1 hr hin
  have C0 : jj_C p9 s9 m9 a9 me9 c9 (dC, dI) vwCl A9 8 cX3_numberByWays "Strikehall" lw_U _ EVh := jj_toU C1
  have hw := C0.2.2.2.2.1
  have hE := C0.2.2.2.2.2.2.2.1
  have hp := f_price_bd (t := td) (j := d) (k := k) hup hdn hdv hfr (by omega) (by omega)
  have hpy := f_pays_bd (k := K c) (hSt c) hp
  have hexb := hEx c
  have hdvb := hdv (td + 1 + d)
  have hg := f_go_lR hup hdn hdv (hSt c) hfr (ki := K c) (am := Am c) (t := td) (r := 6) (d := d) (k := k) (by omega) (by omega)
  refine jj_iload_n C0 3 rfl dX3_numberByWays_0 ?_
  refine jj_if_lt C0 (by omega) dX3_numberByWays_1 (tgt := 10) (by decide) (fun c_1 => absurd c_1 (by omega)) (fun c_1 => ?_)
  refine jj_iload_n C0 3 rfl dX3_numberByWays_4 ?_
  refine jj_bipush C0 dX3_numberByWays_5 (by decide) ?_
  refine jj_icmp_le C0 (by omega) (by omega) dX3_numberByWays_7 (tgt := 12) (by decide) (fun c_2 => ?_) (fun c_2 => absurd c_2 (by omega))
  refine jj_aload_n C0 1 rfl dX3_numberByWays_12 ?_
  refine jj_iload_n C0 2 rfl dX3_numberByWays_13 ?_
  refine jj_callVNi C0 (cc_X0_paysAt  (c := c) (z := (f_price up dn dv td fr d k)) (by first | exact hcn | omega) (by omega) (by first | exact hK | omega) (by first | exact hSt | omega)) ⟨va_cnB 1 hw (lw_gc hU_301 lw_UU) rfl rfl rfl (hE.1 _ hN_663) (hw _ hU_75) (by decide +kernel) ⟨Nat.le_of_ble_eq_true rfl, Nat.le_of_ble_eq_true rfl⟩, hw _ hU_300, hw _ hU_18⟩ (ci := 1) (q0 := (8 + (3 * c + 0))) rfl ((wH_c (c := c) (by omega))) rfl rfl (Nat.le_of_ble_eq_true rfl) ⟨by decide, by decide⟩ rfl rfl dX3_numberByWays_14 ?_
  intro _ hu
  show jj_W _ _ _ _ _ _ _ _ _ _ _ _ _ _ _ _ _ 17 _ [.int (iI (f_pays (K c) (St c) (f_price up dn dv td fr d k)))] (wH ha cA hA nA ed cI cJ cZ td pr up dn dv rw sd mc n mo sh co Ca Cz K St Ex Am Bi As BL AL He Co ++ EE)
  refine jj_istore C0 (lv' := [(4, .int (iI (f_pays (K c) (St c) (f_price up dn dv td fr d k)))), (0, .ref (ha 1)), (1, .ref (cA c)), (2, .int (iI (f_price up dn dv td fr d k))), (3, .int (iI 7))]) (by decide) rfl dX3_numberByWays_17 ?_
  refine jj_iload_n C0 4 rfl dX3_numberByWays_19 ?_
  refine jj_if_ne C0 (by omega) dX3_numberByWays_20 (tgt := 27) (by decide) (fun c_3 => ?_) (fun c_3 => absurd c_3 (by omega))
  refine jj_iload_n C0 3 rfl dX3_numberByWays_27 ?_
  refine jj_aload_n C0 1 rfl dX3_numberByWays_28 ?_
  refine jj_aload_n C0 2 rfl dX3_numberByWays_29 ?_
  refine jj_getN C0 (ci := 1) (v := .int (iI (Ex c))) hin_X0 ((8 + (3 * c + 0))) ((wH_c (c := c) (by omega))) rfl 2 (by decide) (va_Nw.use rfl (hE.1 _ (hN_458))) (fun _ h9 => h9) rfl dX3_numberByWays_30 ?_
  have hb_Ex_47718 := hEx c
  refine jj_iload_n C0 4 rfl dX3_numberByWays_33 ?_
  refine jj_isub C0 dX3_numberByWays_34 ?_
  refine jj_iconst C0 dX3_numberByWays_35 ?_
  refine jj_iadd C0 dX3_numberByWays_36 ?_
  refine jj_topi (b := ((td + 1 + d : Nat) : Int)) (by omega) ?_
  refine jj_callVNi C0 (cc_X2_dividendOn  (d := (td + 1 + d)) (by omega)) ⟨va_cnB 1 hw (lw_gc hU_297 lw_UU) rfl rfl rfl (hE.1 _ hN_418) (hw _ hU_61) (by decide +kernel) ⟨Nat.le_of_ble_eq_true rfl, Nat.le_of_ble_eq_true rfl⟩, hw _ hU_296, hw _ hU_17⟩ (ci := 3) (q0 := 1) rfl (rfl) rfl rfl (Nat.le_of_ble_eq_true rfl) ⟨by decide, by decide⟩ rfl rfl dX3_numberByWays_37 ?_
  intro _ hu
  show jj_W _ _ _ _ _ _ _ _ _ _ _ _ _ _ _ _ _ 40 _ [.int (iI (dv (td + 1 + d))), .int (iI (f_price up dn dv td fr d k))] (wH ha cA hA nA ed cI cJ cZ td pr up dn dv rw sd mc n mo sh co Ca Cz K St Ex Am Bi As BL AL He Co ++ EE)
  refine jj_isub C0 dX3_numberByWays_40 ?_
  refine jj_istore C0 (lv' := [(5, .int (iI ((f_price up dn dv td fr d k) - (dv (td + 1 + d))))), (4, .int (iI (f_pays (K c) (St c) (f_price up dn dv td fr d k)))), (0, .ref (ha 1)), (1, .ref (cA c)), (2, .int (iI (f_price up dn dv td fr d k))), (3, .int (iI 7))]) (by decide) rfl dX3_numberByWays_41 ?_
  refine jj_aload_n C0 2 rfl dX3_numberByWays_43 ?_
  refine jj_getN C0 (ci := 3) (v := .int (iI dn)) hin_X2 (1) (rfl) rfl 4 (by decide) (va_Nw.use rfl (hE.1 _ (hN_101))) (fun _ h9 => h9) rfl dX3_numberByWays_44 ?_
  refine jj_i2l C0 (by omega) dX3_numberByWays_47 ?_
  refine jj_aload_n C0 2 rfl dX3_numberByWays_48 ?_
  refine jj_aload_n C0 3 rfl dX3_numberByWays_49 ?_
  refine jj_iload C0 0 rfl dX3_numberByWays_50 ?_
  refine jj_bipush C0 dX3_numberByWays_52 (by decide) ?_
  refine jj_aload_n C0 2 rfl dX3_numberByWays_54 ?_
  refine jj_getN C0 (ci := 3) (v := .int (iI up)) hin_X2 (1) (rfl) rfl 3 (by decide) (va_Nw.use rfl (hE.1 _ (hN_99))) (fun _ h9 => h9) rfl dX3_numberByWays_55 ?_
  refine jj_imul C0 dX3_numberByWays_58 ?_
  refine jj_iadd C0 dX3_numberByWays_59 ?_
  refine jj_topi (b := (f_price up dn dv td fr (d + 1) (k + 1))) (f_pr_up) ?_
  refine jj_iload_n C0 5 rfl dX3_numberByWays_60 ?_
  refine jj_iconst C0 dX3_numberByWays_61 ?_
  refine jj_isub C0 dX3_numberByWays_62 ?_
  refine jj_topi (b := 6) (by omega) ?_
  refine jj_callSl C0 (cc_nbw_6  (c := c) (d := (d + 1)) (k := (k + 1)) (fr := fr) (by first | exact hdk | omega) (by first | exact hdr | omega) (by first | exact hcn | omega) (by first | exact htd | omega) (by first | exact hfr | omega) (by first | exact hup | omega) (by first | exact hdn | omega) (by first | exact hdv | omega) (by first | exact hK | omega) (by first | exact hSt | omega) (by first | exact hEx | omega) (by first | exact hAm | omega)) (cwS 4 hw (lw_gS hU_737 hU_738 hU_60 hU_739) rfl rfl rfl (by decide +kernel) ⟨Nat.le_of_ble_eq_true rfl, Nat.le_of_ble_eq_true rfl⟩) rfl rfl (Nat.le_of_ble_eq_true rfl) ⟨by decide, by decide⟩ rfl rfl dX3_numberByWays_63 ?_
  intro _ hu
  show jj_W _ _ _ _ _ _ _ _ _ _ _ _ _ _ _ _ _ 66 _ [.long (lI (f_V up dn dv td (K c) (St c) (Am c) fr 6 (d + 1) (k + 1))), .long (lI dn)] (wH ha cA hA nA ed cI cJ cZ td pr up dn dv rw sd mc n mo sh co Ca Cz K St Ex Am Bi As BL AL He Co ++ EE)
  refine jj_lmul C0 dX3_numberByWays_66 ?_
  refine jj_aload_n C0 2 rfl dX3_numberByWays_67 ?_
  refine jj_getN C0 (ci := 3) (v := .int (iI up)) hin_X2 (1) (rfl) rfl 3 (by decide) (va_Nw.use rfl (hE.1 _ (hN_99))) (fun _ h9 => h9) rfl dX3_numberByWays_68 ?_
  refine jj_i2l C0 (by omega) dX3_numberByWays_71 ?_
  refine jj_aload_n C0 2 rfl dX3_numberByWays_72 ?_
  refine jj_aload_n C0 3 rfl dX3_numberByWays_73 ?_
  refine jj_iload C0 0 rfl dX3_numberByWays_74 ?_
  refine jj_bipush C0 dX3_numberByWays_76 (by decide) ?_
  refine jj_aload_n C0 2 rfl dX3_numberByWays_78 ?_
  refine jj_getN C0 (ci := 3) (v := .int (iI dn)) hin_X2 (1) (rfl) rfl 4 (by decide) (va_Nw.use rfl (hE.1 _ (hN_101))) (fun _ h9 => h9) rfl dX3_numberByWays_79 ?_
  refine jj_imul C0 dX3_numberByWays_82 ?_
  refine jj_isub C0 dX3_numberByWays_83 ?_
  refine jj_topi (b := (f_price up dn dv td fr (d + 1) k)) (f_pr_dn) ?_
  refine jj_iload_n C0 5 rfl dX3_numberByWays_84 ?_
  refine jj_iconst C0 dX3_numberByWays_85 ?_
  refine jj_isub C0 dX3_numberByWays_86 ?_
  refine jj_topi (b := 6) (by omega) ?_
  refine jj_callSl C0 (cc_nbw_6  (c := c) (d := (d + 1)) (k := k) (fr := fr) (by first | exact hdk | omega) (by first | exact hdr | omega) (by first | exact hcn | omega) (by first | exact htd | omega) (by first | exact hfr | omega) (by first | exact hup | omega) (by first | exact hdn | omega) (by first | exact hdv | omega) (by first | exact hK | omega) (by first | exact hSt | omega) (by first | exact hEx | omega) (by first | exact hAm | omega)) (cwS 4 hw (lw_gS hU_737 hU_738 hU_60 hU_739) rfl rfl rfl (by decide +kernel) ⟨Nat.le_of_ble_eq_true rfl, Nat.le_of_ble_eq_true rfl⟩) rfl rfl (Nat.le_of_ble_eq_true rfl) ⟨by decide, by decide⟩ rfl rfl dX3_numberByWays_87 ?_
  intro _ hu
  show jj_W _ _ _ _ _ _ _ _ _ _ _ _ _ _ _ _ _ 90 _ [.long (lI (f_V up dn dv td (K c) (St c) (Am c) fr 6 (d + 1) k)), .long (lI up), .long (lI (dn * (f_V up dn dv td (K c) (St c) (Am c) fr 6 (d + 1) (k + 1))))] (wH ha cA hA nA ed cI cJ cZ td pr up dn dv rw sd mc n mo sh co Ca Cz K St Ex Am Bi As BL AL He Co ++ EE)
  refine jj_lmul C0 dX3_numberByWays_90 ?_
  refine jj_ladd C0 dX3_numberByWays_91 ?_
  refine jj_lstore C0 (lv' := [(6, .long (lI ((dn * (f_V up dn dv td (K c) (St c) (Am c) fr 6 (d + 1) (k + 1))) + (up * (f_V up dn dv td (K c) (St c) (Am c) fr 6 (d + 1) k))))), (5, .int (iI ((f_price up dn dv td fr d k) - (dv (td + 1 + d))))), (4, .int (iI (f_pays (K c) (St c) (f_price up dn dv td fr d k)))), (0, .ref (ha 1)), (1, .ref (cA c)), (2, .int (iI (f_price up dn dv td fr d k))), (3, .int (iI 7))]) (by decide) rfl dX3_numberByWays_92 ?_
  refine jj_aload_n C0 4 rfl dX3_numberByWays_94 ?_
  refine jj_getN C0 (ci := 1) (v := .int (iI (Am c))) hin_X0 ((8 + (3 * c + 0))) ((wH_c (c := c) (by omega))) rfl 3 (by decide) (va_Nw.use rfl (hE.1 _ (hN_461))) (fun _ h9 => h9) rfl dX3_numberByWays_95 ?_
  have hb_Am_8303 := hAm c
  refine jj_if_ne C0 (by omega) dX3_numberByWays_98 (tgt := 104) (by decide) (fun c_4 => ?_) (fun c_4 => ?_)
  · refine jj_lload C0 0 rfl dX3_numberByWays_104 ?_
    refine jj_iload C0 2 rfl dX3_numberByWays_106 ?_
    refine jj_i2l C0 (by omega) dX3_numberByWays_108 ?_
    refine jj_aload_n C0 3 rfl dX3_numberByWays_109 ?_
    refine jj_getN C0 (ci := 3) (v := .int (iI up)) hin_X2 (1) (rfl) rfl 3 (by decide) (va_Nw.use rfl (hE.1 _ (hN_99))) (fun _ h9 => h9) rfl dX3_numberByWays_110 ?_
    refine jj_aload_n C0 3 rfl dX3_numberByWays_113 ?_
    refine jj_getN C0 (ci := 3) (v := .int (iI dn)) hin_X2 (1) (rfl) rfl 4 (by decide) (va_Nw.use rfl (hE.1 _ (hN_101))) (fun _ h9 => h9) rfl dX3_numberByWays_114 ?_
    refine jj_iadd C0 dX3_numberByWays_117 ?_
    refine jj_i2l C0 (by omega) dX3_numberByWays_118 ?_
    refine jj_iload_n C0 6 rfl dX3_numberByWays_119 ?_
    refine jj_callSl C0 (cc_X3_power  (b := (up + dn)) (e := (7 : Int)) (by omega)) (cwS 2 hw (lw_gS hU_740 hU_316 hU_60 hU_317) rfl rfl rfl (by decide +kernel) ⟨Nat.le_of_ble_eq_true rfl, Nat.le_of_ble_eq_true rfl⟩) rfl rfl (Nat.le_of_ble_eq_true rfl) ⟨by decide, by decide⟩ rfl rfl dX3_numberByWays_120 ?_
    intro _ hu
    show jj_W _ _ _ _ _ _ _ _ _ _ _ _ _ _ _ _ _ 123 _ [.long (lI ((up + dn) ^ ((7 : Int)).toNat)), .long (lI (f_pays (K c) (St c) (f_price up dn dv td fr d k))), .long (lI ((dn * (f_V up dn dv td (K c) (St c) (Am c) fr 6 (d + 1) (k + 1))) + (up * (f_V up dn dv td (K c) (St c) (Am c) fr 6 (d + 1) k))))] (wH ha cA hA nA ed cI cJ cZ td pr up dn dv rw sd mc n mo sh co Ca Cz K St Ex Am Bi As BL AL He Co ++ EE)
    refine jj_topl (b := ((up + dn) ^ (6 + 1))) (rfl) ?_
    refine jj_lmul C0 dX3_numberByWays_123 ?_
    refine jj_mmaxl C0 (by omega) (by omega) (hw _ hU_741) (List.forall_mem_cons.mpr ⟨hw _ hU_306, List.forall_mem_cons.mpr ⟨hw _ hU_73, List.forall_mem_cons.mpr ⟨hw _ hU_307, fun _ h => absurd h List.not_mem_nil⟩⟩⟩) (by decide) (Nat.le_of_ble_eq_true rfl) ⟨by decide, by decide⟩ dX3_numberByWays_124 ?_
    exact jj_lret C0 hr () (trivial) (by exact f_V_e1 (r := 6) (by omega)) (rfl) (by decide) (by decide) dX3_numberByWays_127
  · refine jj_lload C0 0 rfl dX3_numberByWays_101 ?_
    exact jj_lret C0 hr () (trivial) (by exact f_V_e0 (r := 6) (by omega)) (rfl) (by decide) (by decide) dX3_numberByWays_103
set_option maxHeartbeats 4000000 in
set_option maxRecDepth 100000 in
theorem cc_nbw_8  {c d k : Nat} {fr : Int} (hdk : k ≤ d) (hdr : (td : Int) + (d : Int) + 8 = Ex c ∧ d + 8 ≤ 10) (hcn : c < n) (htd : td ≤ 200) (hfr : -30000 ≤ fr ∧ fr ≤ 30000) (hup : 1 ≤ up ∧ up ≤ 10) (hdn : 1 ≤ dn ∧ dn ≤ 10) (hdv : ∀ j, 0 ≤ dv j ∧ dv j ≤ 1000) (hK : ∀ j, 0 ≤ K j ∧ K j ≤ 1) (hSt : ∀ j, 0 ≤ St j ∧ St j ≤ 20000) (hEx : ∀ j, 0 ≤ Ex j ∧ Ex j ≤ 200) (hAm : ∀ j, 0 ≤ Am j ∧ Am j ≤ 1) : jj_Ml EVh (dC, dI) vwCl [(cI, .int), (cJ, .long), (cZ, .boolean), (cO, .object "java/lang/Object")] l yX3_numberByWays (Cond.code yX3_numberByWays cX3_numberByWays 8 (some .long) :: lw_U) ({ frames := 10, cells := 0, slots := 0, locals := 250 } : Room) [.ref (ha 1), .ref (cA c), .int (iI (f_price up dn dv td fr d k)), .int (iI 8)] (wH ha cA hA nA ed cI cJ cZ td pr up dn dv rw sd mc n mo sh co Ca Cz K St Ex Am Bi As BL AL He Co ++ EE) (S := Unit) (fun _ => (f_V up dn dv td (K c) (St c) (Am c) fr 8 d k)) (fun _ => True) (fun _ => wH ha cA hA nA ed cI cJ cZ td pr up dn dv rw sd mc n mo sh co Ca Cz K St Ex Am Bi As BL AL He Co ++ EE) := by
  refine jj_start (cc := cX3_numberByWays) (nL := 8) (ret := (some .long)) (lv := [(0, .ref (ha 1)), (1, .ref (cA c)), (2, .int (iI (f_price up dn dv td fr d k))), (3, .int (iI 8))]) (fun A => jj_Ql _ _ _ _ _ _ A) hEVh (by decide) rfl (Nat.le_of_ble_eq_true rfl) rfl ?_
  intro p9 e9 s9 m9 a9 b9 me9 c9 A9 C1 hr hin
  have C0 : jj_C p9 s9 m9 a9 me9 c9 (dC, dI) vwCl A9 8 cX3_numberByWays "Strikehall" lw_U _ EVh := jj_toU C1
  have hw := C0.2.2.2.2.1
  have hE := C0.2.2.2.2.2.2.2.1
  have hp := f_price_bd (t := td) (j := d) (k := k) hup hdn hdv hfr (by omega) (by omega)
  have hpy := f_pays_bd (k := K c) (hSt c) hp
  have hexb := hEx c
  have hdvb := hdv (td + 1 + d)
  have hg := f_go_lR hup hdn hdv (hSt c) hfr (ki := K c) (am := Am c) (t := td) (r := 7) (d := d) (k := k) (by omega) (by omega)
  refine jj_iload_n C0 3 rfl dX3_numberByWays_0 ?_
  refine jj_if_lt C0 (by omega) dX3_numberByWays_1 (tgt := 10) (by decide) (fun c_1 => absurd c_1 (by omega)) (fun c_1 => ?_)
  refine jj_iload_n C0 3 rfl dX3_numberByWays_4 ?_
  refine jj_bipush C0 dX3_numberByWays_5 (by decide) ?_
  refine jj_icmp_le C0 (by omega) (by omega) dX3_numberByWays_7 (tgt := 12) (by decide) (fun c_2 => ?_) (fun c_2 => absurd c_2 (by omega))
  refine jj_aload_n C0 1 rfl dX3_numberByWays_12 ?_
  refine jj_iload_n C0 2 rfl dX3_numberByWays_13 ?_
  refine jj_callVNi C0 (cc_X0_paysAt  (c := c) (z := (f_price up dn dv td fr d k)) (by first | exact hcn | omega) (by omega) (by first | exact hK | omega) (by first | exact hSt | omega)) ⟨va_cnB 1 hw (lw_gc hU_301 lw_UU) rfl rfl rfl (hE.1 _ hN_663) (hw _ hU_75) (by decide +kernel) ⟨Nat.le_of_ble_eq_true rfl, Nat.le_of_ble_eq_true rfl⟩, hw _ hU_300, hw _ hU_18⟩ (ci := 1) (q0 := (8 + (3 * c + 0))) rfl ((wH_c (c := c) (by omega))) rfl rfl (Nat.le_of_ble_eq_true rfl) ⟨by decide, by decide⟩ rfl rfl dX3_numberByWays_14 ?_
  intro _ hu
  show jj_W _ _ _ _ _ _ _ _ _ _ _ _ _ _ _ _ _ 17 _ [.int (iI (f_pays (K c) (St c) (f_price up dn dv td fr d k)))] (wH ha cA hA nA ed cI cJ cZ td pr up dn dv rw sd mc n mo sh co Ca Cz K St Ex Am Bi As BL AL He Co ++ EE)
  refine jj_istore C0 (lv' := [(4, .int (iI (f_pays (K c) (St c) (f_price up dn dv td fr d k)))), (0, .ref (ha 1)), (1, .ref (cA c)), (2, .int (iI (f_price up dn dv td fr d k))), (3, .int (iI 8))]) (by decide) rfl dX3_numberByWays_17 ?_
  refine jj_iload_n C0 4 rfl dX3_numberByWays_19 ?_
  refine jj_if_ne C0 (by omega) dX3_numberByWays_20 (tgt := 27) (by decide) (fun c_3 => ?_) (fun c_3 => absurd c_3 (by omega))
  refine jj_iload_n C0 3 rfl dX3_numberByWays_27 ?_
  refine jj_aload_n C0 1 rfl dX3_numberByWays_28 ?_
  refine jj_aload_n C0 2 rfl dX3_numberByWays_29 ?_
  refine jj_getN C0 (ci := 1) (v := .int (iI (Ex c))) hin_X0 ((8 + (3 * c + 0))) ((wH_c (c := c) (by omega))) rfl 2 (by decide) (va_Nw.use rfl (hE.1 _ (hN_458))) (fun _ h9 => h9) rfl dX3_numberByWays_30 ?_
  have hb_Ex_47718 := hEx c
  refine jj_iload_n C0 4 rfl dX3_numberByWays_33 ?_
  refine jj_isub C0 dX3_numberByWays_34 ?_
  refine jj_iconst C0 dX3_numberByWays_35 ?_
  refine jj_iadd C0 dX3_numberByWays_36 ?_
  refine jj_topi (b := ((td + 1 + d : Nat) : Int)) (by omega) ?_
  refine jj_callVNi C0 (cc_X2_dividendOn  (d := (td + 1 + d)) (by omega)) ⟨va_cnB 1 hw (lw_gc hU_297 lw_UU) rfl rfl rfl (hE.1 _ hN_418) (hw _ hU_61) (by decide +kernel) ⟨Nat.le_of_ble_eq_true rfl, Nat.le_of_ble_eq_true rfl⟩, hw _ hU_296, hw _ hU_17⟩ (ci := 3) (q0 := 1) rfl (rfl) rfl rfl (Nat.le_of_ble_eq_true rfl) ⟨by decide, by decide⟩ rfl rfl dX3_numberByWays_37 ?_
  intro _ hu
  show jj_W _ _ _ _ _ _ _ _ _ _ _ _ _ _ _ _ _ 40 _ [.int (iI (dv (td + 1 + d))), .int (iI (f_price up dn dv td fr d k))] (wH ha cA hA nA ed cI cJ cZ td pr up dn dv rw sd mc n mo sh co Ca Cz K St Ex Am Bi As BL AL He Co ++ EE)
  refine jj_isub C0 dX3_numberByWays_40 ?_
  refine jj_istore C0 (lv' := [(5, .int (iI ((f_price up dn dv td fr d k) - (dv (td + 1 + d))))), (4, .int (iI (f_pays (K c) (St c) (f_price up dn dv td fr d k)))), (0, .ref (ha 1)), (1, .ref (cA c)), (2, .int (iI (f_price up dn dv td fr d k))), (3, .int (iI 8))]) (by decide) rfl dX3_numberByWays_41 ?_
  refine jj_aload_n C0 2 rfl dX3_numberByWays_43 ?_
  refine jj_getN C0 (ci := 3) (v := .int (iI dn)) hin_X2 (1) (rfl) rfl 4 (by decide) (va_Nw.use rfl (hE.1 _ (hN_101))) (fun _ h9 => h9) rfl dX3_numberByWays_44 ?_
  refine jj_i2l C0 (by omega) dX3_numberByWays_47 ?_
  refine jj_aload_n C0 2 rfl dX3_numberByWays_48 ?_
  refine jj_aload_n C0 3 rfl dX3_numberByWays_49 ?_
  refine jj_iload C0 0 rfl dX3_numberByWays_50 ?_
  refine jj_bipush C0 dX3_numberByWays_52 (by decide) ?_
  refine jj_aload_n C0 2 rfl dX3_numberByWays_54 ?_
  refine jj_getN C0 (ci := 3) (v := .int (iI up)) hin_X2 (1) (rfl) rfl 3 (by decide) (va_Nw.use rfl (hE.1 _ (hN_99))) (fun _ h9 => h9) rfl dX3_numberByWays_55 ?_
  refine jj_imul C0 dX3_numberByWays_58 ?_
  refine jj_iadd C0 dX3_numberByWays_59 ?_
  refine jj_topi (b := (f_price up dn dv td fr (d + 1) (k + 1))) (f_pr_up) ?_
  refine jj_iload_n C0 5 rfl dX3_numberByWays_60 ?_
  refine jj_iconst C0 dX3_numberByWays_61 ?_
  refine jj_isub C0 dX3_numberByWays_62 ?_
  refine jj_topi (b := 7) (by omega) ?_
  refine jj_callSl C0 (cc_nbw_7  (c := c) (d := (d + 1)) (k := (k + 1)) (fr := fr) (by first | exact hdk | omega) (by first | exact hdr | omega) (by first | exact hcn | omega) (by first | exact htd | omega) (by first | exact hfr | omega) (by first | exact hup | omega) (by first | exact hdn | omega) (by first | exact hdv | omega) (by first | exact hK | omega) (by first | exact hSt | omega) (by first | exact hEx | omega) (by first | exact hAm | omega)) (cwS 4 hw (lw_gS hU_737 hU_738 hU_60 hU_739) rfl rfl rfl (by decide +kernel) ⟨Nat.le_of_ble_eq_true rfl, Nat.le_of_ble_eq_true rfl⟩) rfl rfl (Nat.le_of_ble_eq_true rfl) ⟨by decide, by decide⟩ rfl rfl dX3_numberByWays_63 ?_
  intro _ hu
  show jj_W _ _ _ _ _ _ _ _ _ _ _ _ _ _ _ _ _ 66 _ [.long (lI (f_V up dn dv td (K c) (St c) (Am c) fr 7 (d + 1) (k + 1))), .long (lI dn)] (wH ha cA hA nA ed cI cJ cZ td pr up dn dv rw sd mc n mo sh co Ca Cz K St Ex Am Bi As BL AL He Co ++ EE)
  refine jj_lmul C0 dX3_numberByWays_66 ?_
  refine jj_aload_n C0 2 rfl dX3_numberByWays_67 ?_
  refine jj_getN C0 (ci := 3) (v := .int (iI up)) hin_X2 (1) (rfl) rfl 3 (by decide) (va_Nw.use rfl (hE.1 _ (hN_99))) (fun _ h9 => h9) rfl dX3_numberByWays_68 ?_
  refine jj_i2l C0 (by omega) dX3_numberByWays_71 ?_
  refine jj_aload_n C0 2 rfl dX3_numberByWays_72 ?_
  refine jj_aload_n C0 3 rfl dX3_numberByWays_73 ?_
  refine jj_iload C0 0 rfl dX3_numberByWays_74 ?_
  refine jj_bipush C0 dX3_numberByWays_76 (by decide) ?_
  refine jj_aload_n C0 2 rfl dX3_numberByWays_78 ?_
  refine jj_getN C0 (ci := 3) (v := .int (iI dn)) hin_X2 (1) (rfl) rfl 4 (by decide) (va_Nw.use rfl (hE.1 _ (hN_101))) (fun _ h9 => h9) rfl dX3_numberByWays_79 ?_
  refine jj_imul C0 dX3_numberByWays_82 ?_
  refine jj_isub C0 dX3_numberByWays_83 ?_
  refine jj_topi (b := (f_price up dn dv td fr (d + 1) k)) (f_pr_dn) ?_
  refine jj_iload_n C0 5 rfl dX3_numberByWays_84 ?_
  refine jj_iconst C0 dX3_numberByWays_85 ?_
  refine jj_isub C0 dX3_numberByWays_86 ?_
  refine jj_topi (b := 7) (by omega) ?_
  refine jj_callSl C0 (cc_nbw_7  (c := c) (d := (d + 1)) (k := k) (fr := fr) (by first | exact hdk | omega) (by first | exact hdr | omega) (by first | exact hcn | omega) (by first | exact htd | omega) (by first | exact hfr | omega) (by first | exact hup | omega) (by first | exact hdn | omega) (by first | exact hdv | omega) (by first | exact hK | omega) (by first | exact hSt | omega) (by first | exact hEx | omega) (by first | exact hAm | omega)) (cwS 4 hw (lw_gS hU_737 hU_738 hU_60 hU_739) rfl rfl rfl (by decide +kernel) ⟨Nat.le_of_ble_eq_true rfl, Nat.le_of_ble_eq_true rfl⟩) rfl rfl (Nat.le_of_ble_eq_true rfl) ⟨by decide, by decide⟩ rfl rfl dX3_numberByWays_87 ?_
  intro _ hu
  show jj_W _ _ _ _ _ _ _ _ _ _ _ _ _ _ _ _ _ 90 _ [.long (lI (f_V up dn dv td (K c) (St c) (Am c) fr 7 (d + 1) k)), .long (lI up), .long (lI (dn * (f_V up dn dv td (K c) (St c) (Am c) fr 7 (d + 1) (k + 1))))] (wH ha cA hA nA ed cI cJ cZ td pr up dn dv rw sd mc n mo sh co Ca Cz K St Ex Am Bi As BL AL He Co ++ EE)
  refine jj_lmul C0 dX3_numberByWays_90 ?_
  refine jj_ladd C0 dX3_numberByWays_91 ?_
  refine jj_lstore C0 (lv' := [(6, .long (lI ((dn * (f_V up dn dv td (K c) (St c) (Am c) fr 7 (d + 1) (k + 1))) + (up * (f_V up dn dv td (K c) (St c) (Am c) fr 7 (d + 1) k))))), (5, .int (iI ((f_price up dn dv td fr d k) - (dv (td + 1 + d))))), (4, .int (iI (f_pays (K c) (St c) (f_price up dn dv td fr d k)))), (0, .ref (ha 1)), (1, .ref (cA c)), (2, .int (iI (f_price up dn dv td fr d k))), (3, .int (iI 8))]) (by decide) rfl dX3_numberByWays_92 ?_
  refine jj_aload_n C0 4 rfl dX3_numberByWays_94 ?_
  refine jj_getN C0 (ci := 1) (v := .int (iI (Am c))) hin_X0 ((8 + (3 * c + 0))) ((wH_c (c := c) (by omega))) rfl 3 (by decide) (va_Nw.use rfl (hE.1 _ (hN_461))) (fun _ h9 => h9) rfl dX3_numberByWays_95 ?_
  have hb_Am_8303 := hAm c
  refine jj_if_ne C0 (by omega) dX3_numberByWays_98 (tgt := 104) (by decide) (fun c_4 => ?_) (fun c_4 => ?_)
  · refine jj_lload C0 0 rfl dX3_numberByWays_104 ?_
    refine jj_iload C0 2 rfl dX3_numberByWays_106 ?_
    refine jj_i2l C0 (by omega) dX3_numberByWays_108 ?_
    refine jj_aload_n C0 3 rfl dX3_numberByWays_109 ?_
    refine jj_getN C0 (ci := 3) (v := .int (iI up)) hin_X2 (1) (rfl) rfl 3 (by decide) (va_Nw.use rfl (hE.1 _ (hN_99))) (fun _ h9 => h9) rfl dX3_numberByWays_110 ?_
    refine jj_aload_n C0 3 rfl dX3_numberByWays_113 ?_
    refine jj_getN C0 (ci := 3) (v := .int (iI dn)) hin_X2 (1) (rfl) rfl 4 (by decide) (va_Nw.use rfl (hE.1 _ (hN_101))) (fun _ h9 => h9) rfl dX3_numberByWays_114 ?_
    refine jj_iadd C0 dX3_numberByWays_117 ?_
    refine jj_i2l C0 (by omega) dX3_numberByWays_118 ?_
    refine jj_iload_n C0 6 rfl dX3_numberByWays_119 ?_
    refine jj_callSl C0 (cc_X3_power  (b := (up + dn)) (e := (8 : Int)) (by omega)) (cwS 2 hw (lw_gS hU_740 hU_316 hU_60 hU_317) rfl rfl rfl (by decide +kernel) ⟨Nat.le_of_ble_eq_true rfl, Nat.le_of_ble_eq_true rfl⟩) rfl rfl (Nat.le_of_ble_eq_true rfl) ⟨by decide, by decide⟩ rfl rfl dX3_numberByWays_120 ?_
    intro _ hu
    show jj_W _ _ _ _ _ _ _ _ _ _ _ _ _ _ _ _ _ 123 _ [.long (lI ((up + dn) ^ ((8 : Int)).toNat)), .long (lI (f_pays (K c) (St c) (f_price up dn dv td fr d k))), .long (lI ((dn * (f_V up dn dv td (K c) (St c) (Am c) fr 7 (d + 1) (k + 1))) + (up * (f_V up dn dv td (K c) (St c) (Am c) fr 7 (d + 1) k))))] (wH ha cA hA nA ed cI cJ cZ td pr up dn dv rw sd mc n mo sh co Ca Cz K St Ex Am Bi As BL AL He Co ++ EE)
    refine jj_topl (b := ((up + dn) ^ (7 + 1))) (rfl) ?_
    refine jj_lmul C0 dX3_numberByWays_123 ?_
    refine jj_mmaxl C0 (by omega) (by omega) (hw _ hU_741) (List.forall_mem_cons.mpr ⟨hw _ hU_306, List.forall_mem_cons.mpr ⟨hw _ hU_73, List.forall_mem_cons.mpr ⟨hw _ hU_307, fun _ h => absurd h List.not_mem_nil⟩⟩⟩) (by decide) (Nat.le_of_ble_eq_true rfl) ⟨by decide, by decide⟩ dX3_numberByWays_124 ?_
    exact jj_lret C0 hr () (trivial) (by exact f_V_e1 (r := 7) (by omega)) (rfl) (by decide) (by decide) dX3_numberByWays_127
  · refine jj_lload C0 0 rfl dX3_numberByWays_101 ?_
    exact jj_lret C0 hr () (trivial) (by exact f_V_e0 (r := 7) (by omega)) (rfl) (by decide) (by decide) dX3_numberByWays_103
set_option maxHeartbeats 4000000 in
set_option maxRecDepth 100000 in
theorem cc_nbw_9  {c d k : Nat} {fr : Int} (hdk : k ≤ d) (hdr : (td : Int) + (d : Int) + 9 = Ex c ∧ d + 9 ≤ 10) (hcn : c < n) (htd : td ≤ 200) (hfr : -30000 ≤ fr ∧ fr ≤ 30000) (hup : 1 ≤ up ∧ up ≤ 10) (hdn : 1 ≤ dn ∧ dn ≤ 10) (hdv : ∀ j, 0 ≤ dv j ∧ dv j ≤ 1000) (hK : ∀ j, 0 ≤ K j ∧ K j ≤ 1) (hSt : ∀ j, 0 ≤ St j ∧ St j ≤ 20000) (hEx : ∀ j, 0 ≤ Ex j ∧ Ex j ≤ 200) (hAm : ∀ j, 0 ≤ Am j ∧ Am j ≤ 1) : jj_Ml EVh (dC, dI) vwCl [(cI, .int), (cJ, .long), (cZ, .boolean), (cO, .object "java/lang/Object")] l yX3_numberByWays (Cond.code yX3_numberByWays cX3_numberByWays 8 (some .long) :: lw_U) ({ frames := 11, cells := 0, slots := 0, locals := 277 } : Room) [.ref (ha 1), .ref (cA c), .int (iI (f_price up dn dv td fr d k)), .int (iI 9)] (wH ha cA hA nA ed cI cJ cZ td pr up dn dv rw sd mc n mo sh co Ca Cz K St Ex Am Bi As BL AL He Co ++ EE) (S := Unit) (fun _ => (f_V up dn dv td (K c) (St c) (Am c) fr 9 d k)) (fun _ => True) (fun _ => wH ha cA hA nA ed cI cJ cZ td pr up dn dv rw sd mc n mo sh co Ca Cz K St Ex Am Bi As BL AL He Co ++ EE) := by
  refine jj_start (cc := cX3_numberByWays) (nL := 8) (ret := (some .long)) (lv := [(0, .ref (ha 1)), (1, .ref (cA c)), (2, .int (iI (f_price up dn dv td fr d k))), (3, .int (iI 9))]) (fun A => jj_Ql _ _ _ _ _ _ A) hEVh (by decide) rfl (Nat.le_of_ble_eq_true rfl) rfl ?_
  intro p9 e9 s9 m9 a9 b9 me9 c9 A9 C1 hr hin
  have C0 : jj_C p9 s9 m9 a9 me9 c9 (dC, dI) vwCl A9 8 cX3_numberByWays "Strikehall" lw_U _ EVh := jj_toU C1
  have hw := C0.2.2.2.2.1
  have hE := C0.2.2.2.2.2.2.2.1
  have hp := f_price_bd (t := td) (j := d) (k := k) hup hdn hdv hfr (by omega) (by omega)
  have hpy := f_pays_bd (k := K c) (hSt c) hp
  have hexb := hEx c
  have hdvb := hdv (td + 1 + d)
  have hg := f_go_lR hup hdn hdv (hSt c) hfr (ki := K c) (am := Am c) (t := td) (r := 8) (d := d) (k := k) (by omega) (by omega)
  refine jj_iload_n C0 3 rfl dX3_numberByWays_0 ?_
  refine jj_if_lt C0 (by omega) dX3_numberByWays_1 (tgt := 10) (by decide) (fun c_1 => absurd c_1 (by omega)) (fun c_1 => ?_)
  refine jj_iload_n C0 3 rfl dX3_numberByWays_4 ?_
  refine jj_bipush C0 dX3_numberByWays_5 (by decide) ?_
  refine jj_icmp_le C0 (by omega) (by omega) dX3_numberByWays_7 (tgt := 12) (by decide) (fun c_2 => ?_) (fun c_2 => absurd c_2 (by omega))
  refine jj_aload_n C0 1 rfl dX3_numberByWays_12 ?_
  refine jj_iload_n C0 2 rfl dX3_numberByWays_13 ?_
  refine jj_callVNi C0 (cc_X0_paysAt  (c := c) (z := (f_price up dn dv td fr d k)) (by first | exact hcn | omega) (by omega) (by first | exact hK | omega) (by first | exact hSt | omega)) ⟨va_cnB 1 hw (lw_gc hU_301 lw_UU) rfl rfl rfl (hE.1 _ hN_663) (hw _ hU_75) (by decide +kernel) ⟨Nat.le_of_ble_eq_true rfl, Nat.le_of_ble_eq_true rfl⟩, hw _ hU_300, hw _ hU_18⟩ (ci := 1) (q0 := (8 + (3 * c + 0))) rfl ((wH_c (c := c) (by omega))) rfl rfl (Nat.le_of_ble_eq_true rfl) ⟨by decide, by decide⟩ rfl rfl dX3_numberByWays_14 ?_
  intro _ hu
  show jj_W _ _ _ _ _ _ _ _ _ _ _ _ _ _ _ _ _ 17 _ [.int (iI (f_pays (K c) (St c) (f_price up dn dv td fr d k)))] (wH ha cA hA nA ed cI cJ cZ td pr up dn dv rw sd mc n mo sh co Ca Cz K St Ex Am Bi As BL AL He Co ++ EE)
  refine jj_istore C0 (lv' := [(4, .int (iI (f_pays (K c) (St c) (f_price up dn dv td fr d k)))), (0, .ref (ha 1)), (1, .ref (cA c)), (2, .int (iI (f_price up dn dv td fr d k))), (3, .int (iI 9))]) (by decide) rfl dX3_numberByWays_17 ?_
  refine jj_iload_n C0 4 rfl dX3_numberByWays_19 ?_
  refine jj_if_ne C0 (by omega) dX3_numberByWays_20 (tgt := 27) (by decide) (fun c_3 => ?_) (fun c_3 => absurd c_3 (by omega))
  refine jj_iload_n C0 3 rfl dX3_numberByWays_27 ?_
  refine jj_aload_n C0 1 rfl dX3_numberByWays_28 ?_
  refine jj_aload_n C0 2 rfl dX3_numberByWays_29 ?_
  refine jj_getN C0 (ci := 1) (v := .int (iI (Ex c))) hin_X0 ((8 + (3 * c + 0))) ((wH_c (c := c) (by omega))) rfl 2 (by decide) (va_Nw.use rfl (hE.1 _ (hN_458))) (fun _ h9 => h9) rfl dX3_numberByWays_30 ?_
  have hb_Ex_47718 := hEx c
  refine jj_iload_n C0 4 rfl dX3_numberByWays_33 ?_
  refine jj_isub C0 dX3_numberByWays_34 ?_
  refine jj_iconst C0 dX3_numberByWays_35 ?_
  refine jj_iadd C0 dX3_numberByWays_36 ?_
  refine jj_topi (b := ((td + 1 + d : Nat) : Int)) (by omega) ?_
  refine jj_callVNi C0 (cc_X2_dividendOn  (d := (td + 1 + d)) (by omega)) ⟨va_cnB 1 hw (lw_gc hU_297 lw_UU) rfl rfl rfl (hE.1 _ hN_418) (hw _ hU_61) (by decide +kernel) ⟨Nat.le_of_ble_eq_true rfl, Nat.le_of_ble_eq_true rfl⟩, hw _ hU_296, hw _ hU_17⟩ (ci := 3) (q0 := 1) rfl (rfl) rfl rfl (Nat.le_of_ble_eq_true rfl) ⟨by decide, by decide⟩ rfl rfl dX3_numberByWays_37 ?_
  intro _ hu
  show jj_W _ _ _ _ _ _ _ _ _ _ _ _ _ _ _ _ _ 40 _ [.int (iI (dv (td + 1 + d))), .int (iI (f_price up dn dv td fr d k))] (wH ha cA hA nA ed cI cJ cZ td pr up dn dv rw sd mc n mo sh co Ca Cz K St Ex Am Bi As BL AL He Co ++ EE)
  refine jj_isub C0 dX3_numberByWays_40 ?_
  refine jj_istore C0 (lv' := [(5, .int (iI ((f_price up dn dv td fr d k) - (dv (td + 1 + d))))), (4, .int (iI (f_pays (K c) (St c) (f_price up dn dv td fr d k)))), (0, .ref (ha 1)), (1, .ref (cA c)), (2, .int (iI (f_price up dn dv td fr d k))), (3, .int (iI 9))]) (by decide) rfl dX3_numberByWays_41 ?_
  refine jj_aload_n C0 2 rfl dX3_numberByWays_43 ?_
  refine jj_getN C0 (ci := 3) (v := .int (iI dn)) hin_X2 (1) (rfl) rfl 4 (by decide) (va_Nw.use rfl (hE.1 _ (hN_101))) (fun _ h9 => h9) rfl dX3_numberByWays_44 ?_
  refine jj_i2l C0 (by omega) dX3_numberByWays_47 ?_
  refine jj_aload_n C0 2 rfl dX3_numberByWays_48 ?_
  refine jj_aload_n C0 3 rfl dX3_numberByWays_49 ?_
  refine jj_iload C0 0 rfl dX3_numberByWays_50 ?_
  refine jj_bipush C0 dX3_numberByWays_52 (by decide) ?_
  refine jj_aload_n C0 2 rfl dX3_numberByWays_54 ?_
  refine jj_getN C0 (ci := 3) (v := .int (iI up)) hin_X2 (1) (rfl) rfl 3 (by decide) (va_Nw.use rfl (hE.1 _ (hN_99))) (fun _ h9 => h9) rfl dX3_numberByWays_55 ?_
  refine jj_imul C0 dX3_numberByWays_58 ?_
  refine jj_iadd C0 dX3_numberByWays_59 ?_
  refine jj_topi (b := (f_price up dn dv td fr (d + 1) (k + 1))) (f_pr_up) ?_
  refine jj_iload_n C0 5 rfl dX3_numberByWays_60 ?_
  refine jj_iconst C0 dX3_numberByWays_61 ?_
  refine jj_isub C0 dX3_numberByWays_62 ?_
  refine jj_topi (b := 8) (by omega) ?_
  refine jj_callSl C0 (cc_nbw_8  (c := c) (d := (d + 1)) (k := (k + 1)) (fr := fr) (by first | exact hdk | omega) (by first | exact hdr | omega) (by first | exact hcn | omega) (by first | exact htd | omega) (by first | exact hfr | omega) (by first | exact hup | omega) (by first | exact hdn | omega) (by first | exact hdv | omega) (by first | exact hK | omega) (by first | exact hSt | omega) (by first | exact hEx | omega) (by first | exact hAm | omega)) (cwS 4 hw (lw_gS hU_737 hU_738 hU_60 hU_739) rfl rfl rfl (by decide +kernel) ⟨Nat.le_of_ble_eq_true rfl, Nat.le_of_ble_eq_true rfl⟩) rfl rfl (Nat.le_of_ble_eq_true rfl) ⟨by decide, by decide⟩ rfl rfl dX3_numberByWays_63 ?_
  intro _ hu
  show jj_W _ _ _ _ _ _ _ _ _ _ _ _ _ _ _ _ _ 66 _ [.long (lI (f_V up dn dv td (K c) (St c) (Am c) fr 8 (d + 1) (k + 1))), .long (lI dn)] (wH ha cA hA nA ed cI cJ cZ td pr up dn dv rw sd mc n mo sh co Ca Cz K St Ex Am Bi As BL AL He Co ++ EE)
  refine jj_lmul C0 dX3_numberByWays_66 ?_
  refine jj_aload_n C0 2 rfl dX3_numberByWays_67 ?_
  refine jj_getN C0 (ci := 3) (v := .int (iI up)) hin_X2 (1) (rfl) rfl 3 (by decide) (va_Nw.use rfl (hE.1 _ (hN_99))) (fun _ h9 => h9) rfl dX3_numberByWays_68 ?_
  refine jj_i2l C0 (by omega) dX3_numberByWays_71 ?_
  refine jj_aload_n C0 2 rfl dX3_numberByWays_72 ?_
  refine jj_aload_n C0 3 rfl dX3_numberByWays_73 ?_
  refine jj_iload C0 0 rfl dX3_numberByWays_74 ?_
  refine jj_bipush C0 dX3_numberByWays_76 (by decide) ?_
  refine jj_aload_n C0 2 rfl dX3_numberByWays_78 ?_
  refine jj_getN C0 (ci := 3) (v := .int (iI dn)) hin_X2 (1) (rfl) rfl 4 (by decide) (va_Nw.use rfl (hE.1 _ (hN_101))) (fun _ h9 => h9) rfl dX3_numberByWays_79 ?_
  refine jj_imul C0 dX3_numberByWays_82 ?_
  refine jj_isub C0 dX3_numberByWays_83 ?_
  refine jj_topi (b := (f_price up dn dv td fr (d + 1) k)) (f_pr_dn) ?_
  refine jj_iload_n C0 5 rfl dX3_numberByWays_84 ?_
  refine jj_iconst C0 dX3_numberByWays_85 ?_
  refine jj_isub C0 dX3_numberByWays_86 ?_
  refine jj_topi (b := 8) (by omega) ?_
  refine jj_callSl C0 (cc_nbw_8  (c := c) (d := (d + 1)) (k := k) (fr := fr) (by first | exact hdk | omega) (by first | exact hdr | omega) (by first | exact hcn | omega) (by first | exact htd | omega) (by first | exact hfr | omega) (by first | exact hup | omega) (by first | exact hdn | omega) (by first | exact hdv | omega) (by first | exact hK | omega) (by first | exact hSt | omega) (by first | exact hEx | omega) (by first | exact hAm | omega)) (cwS 4 hw (lw_gS hU_737 hU_738 hU_60 hU_739) rfl rfl rfl (by decide +kernel) ⟨Nat.le_of_ble_eq_true rfl, Nat.le_of_ble_eq_true rfl⟩) rfl rfl (Nat.le_of_ble_eq_true rfl) ⟨by decide, by decide⟩ rfl rfl dX3_numberByWays_87 ?_
  intro _ hu
  show jj_W _ _ _ _ _ _ _ _ _ _ _ _ _ _ _ _ _ 90 _ [.long (lI (f_V up dn dv td (K c) (St c) (Am c) fr 8 (d + 1) k)), .long (lI up), .long (lI (dn * (f_V up dn dv td (K c) (St c) (Am c) fr 8 (d + 1) (k + 1))))] (wH ha cA hA nA ed cI cJ cZ td pr up dn dv rw sd mc n mo sh co Ca Cz K St Ex Am Bi As BL AL He Co ++ EE)
  refine jj_lmul C0 dX3_numberByWays_90 ?_
  refine jj_ladd C0 dX3_numberByWays_91 ?_
  refine jj_lstore C0 (lv' := [(6, .long (lI ((dn * (f_V up dn dv td (K c) (St c) (Am c) fr 8 (d + 1) (k + 1))) + (up * (f_V up dn dv td (K c) (St c) (Am c) fr 8 (d + 1) k))))), (5, .int (iI ((f_price up dn dv td fr d k) - (dv (td + 1 + d))))), (4, .int (iI (f_pays (K c) (St c) (f_price up dn dv td fr d k)))), (0, .ref (ha 1)), (1, .ref (cA c)), (2, .int (iI (f_price up dn dv td fr d k))), (3, .int (iI 9))]) (by decide) rfl dX3_numberByWays_92 ?_
  refine jj_aload_n C0 4 rfl dX3_numberByWays_94 ?_
  refine jj_getN C0 (ci := 1) (v := .int (iI (Am c))) hin_X0 ((8 + (3 * c + 0))) ((wH_c (c := c) (by omega))) rfl 3 (by decide) (va_Nw.use rfl (hE.1 _ (hN_461))) (fun _ h9 => h9) rfl dX3_numberByWays_95 ?_
  have hb_Am_8303 := hAm c
  refine jj_if_ne C0 (by omega) dX3_numberByWays_98 (tgt := 104) (by decide) (fun c_4 => ?_) (fun c_4 => ?_)
  · refine jj_lload C0 0 rfl dX3_numberByWays_104 ?_
    refine jj_iload C0 2 rfl dX3_numberByWays_106 ?_
    refine jj_i2l C0 (by omega) dX3_numberByWays_108 ?_
    refine jj_aload_n C0 3 rfl dX3_numberByWays_109 ?_
    refine jj_getN C0 (ci := 3) (v := .int (iI up)) hin_X2 (1) (rfl) rfl 3 (by decide) (va_Nw.use rfl (hE.1 _ (hN_99))) (fun _ h9 => h9) rfl dX3_numberByWays_110 ?_
    refine jj_aload_n C0 3 rfl dX3_numberByWays_113 ?_
    refine jj_getN C0 (ci := 3) (v := .int (iI dn)) hin_X2 (1) (rfl) rfl 4 (by decide) (va_Nw.use rfl (hE.1 _ (hN_101))) (fun _ h9 => h9) rfl dX3_numberByWays_114 ?_
    refine jj_iadd C0 dX3_numberByWays_117 ?_
    refine jj_i2l C0 (by omega) dX3_numberByWays_118 ?_
    refine jj_iload_n C0 6 rfl dX3_numberByWays_119 ?_
    refine jj_callSl C0 (cc_X3_power  (b := (up + dn)) (e := (9 : Int)) (by omega)) (cwS 2 hw (lw_gS hU_740 hU_316 hU_60 hU_317) rfl rfl rfl (by decide +kernel) ⟨Nat.le_of_ble_eq_true rfl, Nat.le_of_ble_eq_true rfl⟩) rfl rfl (Nat.le_of_ble_eq_true rfl) ⟨by decide, by decide⟩ rfl rfl dX3_numberByWays_120 ?_
    intro _ hu
    show jj_W _ _ _ _ _ _ _ _ _ _ _ _ _ _ _ _ _ 123 _ [.long (lI ((up + dn) ^ ((9 : Int)).toNat)), .long (lI (f_pays (K c) (St c) (f_price up dn dv td fr d k))), .long (lI ((dn * (f_V up dn dv td (K c) (St c) (Am c) fr 8 (d + 1) (k + 1))) + (up * (f_V up dn dv td (K c) (St c) (Am c) fr 8 (d + 1) k))))] (wH ha cA hA nA ed cI cJ cZ td pr up dn dv rw sd mc n mo sh co Ca Cz K St Ex Am Bi As BL AL He Co ++ EE)
    refine jj_topl (b := ((up + dn) ^ (8 + 1))) (rfl) ?_
    refine jj_lmul C0 dX3_numberByWays_123 ?_
    refine jj_mmaxl C0 (by omega) (by omega) (hw _ hU_741) (List.forall_mem_cons.mpr ⟨hw _ hU_306, List.forall_mem_cons.mpr ⟨hw _ hU_73, List.forall_mem_cons.mpr ⟨hw _ hU_307, fun _ h => absurd h List.not_mem_nil⟩⟩⟩) (by decide) (Nat.le_of_ble_eq_true rfl) ⟨by decide, by decide⟩ dX3_numberByWays_124 ?_
    exact jj_lret C0 hr () (trivial) (by exact f_V_e1 (r := 8) (by omega)) (rfl) (by decide) (by decide) dX3_numberByWays_127
  · refine jj_lload C0 0 rfl dX3_numberByWays_101 ?_
    exact jj_lret C0 hr () (trivial) (by exact f_V_e0 (r := 8) (by omega)) (rfl) (by decide) (by decide) dX3_numberByWays_103
set_option maxHeartbeats 4000000 in
set_option maxRecDepth 100000 in
theorem cc_nbw_10  {c d k : Nat} {fr : Int} (hdk : k ≤ d) (hdr : (td : Int) + (d : Int) + 10 = Ex c ∧ d + 10 ≤ 10) (hcn : c < n) (htd : td ≤ 200) (hfr : -30000 ≤ fr ∧ fr ≤ 30000) (hup : 1 ≤ up ∧ up ≤ 10) (hdn : 1 ≤ dn ∧ dn ≤ 10) (hdv : ∀ j, 0 ≤ dv j ∧ dv j ≤ 1000) (hK : ∀ j, 0 ≤ K j ∧ K j ≤ 1) (hSt : ∀ j, 0 ≤ St j ∧ St j ≤ 20000) (hEx : ∀ j, 0 ≤ Ex j ∧ Ex j ≤ 200) (hAm : ∀ j, 0 ≤ Am j ∧ Am j ≤ 1) : jj_Ml EVh (dC, dI) vwCl [(cI, .int), (cJ, .long), (cZ, .boolean), (cO, .object "java/lang/Object")] l yX3_numberByWays (Cond.code yX3_numberByWays cX3_numberByWays 8 (some .long) :: lw_U) ({ frames := 12, cells := 0, slots := 0, locals := 304 } : Room) [.ref (ha 1), .ref (cA c), .int (iI (f_price up dn dv td fr d k)), .int (iI 10)] (wH ha cA hA nA ed cI cJ cZ td pr up dn dv rw sd mc n mo sh co Ca Cz K St Ex Am Bi As BL AL He Co ++ EE) (S := Unit) (fun _ => (f_V up dn dv td (K c) (St c) (Am c) fr 10 d k)) (fun _ => True) (fun _ => wH ha cA hA nA ed cI cJ cZ td pr up dn dv rw sd mc n mo sh co Ca Cz K St Ex Am Bi As BL AL He Co ++ EE) := by
  refine jj_start (cc := cX3_numberByWays) (nL := 8) (ret := (some .long)) (lv := [(0, .ref (ha 1)), (1, .ref (cA c)), (2, .int (iI (f_price up dn dv td fr d k))), (3, .int (iI 10))]) (fun A => jj_Ql _ _ _ _ _ _ A) hEVh (by decide) rfl (Nat.le_of_ble_eq_true rfl) rfl ?_
  intro p9 e9 s9 m9 a9 b9 me9 c9 A9 C1 hr hin
  have C0 : jj_C p9 s9 m9 a9 me9 c9 (dC, dI) vwCl A9 8 cX3_numberByWays "Strikehall" lw_U _ EVh := jj_toU C1
  have hw := C0.2.2.2.2.1
  have hE := C0.2.2.2.2.2.2.2.1
  have hp := f_price_bd (t := td) (j := d) (k := k) hup hdn hdv hfr (by omega) (by omega)
  have hpy := f_pays_bd (k := K c) (hSt c) hp
  have hexb := hEx c
  have hdvb := hdv (td + 1 + d)
  have hg := f_go_lR hup hdn hdv (hSt c) hfr (ki := K c) (am := Am c) (t := td) (r := 9) (d := d) (k := k) (by omega) (by omega)
  refine jj_iload_n C0 3 rfl dX3_numberByWays_0 ?_
  refine jj_if_lt C0 (by omega) dX3_numberByWays_1 (tgt := 10) (by decide) (fun c_1 => absurd c_1 (by omega)) (fun c_1 => ?_)
  refine jj_iload_n C0 3 rfl dX3_numberByWays_4 ?_
  refine jj_bipush C0 dX3_numberByWays_5 (by decide) ?_
  refine jj_icmp_le C0 (by omega) (by omega) dX3_numberByWays_7 (tgt := 12) (by decide) (fun c_2 => ?_) (fun c_2 => absurd c_2 (by omega))
  refine jj_aload_n C0 1 rfl dX3_numberByWays_12 ?_
  refine jj_iload_n C0 2 rfl dX3_numberByWays_13 ?_
  refine jj_callVNi C0 (cc_X0_paysAt  (c := c) (z := (f_price up dn dv td fr d k)) (by first | exact hcn | omega) (by omega) (by first | exact hK | omega) (by first | exact hSt | omega)) ⟨va_cnB 1 hw (lw_gc hU_301 lw_UU) rfl rfl rfl (hE.1 _ hN_663) (hw _ hU_75) (by decide +kernel) ⟨Nat.le_of_ble_eq_true rfl, Nat.le_of_ble_eq_true rfl⟩, hw _ hU_300, hw _ hU_18⟩ (ci := 1) (q0 := (8 + (3 * c + 0))) rfl ((wH_c (c := c) (by omega))) rfl rfl (Nat.le_of_ble_eq_true rfl) ⟨by decide, by decide⟩ rfl rfl dX3_numberByWays_14 ?_
  intro _ hu
  show jj_W _ _ _ _ _ _ _ _ _ _ _ _ _ _ _ _ _ 17 _ [.int (iI (f_pays (K c) (St c) (f_price up dn dv td fr d k)))] (wH ha cA hA nA ed cI cJ cZ td pr up dn dv rw sd mc n mo sh co Ca Cz K St Ex Am Bi As BL AL He Co ++ EE)
  refine jj_istore C0 (lv' := [(4, .int (iI (f_pays (K c) (St c) (f_price up dn dv td fr d k)))), (0, .ref (ha 1)), (1, .ref (cA c)), (2, .int (iI (f_price up dn dv td fr d k))), (3, .int (iI 10))]) (by decide) rfl dX3_numberByWays_17 ?_
  refine jj_iload_n C0 4 rfl dX3_numberByWays_19 ?_
  refine jj_if_ne C0 (by omega) dX3_numberByWays_20 (tgt := 27) (by decide) (fun c_3 => ?_) (fun c_3 => absurd c_3 (by omega))
  refine jj_iload_n C0 3 rfl dX3_numberByWays_27 ?_
  refine jj_aload_n C0 1 rfl dX3_numberByWays_28 ?_
  refine jj_aload_n C0 2 rfl dX3_numberByWays_29 ?_
  refine jj_getN C0 (ci := 1) (v := .int (iI (Ex c))) hin_X0 ((8 + (3 * c + 0))) ((wH_c (c := c) (by omega))) rfl 2 (by decide) (va_Nw.use rfl (hE.1 _ (hN_458))) (fun _ h9 => h9) rfl dX3_numberByWays_30 ?_
  have hb_Ex_47718 := hEx c
  refine jj_iload_n C0 4 rfl dX3_numberByWays_33 ?_
  refine jj_isub C0 dX3_numberByWays_34 ?_
  refine jj_iconst C0 dX3_numberByWays_35 ?_
  refine jj_iadd C0 dX3_numberByWays_36 ?_
  refine jj_topi (b := ((td + 1 + d : Nat) : Int)) (by omega) ?_
  refine jj_callVNi C0 (cc_X2_dividendOn  (d := (td + 1 + d)) (by omega)) ⟨va_cnB 1 hw (lw_gc hU_297 lw_UU) rfl rfl rfl (hE.1 _ hN_418) (hw _ hU_61) (by decide +kernel) ⟨Nat.le_of_ble_eq_true rfl, Nat.le_of_ble_eq_true rfl⟩, hw _ hU_296, hw _ hU_17⟩ (ci := 3) (q0 := 1) rfl (rfl) rfl rfl (Nat.le_of_ble_eq_true rfl) ⟨by decide, by decide⟩ rfl rfl dX3_numberByWays_37 ?_
  intro _ hu
  show jj_W _ _ _ _ _ _ _ _ _ _ _ _ _ _ _ _ _ 40 _ [.int (iI (dv (td + 1 + d))), .int (iI (f_price up dn dv td fr d k))] (wH ha cA hA nA ed cI cJ cZ td pr up dn dv rw sd mc n mo sh co Ca Cz K St Ex Am Bi As BL AL He Co ++ EE)
  refine jj_isub C0 dX3_numberByWays_40 ?_
  refine jj_istore C0 (lv' := [(5, .int (iI ((f_price up dn dv td fr d k) - (dv (td + 1 + d))))), (4, .int (iI (f_pays (K c) (St c) (f_price up dn dv td fr d k)))), (0, .ref (ha 1)), (1, .ref (cA c)), (2, .int (iI (f_price up dn dv td fr d k))), (3, .int (iI 10))]) (by decide) rfl dX3_numberByWays_41 ?_
  refine jj_aload_n C0 2 rfl dX3_numberByWays_43 ?_
  refine jj_getN C0 (ci := 3) (v := .int (iI dn)) hin_X2 (1) (rfl) rfl 4 (by decide) (va_Nw.use rfl (hE.1 _ (hN_101))) (fun _ h9 => h9) rfl dX3_numberByWays_44 ?_
  refine jj_i2l C0 (by omega) dX3_numberByWays_47 ?_
  refine jj_aload_n C0 2 rfl dX3_numberByWays_48 ?_
  refine jj_aload_n C0 3 rfl dX3_numberByWays_49 ?_
  refine jj_iload C0 0 rfl dX3_numberByWays_50 ?_
  refine jj_bipush C0 dX3_numberByWays_52 (by decide) ?_
  refine jj_aload_n C0 2 rfl dX3_numberByWays_54 ?_
  refine jj_getN C0 (ci := 3) (v := .int (iI up)) hin_X2 (1) (rfl) rfl 3 (by decide) (va_Nw.use rfl (hE.1 _ (hN_99))) (fun _ h9 => h9) rfl dX3_numberByWays_55 ?_
  refine jj_imul C0 dX3_numberByWays_58 ?_
  refine jj_iadd C0 dX3_numberByWays_59 ?_
  refine jj_topi (b := (f_price up dn dv td fr (d + 1) (k + 1))) (f_pr_up) ?_
  refine jj_iload_n C0 5 rfl dX3_numberByWays_60 ?_
  refine jj_iconst C0 dX3_numberByWays_61 ?_
  refine jj_isub C0 dX3_numberByWays_62 ?_
  refine jj_topi (b := 9) (by omega) ?_
  refine jj_callSl C0 (cc_nbw_9  (c := c) (d := (d + 1)) (k := (k + 1)) (fr := fr) (by first | exact hdk | omega) (by first | exact hdr | omega) (by first | exact hcn | omega) (by first | exact htd | omega) (by first | exact hfr | omega) (by first | exact hup | omega) (by first | exact hdn | omega) (by first | exact hdv | omega) (by first | exact hK | omega) (by first | exact hSt | omega) (by first | exact hEx | omega) (by first | exact hAm | omega)) (cwS 4 hw (lw_gS hU_737 hU_738 hU_60 hU_739) rfl rfl rfl (by decide +kernel) ⟨Nat.le_of_ble_eq_true rfl, Nat.le_of_ble_eq_true rfl⟩) rfl rfl (Nat.le_of_ble_eq_true rfl) ⟨by decide, by decide⟩ rfl rfl dX3_numberByWays_63 ?_
  intro _ hu
  show jj_W _ _ _ _ _ _ _ _ _ _ _ _ _ _ _ _ _ 66 _ [.long (lI (f_V up dn dv td (K c) (St c) (Am c) fr 9 (d + 1) (k + 1))), .long (lI dn)] (wH ha cA hA nA ed cI cJ cZ td pr up dn dv rw sd mc n mo sh co Ca Cz K St Ex Am Bi As BL AL He Co ++ EE)
  refine jj_lmul C0 dX3_numberByWays_66 ?_
  refine jj_aload_n C0 2 rfl dX3_numberByWays_67 ?_
  refine jj_getN C0 (ci := 3) (v := .int (iI up)) hin_X2 (1) (rfl) rfl 3 (by decide) (va_Nw.use rfl (hE.1 _ (hN_99))) (fun _ h9 => h9) rfl dX3_numberByWays_68 ?_
  refine jj_i2l C0 (by omega) dX3_numberByWays_71 ?_
  refine jj_aload_n C0 2 rfl dX3_numberByWays_72 ?_
  refine jj_aload_n C0 3 rfl dX3_numberByWays_73 ?_
  refine jj_iload C0 0 rfl dX3_numberByWays_74 ?_
  refine jj_bipush C0 dX3_numberByWays_76 (by decide) ?_
  refine jj_aload_n C0 2 rfl dX3_numberByWays_78 ?_
  refine jj_getN C0 (ci := 3) (v := .int (iI dn)) hin_X2 (1) (rfl) rfl 4 (by decide) (va_Nw.use rfl (hE.1 _ (hN_101))) (fun _ h9 => h9) rfl dX3_numberByWays_79 ?_
  refine jj_imul C0 dX3_numberByWays_82 ?_
  refine jj_isub C0 dX3_numberByWays_83 ?_
  refine jj_topi (b := (f_price up dn dv td fr (d + 1) k)) (f_pr_dn) ?_
  refine jj_iload_n C0 5 rfl dX3_numberByWays_84 ?_
  refine jj_iconst C0 dX3_numberByWays_85 ?_
  refine jj_isub C0 dX3_numberByWays_86 ?_
  refine jj_topi (b := 9) (by omega) ?_
  refine jj_callSl C0 (cc_nbw_9  (c := c) (d := (d + 1)) (k := k) (fr := fr) (by first | exact hdk | omega) (by first | exact hdr | omega) (by first | exact hcn | omega) (by first | exact htd | omega) (by first | exact hfr | omega) (by first | exact hup | omega) (by first | exact hdn | omega) (by first | exact hdv | omega) (by first | exact hK | omega) (by first | exact hSt | omega) (by first | exact hEx | omega) (by first | exact hAm | omega)) (cwS 4 hw (lw_gS hU_737 hU_738 hU_60 hU_739) rfl rfl rfl (by decide +kernel) ⟨Nat.le_of_ble_eq_true rfl, Nat.le_of_ble_eq_true rfl⟩) rfl rfl (Nat.le_of_ble_eq_true rfl) ⟨by decide, by decide⟩ rfl rfl dX3_numberByWays_87 ?_
  intro _ hu
  show jj_W _ _ _ _ _ _ _ _ _ _ _ _ _ _ _ _ _ 90 _ [.long (lI (f_V up dn dv td (K c) (St c) (Am c) fr 9 (d + 1) k)), .long (lI up), .long (lI (dn * (f_V up dn dv td (K c) (St c) (Am c) fr 9 (d + 1) (k + 1))))] (wH ha cA hA nA ed cI cJ cZ td pr up dn dv rw sd mc n mo sh co Ca Cz K St Ex Am Bi As BL AL He Co ++ EE)
  refine jj_lmul C0 dX3_numberByWays_90 ?_
  refine jj_ladd C0 dX3_numberByWays_91 ?_
  refine jj_lstore C0 (lv' := [(6, .long (lI ((dn * (f_V up dn dv td (K c) (St c) (Am c) fr 9 (d + 1) (k + 1))) + (up * (f_V up dn dv td (K c) (St c) (Am c) fr 9 (d + 1) k))))), (5, .int (iI ((f_price up dn dv td fr d k) - (dv (td + 1 + d))))), (4, .int (iI (f_pays (K c) (St c) (f_price up dn dv td fr d k)))), (0, .ref (ha 1)), (1, .ref (cA c)), (2, .int (iI (f_price up dn dv td fr d k))), (3, .int (iI 10))]) (by decide) rfl dX3_numberByWays_92 ?_
  refine jj_aload_n C0 4 rfl dX3_numberByWays_94 ?_
  refine jj_getN C0 (ci := 1) (v := .int (iI (Am c))) hin_X0 ((8 + (3 * c + 0))) ((wH_c (c := c) (by omega))) rfl 3 (by decide) (va_Nw.use rfl (hE.1 _ (hN_461))) (fun _ h9 => h9) rfl dX3_numberByWays_95 ?_
  have hb_Am_8303 := hAm c
  refine jj_if_ne C0 (by omega) dX3_numberByWays_98 (tgt := 104) (by decide) (fun c_4 => ?_) (fun c_4 => ?_)
  · refine jj_lload C0 0 rfl dX3_numberByWays_104 ?_
    refine jj_iload C0 2 rfl dX3_numberByWays_106 ?_
    refine jj_i2l C0 (by omega) dX3_numberByWays_108 ?_
    refine jj_aload_n C0 3 rfl dX3_numberByWays_109 ?_
    refine jj_getN C0 (ci := 3) (v := .int (iI up)) hin_X2 (1) (rfl) rfl 3 (by decide) (va_Nw.use rfl (hE.1 _ (hN_99))) (fun _ h9 => h9) rfl dX3_numberByWays_110 ?_
    refine jj_aload_n C0 3 rfl dX3_numberByWays_113 ?_
    refine jj_getN C0 (ci := 3) (v := .int (iI dn)) hin_X2 (1) (rfl) rfl 4 (by decide) (va_Nw.use rfl (hE.1 _ (hN_101))) (fun _ h9 => h9) rfl dX3_numberByWays_114 ?_
    refine jj_iadd C0 dX3_numberByWays_117 ?_
    refine jj_i2l C0 (by omega) dX3_numberByWays_118 ?_
    refine jj_iload_n C0 6 rfl dX3_numberByWays_119 ?_
    refine jj_callSl C0 (cc_X3_power  (b := (up + dn)) (e := (10 : Int)) (by omega)) (cwS 2 hw (lw_gS hU_740 hU_316 hU_60 hU_317) rfl rfl rfl (by decide +kernel) ⟨Nat.le_of_ble_eq_true rfl, Nat.le_of_ble_eq_true rfl⟩) rfl rfl (Nat.le_of_ble_eq_true rfl) ⟨by decide, by decide⟩ rfl rfl dX3_numberByWays_120 ?_
    intro _ hu
    show jj_W _ _ _ _ _ _ _ _ _ _ _ _ _ _ _ _ _ 123 _ [.long (lI ((up + dn) ^ ((10 : Int)).toNat)), .long (lI (f_pays (K c) (St c) (f_price up dn dv td fr d k))), .long (lI ((dn * (f_V up dn dv td (K c) (St c) (Am c) fr 9 (d + 1) (k + 1))) + (up * (f_V up dn dv td (K c) (St c) (Am c) fr 9 (d + 1) k))))] (wH ha cA hA nA ed cI cJ cZ td pr up dn dv rw sd mc n mo sh co Ca Cz K St Ex Am Bi As BL AL He Co ++ EE)
    refine jj_topl (b := ((up + dn) ^ (9 + 1))) (rfl) ?_
    refine jj_lmul C0 dX3_numberByWays_123 ?_
    refine jj_mmaxl C0 (by omega) (by omega) (hw _ hU_741) (List.forall_mem_cons.mpr ⟨hw _ hU_306, List.forall_mem_cons.mpr ⟨hw _ hU_73, List.forall_mem_cons.mpr ⟨hw _ hU_307, fun _ h => absurd h List.not_mem_nil⟩⟩⟩) (by decide) (Nat.le_of_ble_eq_true rfl) ⟨by decide, by decide⟩ dX3_numberByWays_124 ?_
    exact jj_lret C0 hr () (trivial) (by exact f_V_e1 (r := 9) (by omega)) (rfl) (by decide) (by decide) dX3_numberByWays_127
  · refine jj_lload C0 0 rfl dX3_numberByWays_101 ?_
    exact jj_lret C0 hr () (trivial) (by exact f_V_e0 (r := 9) (by omega)) (rfl) (by decide) (by decide) dX3_numberByWays_103
set_option maxHeartbeats 4000000 in
set_option maxRecDepth 100000 in
theorem cc_nbw_n  {c : Nat} {fr e : Int} (he : -100000 ≤ e ∧ e < 0) (hcn : c < n) : jj_Ml EVh (dC, dI) vwCl [(cI, .int), (cJ, .long), (cZ, .boolean), (cO, .object "java/lang/Object")] l yX3_numberByWays (Cond.code yX3_numberByWays cX3_numberByWays 8 (some .long) :: lw_U) ({ frames := 0, cells := 0, slots := 0, locals := 0 } : Room) [.ref (ha 1), .ref (cA c), .int (iI fr), .int (iI e)] (wH ha cA hA nA ed cI cJ cZ td pr up dn dv rw sd mc n mo sh co Ca Cz K St Ex Am Bi As BL AL He Co ++ EE) (S := Unit) (fun _ => 0) (fun _ => True) (fun _ => wH ha cA hA nA ed cI cJ cZ td pr up dn dv rw sd mc n mo sh co Ca Cz K St Ex Am Bi As BL AL He Co ++ EE) := by
  refine jj_start (cc := cX3_numberByWays) (nL := 8) (ret := (some .long)) (lv := [(0, .ref (ha 1)), (1, .ref (cA c)), (2, .int (iI fr)), (3, .int (iI e))]) (fun A => jj_Ql _ _ _ _ _ _ A) hEVh (by decide) rfl (Nat.le_of_ble_eq_true rfl) rfl ?_
  intro p9 e9 s9 m9 a9 b9 me9 c9 A9 C1 hr hin
  have C0 : jj_C p9 s9 m9 a9 me9 c9 (dC, dI) vwCl A9 8 cX3_numberByWays "Strikehall" lw_U _ EVh := jj_toU C1
  have hw := C0.2.2.2.2.1
  have hE := C0.2.2.2.2.2.2.2.1
  refine jj_iload_n C0 3 rfl dX3_numberByWays_0 ?_
  refine jj_if_lt C0 (by omega) dX3_numberByWays_1 (tgt := 10) (by decide) (fun c_1 => ?_) (fun c_1 => absurd c_1 (by omega))
  refine jj_lconst C0 (z := 0) (by decide) dX3_numberByWays_10 ?_
  exact jj_lret C0 hr () (trivial) (rfl) (rfl) (by decide) (by decide) dX3_numberByWays_11
set_option maxHeartbeats 4000000 in
set_option maxRecDepth 100000 in
theorem cc_X3_markByWays  {c : Nat} (hcn : c < n) (hpr : 0 ≤ pr ∧ pr ≤ 20000) (hexs : ∀ c, c < n → Ex c ≤ (td : Int) + 10) (hn : n ≤ 12) (htd : td ≤ 200) (hup : 1 ≤ up ∧ up ≤ 10) (hdn : 1 ≤ dn ∧ dn ≤ 10) (hdv : ∀ j, 0 ≤ dv j ∧ dv j ≤ 1000) (hK : ∀ j, 0 ≤ K j ∧ K j ≤ 1) (hSt : ∀ j, 0 ≤ St j ∧ St j ≤ 20000) (hEx : ∀ j, 0 ≤ Ex j ∧ Ex j ≤ 200) (hAm : ∀ j, 0 ≤ Am j ∧ Am j ≤ 1) (hED : 0 < n → f_ED cA n ed cO EE) : jj_Mi EVh (dC, dI) vwCl [(cI, .int), (cJ, .long), (cZ, .boolean), (cO, .object "java/lang/Object")] l yX3_markByWays (Cond.code yX3_markByWays cX3_markByWays 5 (some .int) :: lw_U) ({ frames := 13, cells := 0, slots := 0, locals := 331 } : Room) [.ref (ha 0), .int (iI (c : Int))] (wH ha cA hA nA ed cI cJ cZ td pr up dn dv rw sd mc n mo sh co Ca Cz K St Ex Am Bi As BL AL He Co ++ EE) (S := Unit) (fun _ => (f_mark up dn dv td (K c) (St c) (Ex c) (Am c) pr)) (fun _ => True) (fun _ => wH ha cA hA nA ed cI cJ cZ td pr up dn dv rw sd mc n mo sh co Ca Cz K St Ex Am Bi As BL AL He Co ++ EE) := by
  refine jj_start (cc := cX3_markByWays) (nL := 5) (ret := (some .int)) (lv := [(0, .ref (ha 0)), (1, .int (iI (c : Int)))]) (fun A => jj_Qi _ _ _ _ _ _ A) hEVh (by decide) rfl (Nat.le_of_ble_eq_true rfl) rfl ?_
  intro p9 e9 s9 m9 a9 b9 me9 c9 A9 C1 hr hin
  have C0 : jj_C p9 s9 m9 a9 me9 c9 (dC, dI) vwCl A9 5 cX3_markByWays "Strikehall" lw_U _ EVh := jj_toU C1
  have hw := C0.2.2.2.2.1
  have hE := C0.2.2.2.2.2.2.2.1
  have hex := hexs c hcn
  have hfr : -30000 ≤ pr ∧ pr ≤ 30000 := by omega
  have hnb := f_num_bd (ki := K c) (am := Am c) hup hdn hdv (hSt c) hfr hex
  have hexb := hEx c
  refine jj_aload_n C0 0 rfl dX3_markByWays_0 ?_
  refine jj_iload_n C0 1 rfl dX3_markByWays_1 ?_
  refine jj_callVr C0 (cc_X3_contractOf  (c := c) (by first | exact hcn | omega) (by first | exact hn | omega) (by first | exact hED | omega)) (cwV 1 hw (lw_gV hU_554 hU_556 hU_26 hU_60 hU_557) rfl rfl rfl (by decide +kernel) ⟨Nat.le_of_ble_eq_true rfl, Nat.le_of_ble_eq_true rfl⟩) (ci := 4) (q0 := 0) rfl (rfl) rfl rfl (Nat.le_of_ble_eq_true rfl) ⟨by decide, by decide⟩ rfl rfl dX3_markByWays_2 ?_
  intro _ hu
  show jj_W _ _ _ _ _ _ _ _ _ _ _ _ _ _ _ _ _ 5 _ [.ref (cA c)] (wH ha cA hA nA ed cI cJ cZ td pr up dn dv rw sd mc n mo sh co Ca Cz K St Ex Am Bi As BL AL He Co ++ EE)
  refine jj_astore_n C0 (i := 2) rfl (lv' := [(2, .ref (cA c)), (0, .ref (ha 0)), (1, .int (iI (c : Int)))]) (by decide) rfl dX3_markByWays_5 ?_
  refine jj_aload_n C0 1 rfl dX3_markByWays_6 ?_
  refine jj_get C0 (ci := 4) (v := .ref (ha 1)) hin_X3 (0) (rfl) rfl 0 (by decide) (hw _ hU_156) (fun _ h9 => h9) rfl dX3_markByWays_7 ?_
  refine jj_aload_n C0 0 rfl dX3_markByWays_10 ?_
  refine jj_aload_n C0 1 rfl dX3_markByWays_11 ?_
  refine jj_get C0 (ci := 4) (v := .ref (ha 1)) hin_X3 (0) (rfl) rfl 0 (by decide) (hw _ hU_156) (fun _ h9 => h9) rfl dX3_markByWays_12 ?_
  refine jj_getN C0 (ci := 3) (v := .int (iI pr)) hin_X2 (1) (rfl) rfl 2 (by decide) (va_Nw.use rfl (hE.1 _ (hN_97))) (fun _ h9 => h9) rfl dX3_markByWays_15 ?_
  refine jj_aload_n C0 0 rfl dX3_markByWays_18 ?_
  refine jj_getN C0 (ci := 1) (v := .int (iI (Ex c))) hin_X0 ((8 + (3 * c + 0))) ((wH_c (c := c) (by omega))) rfl 2 (by decide) (va_Nw.use rfl (hE.1 _ (hN_458))) (fun _ h9 => h9) rfl dX3_markByWays_19 ?_
  have hb_Ex_47718 := hEx c
  refine jj_aload_n C0 1 rfl dX3_markByWays_22 ?_
  refine jj_get C0 (ci := 4) (v := .ref (ha 1)) hin_X3 (0) (rfl) rfl 0 (by decide) (hw _ hU_156) (fun _ h9 => h9) rfl dX3_markByWays_23 ?_
  refine jj_getN C0 (ci := 3) (v := .int (iI (td : Int))) hin_X2 (1) (rfl) rfl 5 (by decide) (va_Nw.use rfl (hE.1 _ (hN_103))) (fun _ h9 => h9) rfl dX3_markByWays_26 ?_
  refine jj_isub C0 dX3_markByWays_29 ?_
  by_cases hN : Ex c < (td : Int)
  · have hn0 : f_num up dn dv td (K c) (St c) (Ex c) (Am c) pr = 0 := by unfold f_num; rw [if_pos hN]
    refine jj_callSl C0 (cc_nbw_n  (c := c) (fr := pr) (e := ((Ex c) - (td : Int))) (by omega) (by first | exact hcn | omega)) (cwS 4 hw (lw_gS hU_737 hU_738 hU_60 hU_739) rfl rfl rfl (by decide +kernel) ⟨Nat.le_of_ble_eq_true rfl, Nat.le_of_ble_eq_true rfl⟩) rfl rfl (Nat.le_of_ble_eq_true rfl) ⟨by decide, by decide⟩ rfl rfl dX3_markByWays_30 ?_
    intro _ hu
    show jj_W _ _ _ _ _ _ _ _ _ _ _ _ _ _ _ _ _ 33 _ [.long (lI 0)] (wH ha cA hA nA ed cI cJ cZ td pr up dn dv rw sd mc n mo sh co Ca Cz K St Ex Am Bi As BL AL He Co ++ EE)
    refine jj_topl (b := (f_num up dn dv td (K c) (St c) (Ex c) (Am c) pr)) (hn0.symm) ?_
    refine jj_lstore_n C0 (i := 3) rfl (lv' := [(3, .long (lI (f_num up dn dv td (K c) (St c) (Ex c) (Am c) pr))), (2, .ref (cA c)), (0, .ref (ha 0)), (1, .int (iI (c : Int)))]) (by decide) rfl dX3_markByWays_33 ?_
    refine jj_lload_n C0 0 rfl dX3_markByWays_34 ?_
    refine jj_aload_n C0 2 rfl dX3_markByWays_35 ?_
    refine jj_get C0 (ci := 4) (v := .ref (ha 1)) hin_X3 (0) (rfl) rfl 0 (by decide) (hw _ hU_156) (fun _ h9 => h9) rfl dX3_markByWays_36 ?_
    refine jj_aload_n C0 1 rfl dX3_markByWays_39 ?_
    refine jj_callVNl C0 (cc_X2_belowOf  (c := c) (by first | exact hex | omega) (by first | exact hcn | omega) (by first | exact hup | omega) (by first | exact hdn | omega) (by first | exact htd | omega) (by first | exact hEx | omega)) ⟨va_cnB 1 hw (lw_gc hU_311 lw_UU) rfl rfl rfl (hE.1 _ hN_719) (hw _ hU_61) (by decide +kernel) ⟨Nat.le_of_ble_eq_true rfl, Nat.le_of_ble_eq_true rfl⟩, hw _ hU_310, hw _ hU_19⟩ (ci := 3) (q0 := 1) rfl (rfl) rfl rfl (Nat.le_of_ble_eq_true rfl) ⟨by decide, by decide⟩ rfl rfl dX3_markByWays_40 ?_
    intro _ hu
    show jj_W _ _ _ _ _ _ _ _ _ _ _ _ _ _ _ _ _ 43 _ [.long (lI (f_den up dn td (Ex c))), .long (lI (f_num up dn dv td (K c) (St c) (Ex c) (Am c) pr))] (wH ha cA hA nA ed cI cJ cZ td pr up dn dv rw sd mc n mo sh co Ca Cz K St Ex Am Bi As BL AL He Co ++ EE)
    refine jj_callSi C0 (cc_X3_thousandTimes  (v := (f_num up dn dv td (K c) (St c) (Ex c) (Am c) pr)) (w := (f_den up dn td (Ex c))) (by omega) (by omega)) (cwS 2 hw (lw_gS hU_742 hU_319 hU_60 hU_320) rfl rfl rfl (by decide +kernel) ⟨Nat.le_of_ble_eq_true rfl, Nat.le_of_ble_eq_true rfl⟩) rfl rfl (Nat.le_of_ble_eq_true rfl) ⟨by decide, by decide⟩ rfl rfl dX3_markByWays_43 ?_
    intro _ hu
    show jj_W _ _ _ _ _ _ _ _ _ _ _ _ _ _ _ _ _ 46 _ [.int (iI (f_mk (f_num up dn dv td (K c) (St c) (Ex c) (Am c) pr) (f_den up dn td (Ex c))))] (wH ha cA hA nA ed cI cJ cZ td pr up dn dv rw sd mc n mo sh co Ca Cz K St Ex Am Bi As BL AL He Co ++ EE)
    exact jj_iret C0 hr () (trivial) (rfl) (rfl) (by decide) (by decide) dX3_markByWays_46
  obtain ⟨N, hNe⟩ : ∃ N : Nat, (N : Int) = Ex c - (td : Int) := ⟨(Ex c - (td : Int)).toNat, by omega⟩
  rcases (by omega : N = 0 ∨ N = 1 ∨ N = 2 ∨ N = 3 ∨ N = 4 ∨ N = 5 ∨ N = 6 ∨ N = 7 ∨ N = 8 ∨ N = 9 ∨ N = 10) with rfl | rfl | rfl | rfl | rfl | rfl | rfl | rfl | rfl | rfl | rfl
  · have hn0 : f_num up dn dv td (K c) (St c) (Ex c) (Am c) pr = f_V up dn dv td (K c) (St c) (Am c) pr 0 0 0 := by unfold f_num; rw [if_neg hN, ← hNe]; rfl
    refine jj_topi (b := 0) (by omega) ?_
    refine jj_ti2 (b := (f_price up dn dv td pr 0 0)) (f_price_00 _ _ _ _ _).symm ?_
    refine jj_callSl C0 (cc_nbw_0  (c := c) (d := 0) (k := 0) (fr := pr) (Nat.le_refl 0) (by omega) (by first | exact hcn | omega) (by first | exact htd | omega) hfr (by first | exact hup | omega) (by first | exact hdn | omega) (by first | exact hdv | omega) (by first | exact hK | omega) (by first | exact hSt | omega) (by first | exact hEx | omega) (by first | exact hAm | omega)) (cwS 4 hw (lw_gS hU_737 hU_738 hU_60 hU_739) rfl rfl rfl (by decide +kernel) ⟨Nat.le_of_ble_eq_true rfl, Nat.le_of_ble_eq_true rfl⟩) rfl rfl (Nat.le_of_ble_eq_true rfl) ⟨by decide, by decide⟩ rfl rfl dX3_markByWays_30 ?_
    intro _ hu
    show jj_W _ _ _ _ _ _ _ _ _ _ _ _ _ _ _ _ _ 33 _ [.long (lI (f_V up dn dv td (K c) (St c) (Am c) pr 0 0 0))] (wH ha cA hA nA ed cI cJ cZ td pr up dn dv rw sd mc n mo sh co Ca Cz K St Ex Am Bi As BL AL He Co ++ EE)
    refine jj_topl (b := (f_num up dn dv td (K c) (St c) (Ex c) (Am c) pr)) (hn0.symm) ?_
    refine jj_lstore_n C0 (i := 3) rfl (lv' := [(3, .long (lI (f_num up dn dv td (K c) (St c) (Ex c) (Am c) pr))), (2, .ref (cA c)), (0, .ref (ha 0)), (1, .int (iI (c : Int)))]) (by decide) rfl dX3_markByWays_33 ?_
    refine jj_lload_n C0 0 rfl dX3_markByWays_34 ?_
    refine jj_aload_n C0 2 rfl dX3_markByWays_35 ?_
    refine jj_get C0 (ci := 4) (v := .ref (ha 1)) hin_X3 (0) (rfl) rfl 0 (by decide) (hw _ hU_156) (fun _ h9 => h9) rfl dX3_markByWays_36 ?_
    refine jj_aload_n C0 1 rfl dX3_markByWays_39 ?_
    refine jj_callVNl C0 (cc_X2_belowOf  (c := c) (by first | exact hex | omega) (by first | exact hcn | omega) (by first | exact hup | omega) (by first | exact hdn | omega) (by first | exact htd | omega) (by first | exact hEx | omega)) ⟨va_cnB 1 hw (lw_gc hU_311 lw_UU) rfl rfl rfl (hE.1 _ hN_719) (hw _ hU_61) (by decide +kernel) ⟨Nat.le_of_ble_eq_true rfl, Nat.le_of_ble_eq_true rfl⟩, hw _ hU_310, hw _ hU_19⟩ (ci := 3) (q0 := 1) rfl (rfl) rfl rfl (Nat.le_of_ble_eq_true rfl) ⟨by decide, by decide⟩ rfl rfl dX3_markByWays_40 ?_
    intro _ hu
    show jj_W _ _ _ _ _ _ _ _ _ _ _ _ _ _ _ _ _ 43 _ [.long (lI (f_den up dn td (Ex c))), .long (lI (f_num up dn dv td (K c) (St c) (Ex c) (Am c) pr))] (wH ha cA hA nA ed cI cJ cZ td pr up dn dv rw sd mc n mo sh co Ca Cz K St Ex Am Bi As BL AL He Co ++ EE)
    refine jj_callSi C0 (cc_X3_thousandTimes  (v := (f_num up dn dv td (K c) (St c) (Ex c) (Am c) pr)) (w := (f_den up dn td (Ex c))) (by omega) (by omega)) (cwS 2 hw (lw_gS hU_742 hU_319 hU_60 hU_320) rfl rfl rfl (by decide +kernel) ⟨Nat.le_of_ble_eq_true rfl, Nat.le_of_ble_eq_true rfl⟩) rfl rfl (Nat.le_of_ble_eq_true rfl) ⟨by decide, by decide⟩ rfl rfl dX3_markByWays_43 ?_
    intro _ hu
    show jj_W _ _ _ _ _ _ _ _ _ _ _ _ _ _ _ _ _ 46 _ [.int (iI (f_mk (f_num up dn dv td (K c) (St c) (Ex c) (Am c) pr) (f_den up dn td (Ex c))))] (wH ha cA hA nA ed cI cJ cZ td pr up dn dv rw sd mc n mo sh co Ca Cz K St Ex Am Bi As BL AL He Co ++ EE)
    exact jj_iret C0 hr () (trivial) (rfl) (rfl) (by decide) (by decide) dX3_markByWays_46
  · have hn0 : f_num up dn dv td (K c) (St c) (Ex c) (Am c) pr = f_V up dn dv td (K c) (St c) (Am c) pr 1 0 0 := by unfold f_num; rw [if_neg hN, ← hNe]; rfl
    refine jj_topi (b := 1) (by omega) ?_
    refine jj_ti2 (b := (f_price up dn dv td pr 0 0)) (f_price_00 _ _ _ _ _).symm ?_
    refine jj_callSl C0 (cc_nbw_1  (c := c) (d := 0) (k := 0) (fr := pr) (Nat.le_refl 0) (by omega) (by first | exact hcn | omega) (by first | exact htd | omega) hfr (by first | exact hup | omega) (by first | exact hdn | omega) (by first | exact hdv | omega) (by first | exact hK | omega) (by first | exact hSt | omega) (by first | exact hEx | omega) (by first | exact hAm | omega)) (cwS 4 hw (lw_gS hU_737 hU_738 hU_60 hU_739) rfl rfl rfl (by decide +kernel) ⟨Nat.le_of_ble_eq_true rfl, Nat.le_of_ble_eq_true rfl⟩) rfl rfl (Nat.le_of_ble_eq_true rfl) ⟨by decide, by decide⟩ rfl rfl dX3_markByWays_30 ?_
    intro _ hu
    show jj_W _ _ _ _ _ _ _ _ _ _ _ _ _ _ _ _ _ 33 _ [.long (lI (f_V up dn dv td (K c) (St c) (Am c) pr 1 0 0))] (wH ha cA hA nA ed cI cJ cZ td pr up dn dv rw sd mc n mo sh co Ca Cz K St Ex Am Bi As BL AL He Co ++ EE)
    refine jj_topl (b := (f_num up dn dv td (K c) (St c) (Ex c) (Am c) pr)) (hn0.symm) ?_
    refine jj_lstore_n C0 (i := 3) rfl (lv' := [(3, .long (lI (f_num up dn dv td (K c) (St c) (Ex c) (Am c) pr))), (2, .ref (cA c)), (0, .ref (ha 0)), (1, .int (iI (c : Int)))]) (by decide) rfl dX3_markByWays_33 ?_
    refine jj_lload_n C0 0 rfl dX3_markByWays_34 ?_
    refine jj_aload_n C0 2 rfl dX3_markByWays_35 ?_
    refine jj_get C0 (ci := 4) (v := .ref (ha 1)) hin_X3 (0) (rfl) rfl 0 (by decide) (hw _ hU_156) (fun _ h9 => h9) rfl dX3_markByWays_36 ?_
    refine jj_aload_n C0 1 rfl dX3_markByWays_39 ?_
    refine jj_callVNl C0 (cc_X2_belowOf  (c := c) (by first | exact hex | omega) (by first | exact hcn | omega) (by first | exact hup | omega) (by first | exact hdn | omega) (by first | exact htd | omega) (by first | exact hEx | omega)) ⟨va_cnB 1 hw (lw_gc hU_311 lw_UU) rfl rfl rfl (hE.1 _ hN_719) (hw _ hU_61) (by decide +kernel) ⟨Nat.le_of_ble_eq_true rfl, Nat.le_of_ble_eq_true rfl⟩, hw _ hU_310, hw _ hU_19⟩ (ci := 3) (q0 := 1) rfl (rfl) rfl rfl (Nat.le_of_ble_eq_true rfl) ⟨by decide, by decide⟩ rfl rfl dX3_markByWays_40 ?_
    intro _ hu
    show jj_W _ _ _ _ _ _ _ _ _ _ _ _ _ _ _ _ _ 43 _ [.long (lI (f_den up dn td (Ex c))), .long (lI (f_num up dn dv td (K c) (St c) (Ex c) (Am c) pr))] (wH ha cA hA nA ed cI cJ cZ td pr up dn dv rw sd mc n mo sh co Ca Cz K St Ex Am Bi As BL AL He Co ++ EE)
    refine jj_callSi C0 (cc_X3_thousandTimes  (v := (f_num up dn dv td (K c) (St c) (Ex c) (Am c) pr)) (w := (f_den up dn td (Ex c))) (by omega) (by omega)) (cwS 2 hw (lw_gS hU_742 hU_319 hU_60 hU_320) rfl rfl rfl (by decide +kernel) ⟨Nat.le_of_ble_eq_true rfl, Nat.le_of_ble_eq_true rfl⟩) rfl rfl (Nat.le_of_ble_eq_true rfl) ⟨by decide, by decide⟩ rfl rfl dX3_markByWays_43 ?_
    intro _ hu
    show jj_W _ _ _ _ _ _ _ _ _ _ _ _ _ _ _ _ _ 46 _ [.int (iI (f_mk (f_num up dn dv td (K c) (St c) (Ex c) (Am c) pr) (f_den up dn td (Ex c))))] (wH ha cA hA nA ed cI cJ cZ td pr up dn dv rw sd mc n mo sh co Ca Cz K St Ex Am Bi As BL AL He Co ++ EE)
    exact jj_iret C0 hr () (trivial) (rfl) (rfl) (by decide) (by decide) dX3_markByWays_46
  · have hn0 : f_num up dn dv td (K c) (St c) (Ex c) (Am c) pr = f_V up dn dv td (K c) (St c) (Am c) pr 2 0 0 := by unfold f_num; rw [if_neg hN, ← hNe]; rfl
    refine jj_topi (b := 2) (by omega) ?_
    refine jj_ti2 (b := (f_price up dn dv td pr 0 0)) (f_price_00 _ _ _ _ _).symm ?_
    refine jj_callSl C0 (cc_nbw_2  (c := c) (d := 0) (k := 0) (fr := pr) (Nat.le_refl 0) (by omega) (by first | exact hcn | omega) (by first | exact htd | omega) hfr (by first | exact hup | omega) (by first | exact hdn | omega) (by first | exact hdv | omega) (by first | exact hK | omega) (by first | exact hSt | omega) (by first | exact hEx | omega) (by first | exact hAm | omega)) (cwS 4 hw (lw_gS hU_737 hU_738 hU_60 hU_739) rfl rfl rfl (by decide +kernel) ⟨Nat.le_of_ble_eq_true rfl, Nat.le_of_ble_eq_true rfl⟩) rfl rfl (Nat.le_of_ble_eq_true rfl) ⟨by decide, by decide⟩ rfl rfl dX3_markByWays_30 ?_
    intro _ hu
    show jj_W _ _ _ _ _ _ _ _ _ _ _ _ _ _ _ _ _ 33 _ [.long (lI (f_V up dn dv td (K c) (St c) (Am c) pr 2 0 0))] (wH ha cA hA nA ed cI cJ cZ td pr up dn dv rw sd mc n mo sh co Ca Cz K St Ex Am Bi As BL AL He Co ++ EE)
    refine jj_topl (b := (f_num up dn dv td (K c) (St c) (Ex c) (Am c) pr)) (hn0.symm) ?_
    refine jj_lstore_n C0 (i := 3) rfl (lv' := [(3, .long (lI (f_num up dn dv td (K c) (St c) (Ex c) (Am c) pr))), (2, .ref (cA c)), (0, .ref (ha 0)), (1, .int (iI (c : Int)))]) (by decide) rfl dX3_markByWays_33 ?_
    refine jj_lload_n C0 0 rfl dX3_markByWays_34 ?_
    refine jj_aload_n C0 2 rfl dX3_markByWays_35 ?_
    refine jj_get C0 (ci := 4) (v := .ref (ha 1)) hin_X3 (0) (rfl) rfl 0 (by decide) (hw _ hU_156) (fun _ h9 => h9) rfl dX3_markByWays_36 ?_
    refine jj_aload_n C0 1 rfl dX3_markByWays_39 ?_
    refine jj_callVNl C0 (cc_X2_belowOf  (c := c) (by first | exact hex | omega) (by first | exact hcn | omega) (by first | exact hup | omega) (by first | exact hdn | omega) (by first | exact htd | omega) (by first | exact hEx | omega)) ⟨va_cnB 1 hw (lw_gc hU_311 lw_UU) rfl rfl rfl (hE.1 _ hN_719) (hw _ hU_61) (by decide +kernel) ⟨Nat.le_of_ble_eq_true rfl, Nat.le_of_ble_eq_true rfl⟩, hw _ hU_310, hw _ hU_19⟩ (ci := 3) (q0 := 1) rfl (rfl) rfl rfl (Nat.le_of_ble_eq_true rfl) ⟨by decide, by decide⟩ rfl rfl dX3_markByWays_40 ?_
    intro _ hu
    show jj_W _ _ _ _ _ _ _ _ _ _ _ _ _ _ _ _ _ 43 _ [.long (lI (f_den up dn td (Ex c))), .long (lI (f_num up dn dv td (K c) (St c) (Ex c) (Am c) pr))] (wH ha cA hA nA ed cI cJ cZ td pr up dn dv rw sd mc n mo sh co Ca Cz K St Ex Am Bi As BL AL He Co ++ EE)
    refine jj_callSi C0 (cc_X3_thousandTimes  (v := (f_num up dn dv td (K c) (St c) (Ex c) (Am c) pr)) (w := (f_den up dn td (Ex c))) (by omega) (by omega)) (cwS 2 hw (lw_gS hU_742 hU_319 hU_60 hU_320) rfl rfl rfl (by decide +kernel) ⟨Nat.le_of_ble_eq_true rfl, Nat.le_of_ble_eq_true rfl⟩) rfl rfl (Nat.le_of_ble_eq_true rfl) ⟨by decide, by decide⟩ rfl rfl dX3_markByWays_43 ?_
    intro _ hu
    show jj_W _ _ _ _ _ _ _ _ _ _ _ _ _ _ _ _ _ 46 _ [.int (iI (f_mk (f_num up dn dv td (K c) (St c) (Ex c) (Am c) pr) (f_den up dn td (Ex c))))] (wH ha cA hA nA ed cI cJ cZ td pr up dn dv rw sd mc n mo sh co Ca Cz K St Ex Am Bi As BL AL He Co ++ EE)
    exact jj_iret C0 hr () (trivial) (rfl) (rfl) (by decide) (by decide) dX3_markByWays_46
  · have hn0 : f_num up dn dv td (K c) (St c) (Ex c) (Am c) pr = f_V up dn dv td (K c) (St c) (Am c) pr 3 0 0 := by unfold f_num; rw [if_neg hN, ← hNe]; rfl
    refine jj_topi (b := 3) (by omega) ?_
    refine jj_ti2 (b := (f_price up dn dv td pr 0 0)) (f_price_00 _ _ _ _ _).symm ?_
    refine jj_callSl C0 (cc_nbw_3  (c := c) (d := 0) (k := 0) (fr := pr) (Nat.le_refl 0) (by omega) (by first | exact hcn | omega) (by first | exact htd | omega) hfr (by first | exact hup | omega) (by first | exact hdn | omega) (by first | exact hdv | omega) (by first | exact hK | omega) (by first | exact hSt | omega) (by first | exact hEx | omega) (by first | exact hAm | omega)) (cwS 4 hw (lw_gS hU_737 hU_738 hU_60 hU_739) rfl rfl rfl (by decide +kernel) ⟨Nat.le_of_ble_eq_true rfl, Nat.le_of_ble_eq_true rfl⟩) rfl rfl (Nat.le_of_ble_eq_true rfl) ⟨by decide, by decide⟩ rfl rfl dX3_markByWays_30 ?_
    intro _ hu
    show jj_W _ _ _ _ _ _ _ _ _ _ _ _ _ _ _ _ _ 33 _ [.long (lI (f_V up dn dv td (K c) (St c) (Am c) pr 3 0 0))] (wH ha cA hA nA ed cI cJ cZ td pr up dn dv rw sd mc n mo sh co Ca Cz K St Ex Am Bi As BL AL He Co ++ EE)
    refine jj_topl (b := (f_num up dn dv td (K c) (St c) (Ex c) (Am c) pr)) (hn0.symm) ?_
    refine jj_lstore_n C0 (i := 3) rfl (lv' := [(3, .long (lI (f_num up dn dv td (K c) (St c) (Ex c) (Am c) pr))), (2, .ref (cA c)), (0, .ref (ha 0)), (1, .int (iI (c : Int)))]) (by decide) rfl dX3_markByWays_33 ?_
    refine jj_lload_n C0 0 rfl dX3_markByWays_34 ?_
    refine jj_aload_n C0 2 rfl dX3_markByWays_35 ?_
    refine jj_get C0 (ci := 4) (v := .ref (ha 1)) hin_X3 (0) (rfl) rfl 0 (by decide) (hw _ hU_156) (fun _ h9 => h9) rfl dX3_markByWays_36 ?_
    refine jj_aload_n C0 1 rfl dX3_markByWays_39 ?_
    refine jj_callVNl C0 (cc_X2_belowOf  (c := c) (by first | exact hex | omega) (by first | exact hcn | omega) (by first | exact hup | omega) (by first | exact hdn | omega) (by first | exact htd | omega) (by first | exact hEx | omega)) ⟨va_cnB 1 hw (lw_gc hU_311 lw_UU) rfl rfl rfl (hE.1 _ hN_719) (hw _ hU_61) (by decide +kernel) ⟨Nat.le_of_ble_eq_true rfl, Nat.le_of_ble_eq_true rfl⟩, hw _ hU_310, hw _ hU_19⟩ (ci := 3) (q0 := 1) rfl (rfl) rfl rfl (Nat.le_of_ble_eq_true rfl) ⟨by decide, by decide⟩ rfl rfl dX3_markByWays_40 ?_
    intro _ hu
    show jj_W _ _ _ _ _ _ _ _ _ _ _ _ _ _ _ _ _ 43 _ [.long (lI (f_den up dn td (Ex c))), .long (lI (f_num up dn dv td (K c) (St c) (Ex c) (Am c) pr))] (wH ha cA hA nA ed cI cJ cZ td pr up dn dv rw sd mc n mo sh co Ca Cz K St Ex Am Bi As BL AL He Co ++ EE)
    refine jj_callSi C0 (cc_X3_thousandTimes  (v := (f_num up dn dv td (K c) (St c) (Ex c) (Am c) pr)) (w := (f_den up dn td (Ex c))) (by omega) (by omega)) (cwS 2 hw (lw_gS hU_742 hU_319 hU_60 hU_320) rfl rfl rfl (by decide +kernel) ⟨Nat.le_of_ble_eq_true rfl, Nat.le_of_ble_eq_true rfl⟩) rfl rfl (Nat.le_of_ble_eq_true rfl) ⟨by decide, by decide⟩ rfl rfl dX3_markByWays_43 ?_
    intro _ hu
    show jj_W _ _ _ _ _ _ _ _ _ _ _ _ _ _ _ _ _ 46 _ [.int (iI (f_mk (f_num up dn dv td (K c) (St c) (Ex c) (Am c) pr) (f_den up dn td (Ex c))))] (wH ha cA hA nA ed cI cJ cZ td pr up dn dv rw sd mc n mo sh co Ca Cz K St Ex Am Bi As BL AL He Co ++ EE)
    exact jj_iret C0 hr () (trivial) (rfl) (rfl) (by decide) (by decide) dX3_markByWays_46
  · have hn0 : f_num up dn dv td (K c) (St c) (Ex c) (Am c) pr = f_V up dn dv td (K c) (St c) (Am c) pr 4 0 0 := by unfold f_num; rw [if_neg hN, ← hNe]; rfl
    refine jj_topi (b := 4) (by omega) ?_
    refine jj_ti2 (b := (f_price up dn dv td pr 0 0)) (f_price_00 _ _ _ _ _).symm ?_
    refine jj_callSl C0 (cc_nbw_4  (c := c) (d := 0) (k := 0) (fr := pr) (Nat.le_refl 0) (by omega) (by first | exact hcn | omega) (by first | exact htd | omega) hfr (by first | exact hup | omega) (by first | exact hdn | omega) (by first | exact hdv | omega) (by first | exact hK | omega) (by first | exact hSt | omega) (by first | exact hEx | omega) (by first | exact hAm | omega)) (cwS 4 hw (lw_gS hU_737 hU_738 hU_60 hU_739) rfl rfl rfl (by decide +kernel) ⟨Nat.le_of_ble_eq_true rfl, Nat.le_of_ble_eq_true rfl⟩) rfl rfl (Nat.le_of_ble_eq_true rfl) ⟨by decide, by decide⟩ rfl rfl dX3_markByWays_30 ?_
    intro _ hu
    show jj_W _ _ _ _ _ _ _ _ _ _ _ _ _ _ _ _ _ 33 _ [.long (lI (f_V up dn dv td (K c) (St c) (Am c) pr 4 0 0))] (wH ha cA hA nA ed cI cJ cZ td pr up dn dv rw sd mc n mo sh co Ca Cz K St Ex Am Bi As BL AL He Co ++ EE)
    refine jj_topl (b := (f_num up dn dv td (K c) (St c) (Ex c) (Am c) pr)) (hn0.symm) ?_
    refine jj_lstore_n C0 (i := 3) rfl (lv' := [(3, .long (lI (f_num up dn dv td (K c) (St c) (Ex c) (Am c) pr))), (2, .ref (cA c)), (0, .ref (ha 0)), (1, .int (iI (c : Int)))]) (by decide) rfl dX3_markByWays_33 ?_
    refine jj_lload_n C0 0 rfl dX3_markByWays_34 ?_
    refine jj_aload_n C0 2 rfl dX3_markByWays_35 ?_
    refine jj_get C0 (ci := 4) (v := .ref (ha 1)) hin_X3 (0) (rfl) rfl 0 (by decide) (hw _ hU_156) (fun _ h9 => h9) rfl dX3_markByWays_36 ?_
    refine jj_aload_n C0 1 rfl dX3_markByWays_39 ?_
    refine jj_callVNl C0 (cc_X2_belowOf  (c := c) (by first | exact hex | omega) (by first | exact hcn | omega) (by first | exact hup | omega) (by first | exact hdn | omega) (by first | exact htd | omega) (by first | exact hEx | omega)) ⟨va_cnB 1 hw (lw_gc hU_311 lw_UU) rfl rfl rfl (hE.1 _ hN_719) (hw _ hU_61) (by decide +kernel) ⟨Nat.le_of_ble_eq_true rfl, Nat.le_of_ble_eq_true rfl⟩, hw _ hU_310, hw _ hU_19⟩ (ci := 3) (q0 := 1) rfl (rfl) rfl rfl (Nat.le_of_ble_eq_true rfl) ⟨by decide, by decide⟩ rfl rfl dX3_markByWays_40 ?_
    intro _ hu
    show jj_W _ _ _ _ _ _ _ _ _ _ _ _ _ _ _ _ _ 43 _ [.long (lI (f_den up dn td (Ex c))), .long (lI (f_num up dn dv td (K c) (St c) (Ex c) (Am c) pr))] (wH ha cA hA nA ed cI cJ cZ td pr up dn dv rw sd mc n mo sh co Ca Cz K St Ex Am Bi As BL AL He Co ++ EE)
    refine jj_callSi C0 (cc_X3_thousandTimes  (v := (f_num up dn dv td (K c) (St c) (Ex c) (Am c) pr)) (w := (f_den up dn td (Ex c))) (by omega) (by omega)) (cwS 2 hw (lw_gS hU_742 hU_319 hU_60 hU_320) rfl rfl rfl (by decide +kernel) ⟨Nat.le_of_ble_eq_true rfl, Nat.le_of_ble_eq_true rfl⟩) rfl rfl (Nat.le_of_ble_eq_true rfl) ⟨by decide, by decide⟩ rfl rfl dX3_markByWays_43 ?_
    intro _ hu
    show jj_W _ _ _ _ _ _ _ _ _ _ _ _ _ _ _ _ _ 46 _ [.int (iI (f_mk (f_num up dn dv td (K c) (St c) (Ex c) (Am c) pr) (f_den up dn td (Ex c))))] (wH ha cA hA nA ed cI cJ cZ td pr up dn dv rw sd mc n mo sh co Ca Cz K St Ex Am Bi As BL AL He Co ++ EE)
    exact jj_iret C0 hr () (trivial) (rfl) (rfl) (by decide) (by decide) dX3_markByWays_46
  · have hn0 : f_num up dn dv td (K c) (St c) (Ex c) (Am c) pr = f_V up dn dv td (K c) (St c) (Am c) pr 5 0 0 := by unfold f_num; rw [if_neg hN, ← hNe]; rfl
    refine jj_topi (b := 5) (by omega) ?_
    refine jj_ti2 (b := (f_price up dn dv td pr 0 0)) (f_price_00 _ _ _ _ _).symm ?_
    refine jj_callSl C0 (cc_nbw_5  (c := c) (d := 0) (k := 0) (fr := pr) (Nat.le_refl 0) (by omega) (by first | exact hcn | omega) (by first | exact htd | omega) hfr (by first | exact hup | omega) (by first | exact hdn | omega) (by first | exact hdv | omega) (by first | exact hK | omega) (by first | exact hSt | omega) (by first | exact hEx | omega) (by first | exact hAm | omega)) (cwS 4 hw (lw_gS hU_737 hU_738 hU_60 hU_739) rfl rfl rfl (by decide +kernel) ⟨Nat.le_of_ble_eq_true rfl, Nat.le_of_ble_eq_true rfl⟩) rfl rfl (Nat.le_of_ble_eq_true rfl) ⟨by decide, by decide⟩ rfl rfl dX3_markByWays_30 ?_
    intro _ hu
    show jj_W _ _ _ _ _ _ _ _ _ _ _ _ _ _ _ _ _ 33 _ [.long (lI (f_V up dn dv td (K c) (St c) (Am c) pr 5 0 0))] (wH ha cA hA nA ed cI cJ cZ td pr up dn dv rw sd mc n mo sh co Ca Cz K St Ex Am Bi As BL AL He Co ++ EE)
    refine jj_topl (b := (f_num up dn dv td (K c) (St c) (Ex c) (Am c) pr)) (hn0.symm) ?_
    refine jj_lstore_n C0 (i := 3) rfl (lv' := [(3, .long (lI (f_num up dn dv td (K c) (St c) (Ex c) (Am c) pr))), (2, .ref (cA c)), (0, .ref (ha 0)), (1, .int (iI (c : Int)))]) (by decide) rfl dX3_markByWays_33 ?_
    refine jj_lload_n C0 0 rfl dX3_markByWays_34 ?_
    refine jj_aload_n C0 2 rfl dX3_markByWays_35 ?_
    refine jj_get C0 (ci := 4) (v := .ref (ha 1)) hin_X3 (0) (rfl) rfl 0 (by decide) (hw _ hU_156) (fun _ h9 => h9) rfl dX3_markByWays_36 ?_
    refine jj_aload_n C0 1 rfl dX3_markByWays_39 ?_
    refine jj_callVNl C0 (cc_X2_belowOf  (c := c) (by first | exact hex | omega) (by first | exact hcn | omega) (by first | exact hup | omega) (by first | exact hdn | omega) (by first | exact htd | omega) (by first | exact hEx | omega)) ⟨va_cnB 1 hw (lw_gc hU_311 lw_UU) rfl rfl rfl (hE.1 _ hN_719) (hw _ hU_61) (by decide +kernel) ⟨Nat.le_of_ble_eq_true rfl, Nat.le_of_ble_eq_true rfl⟩, hw _ hU_310, hw _ hU_19⟩ (ci := 3) (q0 := 1) rfl (rfl) rfl rfl (Nat.le_of_ble_eq_true rfl) ⟨by decide, by decide⟩ rfl rfl dX3_markByWays_40 ?_
    intro _ hu
    show jj_W _ _ _ _ _ _ _ _ _ _ _ _ _ _ _ _ _ 43 _ [.long (lI (f_den up dn td (Ex c))), .long (lI (f_num up dn dv td (K c) (St c) (Ex c) (Am c) pr))] (wH ha cA hA nA ed cI cJ cZ td pr up dn dv rw sd mc n mo sh co Ca Cz K St Ex Am Bi As BL AL He Co ++ EE)
    refine jj_callSi C0 (cc_X3_thousandTimes  (v := (f_num up dn dv td (K c) (St c) (Ex c) (Am c) pr)) (w := (f_den up dn td (Ex c))) (by omega) (by omega)) (cwS 2 hw (lw_gS hU_742 hU_319 hU_60 hU_320) rfl rfl rfl (by decide +kernel) ⟨Nat.le_of_ble_eq_true rfl, Nat.le_of_ble_eq_true rfl⟩) rfl rfl (Nat.le_of_ble_eq_true rfl) ⟨by decide, by decide⟩ rfl rfl dX3_markByWays_43 ?_
    intro _ hu
    show jj_W _ _ _ _ _ _ _ _ _ _ _ _ _ _ _ _ _ 46 _ [.int (iI (f_mk (f_num up dn dv td (K c) (St c) (Ex c) (Am c) pr) (f_den up dn td (Ex c))))] (wH ha cA hA nA ed cI cJ cZ td pr up dn dv rw sd mc n mo sh co Ca Cz K St Ex Am Bi As BL AL He Co ++ EE)
    exact jj_iret C0 hr () (trivial) (rfl) (rfl) (by decide) (by decide) dX3_markByWays_46
  · have hn0 : f_num up dn dv td (K c) (St c) (Ex c) (Am c) pr = f_V up dn dv td (K c) (St c) (Am c) pr 6 0 0 := by unfold f_num; rw [if_neg hN, ← hNe]; rfl
    refine jj_topi (b := 6) (by omega) ?_
    refine jj_ti2 (b := (f_price up dn dv td pr 0 0)) (f_price_00 _ _ _ _ _).symm ?_
    refine jj_callSl C0 (cc_nbw_6  (c := c) (d := 0) (k := 0) (fr := pr) (Nat.le_refl 0) (by omega) (by first | exact hcn | omega) (by first | exact htd | omega) hfr (by first | exact hup | omega) (by first | exact hdn | omega) (by first | exact hdv | omega) (by first | exact hK | omega) (by first | exact hSt | omega) (by first | exact hEx | omega) (by first | exact hAm | omega)) (cwS 4 hw (lw_gS hU_737 hU_738 hU_60 hU_739) rfl rfl rfl (by decide +kernel) ⟨Nat.le_of_ble_eq_true rfl, Nat.le_of_ble_eq_true rfl⟩) rfl rfl (Nat.le_of_ble_eq_true rfl) ⟨by decide, by decide⟩ rfl rfl dX3_markByWays_30 ?_
    intro _ hu
    show jj_W _ _ _ _ _ _ _ _ _ _ _ _ _ _ _ _ _ 33 _ [.long (lI (f_V up dn dv td (K c) (St c) (Am c) pr 6 0 0))] (wH ha cA hA nA ed cI cJ cZ td pr up dn dv rw sd mc n mo sh co Ca Cz K St Ex Am Bi As BL AL He Co ++ EE)
    refine jj_topl (b := (f_num up dn dv td (K c) (St c) (Ex c) (Am c) pr)) (hn0.symm) ?_
    refine jj_lstore_n C0 (i := 3) rfl (lv' := [(3, .long (lI (f_num up dn dv td (K c) (St c) (Ex c) (Am c) pr))), (2, .ref (cA c)), (0, .ref (ha 0)), (1, .int (iI (c : Int)))]) (by decide) rfl dX3_markByWays_33 ?_
    refine jj_lload_n C0 0 rfl dX3_markByWays_34 ?_
    refine jj_aload_n C0 2 rfl dX3_markByWays_35 ?_
    refine jj_get C0 (ci := 4) (v := .ref (ha 1)) hin_X3 (0) (rfl) rfl 0 (by decide) (hw _ hU_156) (fun _ h9 => h9) rfl dX3_markByWays_36 ?_
    refine jj_aload_n C0 1 rfl dX3_markByWays_39 ?_
    refine jj_callVNl C0 (cc_X2_belowOf  (c := c) (by first | exact hex | omega) (by first | exact hcn | omega) (by first | exact hup | omega) (by first | exact hdn | omega) (by first | exact htd | omega) (by first | exact hEx | omega)) ⟨va_cnB 1 hw (lw_gc hU_311 lw_UU) rfl rfl rfl (hE.1 _ hN_719) (hw _ hU_61) (by decide +kernel) ⟨Nat.le_of_ble_eq_true rfl, Nat.le_of_ble_eq_true rfl⟩, hw _ hU_310, hw _ hU_19⟩ (ci := 3) (q0 := 1) rfl (rfl) rfl rfl (Nat.le_of_ble_eq_true rfl) ⟨by decide, by decide⟩ rfl rfl dX3_markByWays_40 ?_
    intro _ hu
    show jj_W _ _ _ _ _ _ _ _ _ _ _ _ _ _ _ _ _ 43 _ [.long (lI (f_den up dn td (Ex c))), .long (lI (f_num up dn dv td (K c) (St c) (Ex c) (Am c) pr))] (wH ha cA hA nA ed cI cJ cZ td pr up dn dv rw sd mc n mo sh co Ca Cz K St Ex Am Bi As BL AL He Co ++ EE)
    refine jj_callSi C0 (cc_X3_thousandTimes  (v := (f_num up dn dv td (K c) (St c) (Ex c) (Am c) pr)) (w := (f_den up dn td (Ex c))) (by omega) (by omega)) (cwS 2 hw (lw_gS hU_742 hU_319 hU_60 hU_320) rfl rfl rfl (by decide +kernel) ⟨Nat.le_of_ble_eq_true rfl, Nat.le_of_ble_eq_true rfl⟩) rfl rfl (Nat.le_of_ble_eq_true rfl) ⟨by decide, by decide⟩ rfl rfl dX3_markByWays_43 ?_
    intro _ hu
    show jj_W _ _ _ _ _ _ _ _ _ _ _ _ _ _ _ _ _ 46 _ [.int (iI (f_mk (f_num up dn dv td (K c) (St c) (Ex c) (Am c) pr) (f_den up dn td (Ex c))))] (wH ha cA hA nA ed cI cJ cZ td pr up dn dv rw sd mc n mo sh co Ca Cz K St Ex Am Bi As BL AL He Co ++ EE)
    exact jj_iret C0 hr () (trivial) (rfl) (rfl) (by decide) (by decide) dX3_markByWays_46
  · have hn0 : f_num up dn dv td (K c) (St c) (Ex c) (Am c) pr = f_V up dn dv td (K c) (St c) (Am c) pr 7 0 0 := by unfold f_num; rw [if_neg hN, ← hNe]; rfl
    refine jj_topi (b := 7) (by omega) ?_
    refine jj_ti2 (b := (f_price up dn dv td pr 0 0)) (f_price_00 _ _ _ _ _).symm ?_
    refine jj_callSl C0 (cc_nbw_7  (c := c) (d := 0) (k := 0) (fr := pr) (Nat.le_refl 0) (by omega) (by first | exact hcn | omega) (by first | exact htd | omega) hfr (by first | exact hup | omega) (by first | exact hdn | omega) (by first | exact hdv | omega) (by first | exact hK | omega) (by first | exact hSt | omega) (by first | exact hEx | omega) (by first | exact hAm | omega)) (cwS 4 hw (lw_gS hU_737 hU_738 hU_60 hU_739) rfl rfl rfl (by decide +kernel) ⟨Nat.le_of_ble_eq_true rfl, Nat.le_of_ble_eq_true rfl⟩) rfl rfl (Nat.le_of_ble_eq_true rfl) ⟨by decide, by decide⟩ rfl rfl dX3_markByWays_30 ?_
    intro _ hu
    show jj_W _ _ _ _ _ _ _ _ _ _ _ _ _ _ _ _ _ 33 _ [.long (lI (f_V up dn dv td (K c) (St c) (Am c) pr 7 0 0))] (wH ha cA hA nA ed cI cJ cZ td pr up dn dv rw sd mc n mo sh co Ca Cz K St Ex Am Bi As BL AL He Co ++ EE)
    refine jj_topl (b := (f_num up dn dv td (K c) (St c) (Ex c) (Am c) pr)) (hn0.symm) ?_
    refine jj_lstore_n C0 (i := 3) rfl (lv' := [(3, .long (lI (f_num up dn dv td (K c) (St c) (Ex c) (Am c) pr))), (2, .ref (cA c)), (0, .ref (ha 0)), (1, .int (iI (c : Int)))]) (by decide) rfl dX3_markByWays_33 ?_
    refine jj_lload_n C0 0 rfl dX3_markByWays_34 ?_
    refine jj_aload_n C0 2 rfl dX3_markByWays_35 ?_
    refine jj_get C0 (ci := 4) (v := .ref (ha 1)) hin_X3 (0) (rfl) rfl 0 (by decide) (hw _ hU_156) (fun _ h9 => h9) rfl dX3_markByWays_36 ?_
    refine jj_aload_n C0 1 rfl dX3_markByWays_39 ?_
    refine jj_callVNl C0 (cc_X2_belowOf  (c := c) (by first | exact hex | omega) (by first | exact hcn | omega) (by first | exact hup | omega) (by first | exact hdn | omega) (by first | exact htd | omega) (by first | exact hEx | omega)) ⟨va_cnB 1 hw (lw_gc hU_311 lw_UU) rfl rfl rfl (hE.1 _ hN_719) (hw _ hU_61) (by decide +kernel) ⟨Nat.le_of_ble_eq_true rfl, Nat.le_of_ble_eq_true rfl⟩, hw _ hU_310, hw _ hU_19⟩ (ci := 3) (q0 := 1) rfl (rfl) rfl rfl (Nat.le_of_ble_eq_true rfl) ⟨by decide, by decide⟩ rfl rfl dX3_markByWays_40 ?_
    intro _ hu
    show jj_W _ _ _ _ _ _ _ _ _ _ _ _ _ _ _ _ _ 43 _ [.long (lI (f_den up dn td (Ex c))), .long (lI (f_num up dn dv td (K c) (St c) (Ex c) (Am c) pr))] (wH ha cA hA nA ed cI cJ cZ td pr up dn dv rw sd mc n mo sh co Ca Cz K St Ex Am Bi As BL AL He Co ++ EE)
    refine jj_callSi C0 (cc_X3_thousandTimes  (v := (f_num up dn dv td (K c) (St c) (Ex c) (Am c) pr)) (w := (f_den up dn td (Ex c))) (by omega) (by omega)) (cwS 2 hw (lw_gS hU_742 hU_319 hU_60 hU_320) rfl rfl rfl (by decide +kernel) ⟨Nat.le_of_ble_eq_true rfl, Nat.le_of_ble_eq_true rfl⟩) rfl rfl (Nat.le_of_ble_eq_true rfl) ⟨by decide, by decide⟩ rfl rfl dX3_markByWays_43 ?_
    intro _ hu
    show jj_W _ _ _ _ _ _ _ _ _ _ _ _ _ _ _ _ _ 46 _ [.int (iI (f_mk (f_num up dn dv td (K c) (St c) (Ex c) (Am c) pr) (f_den up dn td (Ex c))))] (wH ha cA hA nA ed cI cJ cZ td pr up dn dv rw sd mc n mo sh co Ca Cz K St Ex Am Bi As BL AL He Co ++ EE)
    exact jj_iret C0 hr () (trivial) (rfl) (rfl) (by decide) (by decide) dX3_markByWays_46
  · have hn0 : f_num up dn dv td (K c) (St c) (Ex c) (Am c) pr = f_V up dn dv td (K c) (St c) (Am c) pr 8 0 0 := by unfold f_num; rw [if_neg hN, ← hNe]; rfl
    refine jj_topi (b := 8) (by omega) ?_
    refine jj_ti2 (b := (f_price up dn dv td pr 0 0)) (f_price_00 _ _ _ _ _).symm ?_
    refine jj_callSl C0 (cc_nbw_8  (c := c) (d := 0) (k := 0) (fr := pr) (Nat.le_refl 0) (by omega) (by first | exact hcn | omega) (by first | exact htd | omega) hfr (by first | exact hup | omega) (by first | exact hdn | omega) (by first | exact hdv | omega) (by first | exact hK | omega) (by first | exact hSt | omega) (by first | exact hEx | omega) (by first | exact hAm | omega)) (cwS 4 hw (lw_gS hU_737 hU_738 hU_60 hU_739) rfl rfl rfl (by decide +kernel) ⟨Nat.le_of_ble_eq_true rfl, Nat.le_of_ble_eq_true rfl⟩) rfl rfl (Nat.le_of_ble_eq_true rfl) ⟨by decide, by decide⟩ rfl rfl dX3_markByWays_30 ?_
    intro _ hu
    show jj_W _ _ _ _ _ _ _ _ _ _ _ _ _ _ _ _ _ 33 _ [.long (lI (f_V up dn dv td (K c) (St c) (Am c) pr 8 0 0))] (wH ha cA hA nA ed cI cJ cZ td pr up dn dv rw sd mc n mo sh co Ca Cz K St Ex Am Bi As BL AL He Co ++ EE)
    refine jj_topl (b := (f_num up dn dv td (K c) (St c) (Ex c) (Am c) pr)) (hn0.symm) ?_
    refine jj_lstore_n C0 (i := 3) rfl (lv' := [(3, .long (lI (f_num up dn dv td (K c) (St c) (Ex c) (Am c) pr))), (2, .ref (cA c)), (0, .ref (ha 0)), (1, .int (iI (c : Int)))]) (by decide) rfl dX3_markByWays_33 ?_
    refine jj_lload_n C0 0 rfl dX3_markByWays_34 ?_
    refine jj_aload_n C0 2 rfl dX3_markByWays_35 ?_
    refine jj_get C0 (ci := 4) (v := .ref (ha 1)) hin_X3 (0) (rfl) rfl 0 (by decide) (hw _ hU_156) (fun _ h9 => h9) rfl dX3_markByWays_36 ?_
    refine jj_aload_n C0 1 rfl dX3_markByWays_39 ?_
    refine jj_callVNl C0 (cc_X2_belowOf  (c := c) (by first | exact hex | omega) (by first | exact hcn | omega) (by first | exact hup | omega) (by first | exact hdn | omega) (by first | exact htd | omega) (by first | exact hEx | omega)) ⟨va_cnB 1 hw (lw_gc hU_311 lw_UU) rfl rfl rfl (hE.1 _ hN_719) (hw _ hU_61) (by decide +kernel) ⟨Nat.le_of_ble_eq_true rfl, Nat.le_of_ble_eq_true rfl⟩, hw _ hU_310, hw _ hU_19⟩ (ci := 3) (q0 := 1) rfl (rfl) rfl rfl (Nat.le_of_ble_eq_true rfl) ⟨by decide, by decide⟩ rfl rfl dX3_markByWays_40 ?_
    intro _ hu
    show jj_W _ _ _ _ _ _ _ _ _ _ _ _ _ _ _ _ _ 43 _ [.long (lI (f_den up dn td (Ex c))), .long (lI (f_num up dn dv td (K c) (St c) (Ex c) (Am c) pr))] (wH ha cA hA nA ed cI cJ cZ td pr up dn dv rw sd mc n mo sh co Ca Cz K St Ex Am Bi As BL AL He Co ++ EE)
    refine jj_callSi C0 (cc_X3_thousandTimes  (v := (f_num up dn dv td (K c) (St c) (Ex c) (Am c) pr)) (w := (f_den up dn td (Ex c))) (by omega) (by omega)) (cwS 2 hw (lw_gS hU_742 hU_319 hU_60 hU_320) rfl rfl rfl (by decide +kernel) ⟨Nat.le_of_ble_eq_true rfl, Nat.le_of_ble_eq_true rfl⟩) rfl rfl (Nat.le_of_ble_eq_true rfl) ⟨by decide, by decide⟩ rfl rfl dX3_markByWays_43 ?_
    intro _ hu
    show jj_W _ _ _ _ _ _ _ _ _ _ _ _ _ _ _ _ _ 46 _ [.int (iI (f_mk (f_num up dn dv td (K c) (St c) (Ex c) (Am c) pr) (f_den up dn td (Ex c))))] (wH ha cA hA nA ed cI cJ cZ td pr up dn dv rw sd mc n mo sh co Ca Cz K St Ex Am Bi As BL AL He Co ++ EE)
    exact jj_iret C0 hr () (trivial) (rfl) (rfl) (by decide) (by decide) dX3_markByWays_46
  · have hn0 : f_num up dn dv td (K c) (St c) (Ex c) (Am c) pr = f_V up dn dv td (K c) (St c) (Am c) pr 9 0 0 := by unfold f_num; rw [if_neg hN, ← hNe]; rfl
    refine jj_topi (b := 9) (by omega) ?_
    refine jj_ti2 (b := (f_price up dn dv td pr 0 0)) (f_price_00 _ _ _ _ _).symm ?_
    refine jj_callSl C0 (cc_nbw_9  (c := c) (d := 0) (k := 0) (fr := pr) (Nat.le_refl 0) (by omega) (by first | exact hcn | omega) (by first | exact htd | omega) hfr (by first | exact hup | omega) (by first | exact hdn | omega) (by first | exact hdv | omega) (by first | exact hK | omega) (by first | exact hSt | omega) (by first | exact hEx | omega) (by first | exact hAm | omega)) (cwS 4 hw (lw_gS hU_737 hU_738 hU_60 hU_739) rfl rfl rfl (by decide +kernel) ⟨Nat.le_of_ble_eq_true rfl, Nat.le_of_ble_eq_true rfl⟩) rfl rfl (Nat.le_of_ble_eq_true rfl) ⟨by decide, by decide⟩ rfl rfl dX3_markByWays_30 ?_
    intro _ hu
    show jj_W _ _ _ _ _ _ _ _ _ _ _ _ _ _ _ _ _ 33 _ [.long (lI (f_V up dn dv td (K c) (St c) (Am c) pr 9 0 0))] (wH ha cA hA nA ed cI cJ cZ td pr up dn dv rw sd mc n mo sh co Ca Cz K St Ex Am Bi As BL AL He Co ++ EE)
    refine jj_topl (b := (f_num up dn dv td (K c) (St c) (Ex c) (Am c) pr)) (hn0.symm) ?_
    refine jj_lstore_n C0 (i := 3) rfl (lv' := [(3, .long (lI (f_num up dn dv td (K c) (St c) (Ex c) (Am c) pr))), (2, .ref (cA c)), (0, .ref (ha 0)), (1, .int (iI (c : Int)))]) (by decide) rfl dX3_markByWays_33 ?_
    refine jj_lload_n C0 0 rfl dX3_markByWays_34 ?_
    refine jj_aload_n C0 2 rfl dX3_markByWays_35 ?_
    refine jj_get C0 (ci := 4) (v := .ref (ha 1)) hin_X3 (0) (rfl) rfl 0 (by decide) (hw _ hU_156) (fun _ h9 => h9) rfl dX3_markByWays_36 ?_
    refine jj_aload_n C0 1 rfl dX3_markByWays_39 ?_
    refine jj_callVNl C0 (cc_X2_belowOf  (c := c) (by first | exact hex | omega) (by first | exact hcn | omega) (by first | exact hup | omega) (by first | exact hdn | omega) (by first | exact htd | omega) (by first | exact hEx | omega)) ⟨va_cnB 1 hw (lw_gc hU_311 lw_UU) rfl rfl rfl (hE.1 _ hN_719) (hw _ hU_61) (by decide +kernel) ⟨Nat.le_of_ble_eq_true rfl, Nat.le_of_ble_eq_true rfl⟩, hw _ hU_310, hw _ hU_19⟩ (ci := 3) (q0 := 1) rfl (rfl) rfl rfl (Nat.le_of_ble_eq_true rfl) ⟨by decide, by decide⟩ rfl rfl dX3_markByWays_40 ?_
    intro _ hu
    show jj_W _ _ _ _ _ _ _ _ _ _ _ _ _ _ _ _ _ 43 _ [.long (lI (f_den up dn td (Ex c))), .long (lI (f_num up dn dv td (K c) (St c) (Ex c) (Am c) pr))] (wH ha cA hA nA ed cI cJ cZ td pr up dn dv rw sd mc n mo sh co Ca Cz K St Ex Am Bi As BL AL He Co ++ EE)
    refine jj_callSi C0 (cc_X3_thousandTimes  (v := (f_num up dn dv td (K c) (St c) (Ex c) (Am c) pr)) (w := (f_den up dn td (Ex c))) (by omega) (by omega)) (cwS 2 hw (lw_gS hU_742 hU_319 hU_60 hU_320) rfl rfl rfl (by decide +kernel) ⟨Nat.le_of_ble_eq_true rfl, Nat.le_of_ble_eq_true rfl⟩) rfl rfl (Nat.le_of_ble_eq_true rfl) ⟨by decide, by decide⟩ rfl rfl dX3_markByWays_43 ?_
    intro _ hu
    show jj_W _ _ _ _ _ _ _ _ _ _ _ _ _ _ _ _ _ 46 _ [.int (iI (f_mk (f_num up dn dv td (K c) (St c) (Ex c) (Am c) pr) (f_den up dn td (Ex c))))] (wH ha cA hA nA ed cI cJ cZ td pr up dn dv rw sd mc n mo sh co Ca Cz K St Ex Am Bi As BL AL He Co ++ EE)
    exact jj_iret C0 hr () (trivial) (rfl) (rfl) (by decide) (by decide) dX3_markByWays_46
  · have hn0 : f_num up dn dv td (K c) (St c) (Ex c) (Am c) pr = f_V up dn dv td (K c) (St c) (Am c) pr 10 0 0 := by unfold f_num; rw [if_neg hN, ← hNe]; rfl
    refine jj_topi (b := 10) (by omega) ?_
    refine jj_ti2 (b := (f_price up dn dv td pr 0 0)) (f_price_00 _ _ _ _ _).symm ?_
    refine jj_callSl C0 (cc_nbw_10  (c := c) (d := 0) (k := 0) (fr := pr) (Nat.le_refl 0) (by omega) (by first | exact hcn | omega) (by first | exact htd | omega) hfr (by first | exact hup | omega) (by first | exact hdn | omega) (by first | exact hdv | omega) (by first | exact hK | omega) (by first | exact hSt | omega) (by first | exact hEx | omega) (by first | exact hAm | omega)) (cwS 4 hw (lw_gS hU_737 hU_738 hU_60 hU_739) rfl rfl rfl (by decide +kernel) ⟨Nat.le_of_ble_eq_true rfl, Nat.le_of_ble_eq_true rfl⟩) rfl rfl (Nat.le_of_ble_eq_true rfl) ⟨by decide, by decide⟩ rfl rfl dX3_markByWays_30 ?_
    intro _ hu
    show jj_W _ _ _ _ _ _ _ _ _ _ _ _ _ _ _ _ _ 33 _ [.long (lI (f_V up dn dv td (K c) (St c) (Am c) pr 10 0 0))] (wH ha cA hA nA ed cI cJ cZ td pr up dn dv rw sd mc n mo sh co Ca Cz K St Ex Am Bi As BL AL He Co ++ EE)
    refine jj_topl (b := (f_num up dn dv td (K c) (St c) (Ex c) (Am c) pr)) (hn0.symm) ?_
    refine jj_lstore_n C0 (i := 3) rfl (lv' := [(3, .long (lI (f_num up dn dv td (K c) (St c) (Ex c) (Am c) pr))), (2, .ref (cA c)), (0, .ref (ha 0)), (1, .int (iI (c : Int)))]) (by decide) rfl dX3_markByWays_33 ?_
    refine jj_lload_n C0 0 rfl dX3_markByWays_34 ?_
    refine jj_aload_n C0 2 rfl dX3_markByWays_35 ?_
    refine jj_get C0 (ci := 4) (v := .ref (ha 1)) hin_X3 (0) (rfl) rfl 0 (by decide) (hw _ hU_156) (fun _ h9 => h9) rfl dX3_markByWays_36 ?_
    refine jj_aload_n C0 1 rfl dX3_markByWays_39 ?_
    refine jj_callVNl C0 (cc_X2_belowOf  (c := c) (by first | exact hex | omega) (by first | exact hcn | omega) (by first | exact hup | omega) (by first | exact hdn | omega) (by first | exact htd | omega) (by first | exact hEx | omega)) ⟨va_cnB 1 hw (lw_gc hU_311 lw_UU) rfl rfl rfl (hE.1 _ hN_719) (hw _ hU_61) (by decide +kernel) ⟨Nat.le_of_ble_eq_true rfl, Nat.le_of_ble_eq_true rfl⟩, hw _ hU_310, hw _ hU_19⟩ (ci := 3) (q0 := 1) rfl (rfl) rfl rfl (Nat.le_of_ble_eq_true rfl) ⟨by decide, by decide⟩ rfl rfl dX3_markByWays_40 ?_
    intro _ hu
    show jj_W _ _ _ _ _ _ _ _ _ _ _ _ _ _ _ _ _ 43 _ [.long (lI (f_den up dn td (Ex c))), .long (lI (f_num up dn dv td (K c) (St c) (Ex c) (Am c) pr))] (wH ha cA hA nA ed cI cJ cZ td pr up dn dv rw sd mc n mo sh co Ca Cz K St Ex Am Bi As BL AL He Co ++ EE)
    refine jj_callSi C0 (cc_X3_thousandTimes  (v := (f_num up dn dv td (K c) (St c) (Ex c) (Am c) pr)) (w := (f_den up dn td (Ex c))) (by omega) (by omega)) (cwS 2 hw (lw_gS hU_742 hU_319 hU_60 hU_320) rfl rfl rfl (by decide +kernel) ⟨Nat.le_of_ble_eq_true rfl, Nat.le_of_ble_eq_true rfl⟩) rfl rfl (Nat.le_of_ble_eq_true rfl) ⟨by decide, by decide⟩ rfl rfl dX3_markByWays_43 ?_
    intro _ hu
    show jj_W _ _ _ _ _ _ _ _ _ _ _ _ _ _ _ _ _ 46 _ [.int (iI (f_mk (f_num up dn dv td (K c) (St c) (Ex c) (Am c) pr) (f_den up dn td (Ex c))))] (wH ha cA hA nA ed cI cJ cZ td pr up dn dv rw sd mc n mo sh co Ca Cz K St Ex Am Bi As BL AL He Co ++ EE)
    exact jj_iret C0 hr () (trivial) (rfl) (rfl) (by decide) (by decide) dX3_markByWays_46
set_option maxHeartbeats 4000000 in
set_option maxRecDepth 100000 in
theorem cc_X3_quoted  {c : Nat} {x : Int} (hx : 0 ≤ x ∧ x ≤ 3) (hcn : c < n) (hn : n ≤ 12) (hED : 0 < n → f_ED cA n ed cO EE) : jj_Mi EVh (dC, dI) vwCl [(cI, .int), (cJ, .long), (cZ, .boolean), (cO, .object "java/lang/Object")] l yX3_quoted (Cond.code yX3_quoted cX3_quoted 4 (some .int) :: lw_U) ({ frames := 4, cells := 0, slots := 0, locals := 85 } : Room) [.ref (ha 0), .int (iI (c : Int)), .int (iI x)] (wH ha cA hA nA ed cI cJ cZ td pr up dn dv rw sd mc n mo sh co Ca Cz K St Ex Am Bi As BL AL He Co ++ EE) (S := Unit) (fun _ => (if x = 0 then Bi c else if x = 1 then As c else if x = 2 then BL c else AL c)) (fun _ => True) (fun _ => wH ha cA hA nA ed cI cJ cZ td pr up dn dv rw sd mc n mo sh co Ca Cz K St Ex Am Bi As BL AL He Co ++ EE) := by
  refine jj_start (cc := cX3_quoted) (nL := 4) (ret := (some .int)) (lv := [(0, .ref (ha 0)), (1, .int (iI (c : Int))), (2, .int (iI x))]) (fun A => jj_Qi _ _ _ _ _ _ A) hEVh (by decide) rfl (Nat.le_of_ble_eq_true rfl) rfl ?_
  intro p9 e9 s9 m9 a9 b9 me9 c9 A9 C1 hr hin
  have C0 : jj_C p9 s9 m9 a9 me9 c9 (dC, dI) vwCl A9 4 cX3_quoted "Strikehall" lw_U _ EVh := jj_toU C1
  have hw := C0.2.2.2.2.1
  have hE := C0.2.2.2.2.2.2.2.1
  refine jj_aload_n C0 0 rfl dX3_quoted_0 ?_
  refine jj_iload_n C0 1 rfl dX3_quoted_1 ?_
  refine jj_callVr C0 (cc_X3_contractOf  (c := c) (by first | exact hcn | omega) (by first | exact hn | omega) (by first | exact hED | omega)) (cwV 1 hw (lw_gV hU_554 hU_556 hU_26 hU_60 hU_557) rfl rfl rfl (by decide +kernel) ⟨Nat.le_of_ble_eq_true rfl, Nat.le_of_ble_eq_true rfl⟩) (ci := 4) (q0 := 0) rfl (rfl) rfl rfl (Nat.le_of_ble_eq_true rfl) ⟨by decide, by decide⟩ rfl rfl dX3_quoted_2 ?_
  intro _ hu
  show jj_W _ _ _ _ _ _ _ _ _ _ _ _ _ _ _ _ _ 5 _ [.ref (cA c)] (wH ha cA hA nA ed cI cJ cZ td pr up dn dv rw sd mc n mo sh co Ca Cz K St Ex Am Bi As BL AL He Co ++ EE)
  refine jj_astore_n C0 (i := 3) rfl (lv' := [(3, .ref (cA c)), (0, .ref (ha 0)), (1, .int (iI (c : Int))), (2, .int (iI x))]) (by decide) rfl dX3_quoted_5 ?_
  refine jj_iload_n C0 3 rfl dX3_quoted_6 ?_
  rcases (by omega : x = 0 ∨ x = 1 ∨ x = 2 ∨ x = 3) with rfl | rfl | rfl | rfl
  · refine jj_tab C0 (tgt := 36) (k := 0) (by omega) dX3_quoted_7 (by decide) (by decide) rfl (by decide) ?_
    refine jj_aload_n C0 0 rfl dX3_quoted_36 ?_
    refine jj_getN C0 (ci := 1) (v := .int (iI (Bi c))) hin_X0 ((8 + (3 * c + 0))) ((wH_c (c := c) (by omega))) rfl 6 (by decide) (va_Nw.use rfl (hE.1 _ (hN_465))) (fun _ h9 => h9) rfl dX3_quoted_37 ?_
    exact jj_iret C0 hr () (trivial) (by rfl) (rfl) (by decide) (by decide) dX3_quoted_40
  · refine jj_tab C0 (tgt := 41) (k := 1) (by omega) dX3_quoted_7 (by decide) (by decide) rfl (by decide) ?_
    refine jj_aload_n C0 0 rfl dX3_quoted_41 ?_
    refine jj_getN C0 (ci := 1) (v := .int (iI (As c))) hin_X0 ((8 + (3 * c + 0))) ((wH_c (c := c) (by omega))) rfl 7 (by decide) (va_Nw.use rfl (hE.1 _ (hN_467))) (fun _ h9 => h9) rfl dX3_quoted_42 ?_
    exact jj_iret C0 hr () (trivial) (by rfl) (rfl) (by decide) (by decide) dX3_quoted_45
  · refine jj_tab C0 (tgt := 46) (k := 2) (by omega) dX3_quoted_7 (by decide) (by decide) rfl (by decide) ?_
    refine jj_aload_n C0 0 rfl dX3_quoted_46 ?_
    refine jj_getN C0 (ci := 1) (v := .int (iI (BL c))) hin_X0 ((8 + (3 * c + 0))) ((wH_c (c := c) (by omega))) rfl 8 (by decide) (va_Nw.use rfl (hE.1 _ (hN_469))) (fun _ h9 => h9) rfl dX3_quoted_47 ?_
    exact jj_iret C0 hr () (trivial) (by rfl) (rfl) (by decide) (by decide) dX3_quoted_50
  · refine jj_tab C0 (tgt := 51) (k := 3) (by omega) dX3_quoted_7 (by decide) (by decide) rfl (by decide) ?_
    refine jj_aload_n C0 0 rfl dX3_quoted_51 ?_
    refine jj_getN C0 (ci := 1) (v := .int (iI (AL c))) hin_X0 ((8 + (3 * c + 0))) ((wH_c (c := c) (by omega))) rfl 9 (by decide) (va_Nw.use rfl (hE.1 _ (hN_471))) (fun _ h9 => h9) rfl dX3_quoted_52 ?_
    exact jj_iret C0 hr () (trivial) (by rfl) (rfl) (by decide) (by decide) dX3_quoted_55
end CC6
