theorem f_dsum_199 {dv : Nat → Int} (h : ∀ j, dv j ≤ 199) (t : Nat) : ∀ j : Nat, f_dsum dv t j ≤ 199 * (j : Int)
  | 0 => by simp [f_dsum]
  | j + 1 => by
    have h1 := f_dsum_199 h t j
    have h2 := h (t + 1 + j)
    simp only [f_dsum]
    omega
theorem f_price_dev {up dn : Int} {dv : Nat → Int} {t : Nat} {fr : Int} {j k : Nat} (hup : 1 ≤ up ∧ up ≤ 10) (hdn : 1 ≤ dn ∧ dn ≤ 10) (hdv : ∀ j, 0 ≤ dv j ∧ dv j ≤ 1000) (h9 : ∀ j, dv j ≤ 199) (hj : j ≤ 5) (hk : k ≤ j) : -1495 ≤ f_price up dn dv t fr j k - fr ∧ f_price up dn dv t fr j k - fr ≤ 1495 := by
  have h1 := f_dsum_bd hdv t j
  have h4 := f_dsum_199 h9 t j
  have h2 := f_mul_bd (a := up) (b := (k : Int)) (A := 10) (B := 5) (by omega) (by omega) (by omega) (by omega)
  have h3 := f_mul_bd (a := dn) (b := (j : Int) - (k : Int)) (A := 10) (B := 5) (by omega) (by omega) (by omega) (by omega)
  unfold f_price f_pb
  rw [Int.mul_assoc 10 up, Int.mul_assoc 10 dn]
  omega
theorem f_V_bM {up dn M : Int} {dv : Nat → Int} {t : Nat} {ki st am fr : Int} (hup : 1 ≤ up ∧ up ≤ 10) (hdn : 1 ≤ dn ∧ dn ≤ 10) (N : Nat) (hM : ∀ d k : Nat, d ≤ N → k ≤ d → f_pays ki st (f_price up dn dv t fr d k) ≤ M) : ∀ r d k : Nat, d + r ≤ N → k ≤ d → f_V up dn dv t ki st am fr r d k ≤ M * (up + dn) ^ r
  | 0, d, k, h, hk => by
    have h1 := hM d k (by omega) hk
    simp only [f_V, Int.pow_zero]
    omega
  | r + 1, d, k, h, hk => by
    have h1 := f_V_bM hup hdn N hM (am := am) r (d + 1) (k + 1) (by omega) (by omega)
    have h2 := f_V_bM hup hdn N hM (am := am) r (d + 1) k (by omega) (by omega)
    have h3 := hM d k (by omega) hk
    have h4 := Int.mul_le_mul_of_nonneg_left h1 (show 0 ≤ dn by omega)
    have h5 := Int.mul_le_mul_of_nonneg_left h2 (show 0 ≤ up by omega)
    have h6 : 0 ≤ (up + dn) ^ (r + 1) := Int.pow_nonneg (by omega)
    have h7 := Int.mul_le_mul_of_nonneg_right h3 h6
    have h8 : M * (up + dn) ^ (r + 1) = dn * (M * (up + dn) ^ r) + up * (M * (up + dn) ^ r) := by
      rw [Int.pow_succ, ← Int.add_mul, Int.add_comm dn up, Int.mul_comm ((up + dn) ^ r), Int.mul_left_comm]
    simp only [f_V]
    generalize f_V up dn dv t ki st am fr r (d + 1) (k + 1) = a at *
    generalize f_V up dn dv t ki st am fr r (d + 1) k = b at *
    generalize f_pays ki st (f_price up dn dv t fr d k) * (up + dn) ^ (r + 1) = c at *
    split <;> omega
/-- the fair price is near what the share's price and the strike are apart by -/
theorem f_fair {up dn X : Int} {dv : Nat → Int} {t : Nat} {ki st ex am fr : Int} (hup : 1 ≤ up ∧ up ≤ 10) (hdn : 1 ≤ dn ∧ dn ≤ 10) (hdv : ∀ j, 0 ≤ dv j ∧ dv j ≤ 1000) (h9 : ∀ j, dv j ≤ 199) (hst : 0 ≤ st ∧ st ≤ 20000) (hfr : -30000 ≤ fr ∧ fr ≤ 30000) (hex : (t : Int) ≤ ex ∧ ex ≤ (t : Int) + 5) (hX : -X ≤ st - fr ∧ st - fr ≤ X) : 0 ≤ f_mark up dn dv t ki st ex am fr / 1000 ∧ f_mark up dn dv t ki st ex am fr / 1000 ≤ X + 1495 := by
  have h1 := f_num_bd (ki := ki) (am := am) (t := t) hup hdn hdv hst hfr (ex := ex) (by omega)
  have h2 : f_num up dn dv t ki st ex am fr ≤ (X + 1495) * f_den up dn t ex := by
    unfold f_num f_den
    rw [if_neg (by omega)]
    refine f_V_bM hup hdn (ex - (t : Int)).toNat (fun d k hd hk => ?_) _ 0 0 (by omega) (Nat.le_refl _)
    have h3 := f_price_dev (t := t) (fr := fr) hup hdn hdv h9 (j := d) (k := k) (by omega) hk
    unfold f_pays
    split <;> omega
  unfold f_mark
  generalize f_num up dn dv t ki st ex am fr = v at *
  generalize f_den up dn t ex = w at *
  have h4 := f_mk_bd (v := v) (w := w) ⟨h1.1, by omega⟩ h1.2.2
  have h5 : v / w ≤ X + 1495 := by
    have := Int.ediv_le_ediv (c := w) (by omega) h2
    rw [Int.mul_ediv_cancel _ (by omega)] at this
    exact this
  unfold f_mk
  omega
section P7
variable {p : Program} {l : Launch} {e : Env} {s : State} {m : MethodId} {args : Array Value} {below : List Frame} {meth : Method} {c9 : Code} {dC : Nat → ClassId} {dI : Nat → Nat → Nat} {A : Nat → Prop} {Q : State → Prop} {ha ka : Nat → Nat} {cI cJ cZ cO : ClassId} {es mi b L : Nat} {sa : Nat → Nat} {xs : Nat → Int32} {k9 t : Nat} {u9 v9 io : Int} {c w9 cells slots : Nat} {cA hA nA : Nat → Nat} {ed : Nat} {rw : Nat → Int} {mc : Int} {GG : va_W} {td : Nat} {pr up dn : Int} {dv : Nat → Int} {sd : Int} {n : Nat} {mo sh co : Int} {Ca Cz K St Ex Am Ov Bi As Bj Aj BL AL He Co Cj : Nat → Int}
set_option maxHeartbeats 4000000 in
set_option maxRecDepth 100000 in
theorem lq_quote (hC9 : f_C9 p l s m args meth c9 dC dI A cI cJ cZ cO es mi sa b L xs) (hcs : cells + 100 ≤ 600104 ∧ slots + 4000 ≤ 7301314) (hk9 : k9 ≤ 89) (ht9 : t ≤ 89) (hI : f_IV k9 td n pr up dn dv sd mo sh Ca K St Ex Am Ov Bi As Bj Aj BL AL He Co) (hJ : f_JV t td n pr dv sh St Ex Bj Aj) (hcc : f_JC Ov Co Cj) (hG : f_LG cO es n ed cA GG) (hu9 : iR u9) (hv9 : iR v9) (kK : f_K9 p l e s m args below meth c9 dC dI A Q ha ka cI cJ cZ cO es b k9 t u9 cells slots)  (hwc : n = 0 ∨ c < n) (hww : w9 ≤ 6) (hio : (io = 1 ∧ (n = 0 ∨ Ov c = 1)) ∨ (io = 0 ∧ c < n ∧ Ov c = 0)) : jj_W p l e room_1 s m args below meth c9 (dC, dI) vwCl A 46 cells slots Q 699 [(18, .int (iI (-1))), (17, .int (iI 1)), (16, .int (iI io)), (14, .long (lI (f_W up dn dv td n K St Ex Am He Ca sh pr))), (13, .int (iI (w9 : Int))), (12, .int (iI (c : Int))), (11, .int (iI u9)), (10, .int (iI v9)), (9, .int (iI (t : Int))), (8, .ref (ka 6)), (7, .ref (ka 5)), (6, .ref (ka 4)), (5, .ref (ka 3)), (4, .ref (ka 2)), (3, .ref (ka 1)), (2, .ref (ka 0)), (1, .ref (ha 0)), (0, .ref b)] [] (wH ha cA hA nA ed cI cJ cZ td pr up dn dv rw sd mc n mo sh co Ca Cz K St Ex Am Bi As BL AL He Co ++ (GG ++ wL ka cI cJ td pr up dn mo sh co n K St Ex Am Ov Bj Aj BL AL He Cj dv Ca sd Cz)) := by
  obtain ⟨C0, hl, hL⟩ := hC9
  have hw := C0.2.2.2.2.1
  have hEV := hEVS es mi sa b L xs
  have hED0 : 0 < n → f_ED cA n ed cO GG := fun h9 => by have h8 := f_LG_ED (M := []) hG h9; rwa [List.append_nil] at h8
  have hCj9 := hcc.1
  have hV := hI
  obtain ⟨⟨htd, hn, hpr, hup, hdn, hdv, hsd, hmo, hsh⟩, ⟨hK, hSt, hEx, hAm, hOv, hovs, hexs, hovn⟩, hQ9, ⟨hHe, hsums, hHz⟩, ⟨hCo, hCz⟩, hCa⟩ := hI
  have hQ := hQ9
  obtain ⟨hBi, hAs, hBj, hAj, hBL, hAL, hQt, hQ0, hQn, hQo⟩ := hQ9
  have hW9 := hJ
  obtain ⟨hn6, htd5, hex5, hSp, hdv9, hBA, hsh9⟩ := hJ
  have hexs1 : ∀ c, c < n → Ex c ≤ (td : Int) + 10 := fun c hc => (hexs c hc).1
  have hHe9 : ∀ j, -999000 ≤ He j ∧ He j ≤ 999000 := fun j => by have := hHe j; omega
  have hHe6 : ∀ j, -1000000 ≤ He j ∧ He j ≤ 1000000 := fun j => by have := hHe j; omega
  have hCa9 : ∀ j, -100000000000000000 ≤ Ca j ∧ Ca j ≤ 100000000000000000 := fun j => by have := hCa j; omega
  have hov5 : ∀ c, c < n → (Ov c = 1 ∧ Ex c < (td : Int)) ∨ (Ov c = 0 ∧ (td : Int) ≤ Ex c ∧ Ex c ≤ (td : Int) + 5) := fun c hc => by have h1 := hovs c hc; have h2 := hex5 c hc; omega
  have hovw : ∀ c, c < n → He (7 * c + 6) = 0 ∨ (Ov c = 1 ∧ Ex c < (td : Int)) ∨ (Ov c = 0 ∧ (td : Int) ≤ Ex c ∧ Ex c ≤ (td : Int) + 5) := fun c hc => Or.inr (hov5 c hc)
  refine jj_iload C0 2 rfl dL_law_699 ?_
  refine jj_if_eq C0 (by omega) dL_law_701 (tgt := 707) (by decide) (fun c_1 => ?_) (fun c_1 => ?_)
  · have hcn : c < n := by omega
    have hov0 : Ov c = 0 := by omega
    have hov1 := hovs c hcn
    have hx5 := hex5 c hcn
    have hmb := f_mark_bd (t := td) (ki := K c) (am := Am c) (fr := pr) hup hdn hdv (hSt c) (by omega) (ex := Ex c) (hexs1 c hcn)
    refine jj_iload C0 5 rfl dL_law_707 ?_
    refine jj_aload C0 11 rfl dL_law_709 ?_
    refine jj_iconst C0 dL_law_711 ?_
    refine jj_toLw ?_
    refine jj_iald C0 (q0 := 4) (t0 := 0) (f := (f_lg td pr up dn mo sh co n)) (rfl) rfl (k := 1) (by omega) (by omega) (by decide) dL_law_712 ?_
    refine jj_topi (b := pr) (rfl) ?_
    refine jj_aload_n C0 15 rfl dL_law_713 ?_
    refine jj_aload C0 11 rfl dL_law_714 ?_
    refine jj_aload C0 10 rfl dL_law_716 ?_
    refine jj_callSl C0 (cells' := (cells + 1)) (slots' := (slots + 32)) (cc_L_markOf hEV (c := c) (fr := pr) (by omega) (hov5 _ (by omega)) htd5 (by omega) hup hdn hdv hK hSt hEx hAm hOv) (cwS 5 hw (lw_gS hU_709 hU_710 hU_42 hU_711) rfl rfl rfl (by decide +kernel) ⟨Nat.le_of_ble_eq_true rfl, Nat.le_of_ble_eq_true rfl⟩) rfl rfl (Nat.le_of_ble_eq_true rfl) ⟨by show cells + 1 ≤ 600104; omega, by show slots + 32 ≤ 7301314; omega⟩ rfl rfl dL_law_718 ?_
    intro _ hu
    show jj_W _ _ _ _ _ _ _ _ _ _ _ _ _ _ _ _ _ 721 _ [.long (lI (f_mark up dn dv td (K c) (St c) (Ex c) (Am c) pr))] (wL ka cI cJ td pr up dn mo sh co n K St Ex Am Ov Bj Aj BL AL He Cj dv Ca sd Cz ++ (wH ha cA hA nA ed cI cJ cZ td pr up dn dv rw sd mc n mo sh co Ca Cz K St Ex Am Bi As BL AL He Co ++ GG))
    refine jj_ldc2 C0 (z := 1000) (by decide) (hw _ hU_712) dL_law_721 ?_
    refine jj_ldiv C0 (by omega) (by omega) (by omega) (by omega) dL_law_724 ?_
    refine jj_l2i C0 dL_law_725 ?_
    obtain ⟨fa, hfa⟩ : ∃ z : Int, z = ((f_mark up dn dv td (K c) (St c) (Ex c) (Am c) pr) / 1000) := ⟨_, rfl⟩
    have hbfa : 0 ≤ fa ∧ fa ≤ 100 + 202 * (t : Int) + 1495 := by rw [hfa]; exact f_fair hup hdn hdv hdv9 (hSt c) (by omega) (by omega) (hSp c hcn)
    refine jj_topi (b := fa) (hfa.symm) ?_
    refine jj_istore C0 (lv' := [(26, .int (iI fa)), (18, .int (iI (-1))), (17, .int (iI 1)), (16, .int (iI io)), (14, .long (lI (f_W up dn dv td n K St Ex Am He Ca sh pr))), (13, .int (iI (w9 : Int))), (12, .int (iI (c : Int))), (11, .int (iI u9)), (10, .int (iI v9)), (9, .int (iI (t : Int))), (8, .ref (ka 6)), (7, .ref (ka 5)), (6, .ref (ka 4)), (5, .ref (ka 3)), (4, .ref (ka 2)), (3, .ref (ka 1)), (2, .ref (ka 0)), (1, .ref (ha 0)), (0, .ref b)]) (by decide) rfl dL_law_726 ?_
    refine jj_iload C0 0 rfl dL_law_728 ?_
    refine jj_iload C0 7 rfl dL_law_730 ?_
    refine jj_bipush C0 dL_law_732 (by decide) ?_
    refine jj_callSi C0 (cells' := (cells + 1)) (slots' := (slots + 32)) (cc_L_low hEV (v := u9) (m := 31) (by omega)) (cwS 2 hw (lw_gS hU_167 hU_168 hU_42 hU_169) rfl rfl rfl (by decide +kernel) ⟨Nat.le_of_ble_eq_true rfl, Nat.le_of_ble_eq_true rfl⟩) rfl rfl (Nat.le_of_ble_eq_true rfl) ⟨by show (cells + 1) + 0 ≤ 600104; omega, by show (slots + 32) + 0 ≤ 7301314; omega⟩ rfl rfl dL_law_734 ?_
    intro _ hu
    show jj_W _ _ _ _ _ _ _ _ _ _ _ _ _ _ _ _ _ 737 _ [.int (iI (f_lo u9 31)), .int (iI fa)] (wL ka cI cJ td pr up dn mo sh co n K St Ex Am Ov Bj Aj BL AL He Cj dv Ca sd Cz ++ (wH ha cA hA nA ed cI cJ cZ td pr up dn dv rw sd mc n mo sh co Ca Cz K St Ex Am Bi As BL AL He Co ++ GG))
    obtain ⟨x1, hx1⟩ : ∃ z : Int, z = (f_lo u9 31) := ⟨_, rfl⟩
    have hbx1 : 0 ≤ x1 ∧ x1 < 31 := by rw [hx1]; exact f_lo_bd _ (by omega)
    refine jj_topi (b := x1) (hx1.symm) ?_
    refine jj_iadd C0 dL_law_737 ?_
    refine jj_bipush C0 dL_law_738 (by decide) ?_
    refine jj_isub C0 dL_law_740 ?_
    obtain ⟨bd0, hbd0⟩ : ∃ z : Int, z = ((fa + x1) - 15) := ⟨_, rfl⟩
    refine jj_topi (b := bd0) (hbd0.symm) ?_
    refine jj_istore C0 (lv' := [(27, .int (iI bd0)), (26, .int (iI fa)), (18, .int (iI (-1))), (17, .int (iI 1)), (16, .int (iI io)), (14, .long (lI (f_W up dn dv td n K St Ex Am He Ca sh pr))), (13, .int (iI (w9 : Int))), (12, .int (iI (c : Int))), (11, .int (iI u9)), (10, .int (iI v9)), (9, .int (iI (t : Int))), (8, .ref (ka 6)), (7, .ref (ka 5)), (6, .ref (ka 4)), (5, .ref (ka 3)), (4, .ref (ka 2)), (3, .ref (ka 1)), (2, .ref (ka 0)), (1, .ref (ha 0)), (0, .ref b)]) (by decide) rfl dL_law_741 ?_
    refine jj_join (X := Int) (pcj := 754) (fun q9 => match q9 with | bd => [(27, .int (iI bd0)), (26, .int (iI fa)), (18, .int (iI (-1))), (17, .int (iI 1)), (16, .int (iI io)), (14, .long (lI (f_W up dn dv td n K St Ex Am He Ca sh pr))), (13, .int (iI (w9 : Int))), (12, .int (iI (c : Int))), (11, .int (iI u9)), (10, .int (iI v9)), (9, .int (iI (t : Int))), (8, .ref (ka 6)), (7, .ref (ka 5)), (6, .ref (ka 4)), (5, .ref (ka 3)), (4, .ref (ka 2)), (3, .ref (ka 1)), (2, .ref (ka 0)), (1, .ref (ha 0)), (0, .ref b)]) (fun q9 => match q9 with | bd => [.int (iI bd)]) (fun q9 => match q9 with | bd => wL ka cI cJ td pr up dn mo sh co n K St Ex Am Ov Bj Aj BL AL He Cj dv Ca sd Cz ++ (wH ha cA hA nA ed cI cJ cZ td pr up dn dv rw sd mc n mo sh co Ca Cz K St Ex Am Bi As BL AL He Co ++ GG)) (fun q9 => match q9 with | bd => 0 ≤ bd ∧ bd ≤ 19900) ?_ ?_
    · intro q9 hq9
      obtain ⟨bd, rfl⟩ : ∃ z, z = q9 := ⟨_, rfl⟩
      have hbd : 0 ≤ bd ∧ bd ≤ 19900 := hq9
      refine jj_istore C0 (lv' := [(27, .int (iI bd)), (26, .int (iI fa)), (18, .int (iI (-1))), (17, .int (iI 1)), (16, .int (iI io)), (14, .long (lI (f_W up dn dv td n K St Ex Am He Ca sh pr))), (13, .int (iI (w9 : Int))), (12, .int (iI (c : Int))), (11, .int (iI u9)), (10, .int (iI v9)), (9, .int (iI (t : Int))), (8, .ref (ka 6)), (7, .ref (ka 5)), (6, .ref (ka 4)), (5, .ref (ka 3)), (4, .ref (ka 2)), (3, .ref (ka 1)), (2, .ref (ka 0)), (1, .ref (ha 0)), (0, .ref b)]) (by decide) rfl dL_law_754 ?_
      refine jj_iload C0 8 rfl dL_law_756 ?_
      refine jj_bipush C0 dL_law_758 (by decide) ?_
      refine jj_ishrX C0 dL_law_760 ?_
      have hR760 := f_sr_R u9 12
      refine jj_bipush C0 dL_law_761 (by decide) ?_
      refine jj_callSi C0 (cells' := (cells + 1)) (slots' := (slots + 32)) (cc_L_low hEV (v := (f_sr u9 12)) (m := 40) (by omega)) (cwS 2 hw (lw_gS hU_167 hU_168 hU_42 hU_169) rfl rfl rfl (by decide +kernel) ⟨Nat.le_of_ble_eq_true rfl, Nat.le_of_ble_eq_true rfl⟩) rfl rfl (Nat.le_of_ble_eq_true rfl) ⟨by show (cells + 1) + 0 ≤ 600104; omega, by show (slots + 32) + 0 ≤ 7301314; omega⟩ rfl rfl dL_law_763 ?_
      intro _ hu
      show jj_W _ _ _ _ _ _ _ _ _ _ _ _ _ _ _ _ _ 766 _ [.int (iI (f_lo (f_sr u9 12) 40))] (wL ka cI cJ td pr up dn mo sh co n K St Ex Am Ov Bj Aj BL AL He Cj dv Ca sd Cz ++ (wH ha cA hA nA ed cI cJ cZ td pr up dn dv rw sd mc n mo sh co Ca Cz K St Ex Am Bi As BL AL He Co ++ GG))
      obtain ⟨sz, hsz⟩ : ∃ z : Int, z = (f_lo (f_sr u9 12) 40) := ⟨_, rfl⟩
      have hbsz : 0 ≤ sz ∧ sz < 40 := by rw [hsz]; exact f_lo_bd _ (by omega)
      refine jj_topi (b := sz) (hsz.symm) ?_
      refine jj_istore C0 (lv' := [(28, .int (iI sz)), (27, .int (iI bd)), (26, .int (iI fa)), (18, .int (iI (-1))), (17, .int (iI 1)), (16, .int (iI io)), (14, .long (lI (f_W up dn dv td n K St Ex Am He Ca sh pr))), (13, .int (iI (w9 : Int))), (12, .int (iI (c : Int))), (11, .int (iI u9)), (10, .int (iI v9)), (9, .int (iI (t : Int))), (8, .ref (ka 6)), (7, .ref (ka 5)), (6, .ref (ka 4)), (5, .ref (ka 3)), (4, .ref (ka 2)), (3, .ref (ka 1)), (2, .ref (ka 0)), (1, .ref (ha 0)), (0, .ref b)]) (by decide) rfl dL_law_766 ?_
      refine jj_aload C0 15 rfl dL_law_768 ?_
      refine jj_iload C0 8 rfl dL_law_770 ?_
      refine jj_iload C0 1 rfl dL_law_772 ?_
      refine jj_iast C0 (q0 := 3) (t0 := 0) (f := (f_lq Bj Aj BL AL)) (rfl) rfl (k := c) (by omega) (by omega) (by decide) (ws' := wL ka cI cJ td pr up dn mo sh co n K St Ex Am Ov (va_up Bj c bd) Aj BL AL He Cj dv Ca sd Cz ++ (wH ha cA hA nA ed cI cJ cZ td pr up dn dv rw sd mc n mo sh co Ca Cz K St Ex Am Bi As BL AL He Co ++ GG)) (wL_Bi (by omega)) dL_law_774 ?_
      refine jj_aload C0 15 rfl dL_law_775 ?_
      refine jj_bipush C0 dL_law_777 (by decide) ?_
      refine jj_iload C0 8 rfl dL_law_779 ?_
      refine jj_iadd C0 dL_law_781 ?_
      refine jj_iload C0 1 rfl dL_law_782 ?_
      refine jj_iload C0 9 rfl dL_law_784 ?_
      refine jj_bipush C0 dL_law_786 (by decide) ?_
      refine jj_ishrX C0 dL_law_788 ?_
      have hR788 := f_sr_R u9 6
      refine jj_bipush C0 dL_law_789 (by decide) ?_
      refine jj_callSi C0 (cells' := (cells + 1)) (slots' := (slots + 32)) (cc_L_low hEV (v := (f_sr u9 6)) (m := 25) (by omega)) (cwS 2 hw (lw_gS hU_167 hU_168 hU_42 hU_169) rfl rfl rfl (by decide +kernel) ⟨Nat.le_of_ble_eq_true rfl, Nat.le_of_ble_eq_true rfl⟩) rfl rfl (Nat.le_of_ble_eq_true rfl) ⟨by show (cells + 1) + 0 ≤ 600104; omega, by show (slots + 32) + 0 ≤ 7301314; omega⟩ rfl rfl dL_law_791 ?_
      intro _ hu
      show jj_W _ _ _ _ _ _ _ _ _ _ _ _ _ _ _ _ _ 794 _ [.int (iI (f_lo (f_sr u9 6) 25)), .int (iI bd), .int (iI (6 + (c : Int))), .ref (ka 3)] (wL ka cI cJ td pr up dn mo sh co n K St Ex Am Ov (va_up Bj c bd) Aj BL AL He Cj dv Ca sd Cz ++ (wH ha cA hA nA ed cI cJ cZ td pr up dn dv rw sd mc n mo sh co Ca Cz K St Ex Am Bi As BL AL He Co ++ GG))
      obtain ⟨x3, hx3⟩ : ∃ z : Int, z = (f_lo (f_sr u9 6) 25) := ⟨_, rfl⟩
      have hbx3 : 0 ≤ x3 ∧ x3 < 25 := by rw [hx3]; exact f_lo_bd _ (by omega)
      refine jj_topi (b := x3) (hx3.symm) ?_
      refine jj_iadd C0 dL_law_794 ?_
      refine jj_iast C0 (q0 := 3) (t0 := 0) (f := (f_lq (va_up Bj c bd) Aj BL AL)) (rfl) rfl (k := (6 + c)) (by omega) (by omega) (by decide) (ws' := wL ka cI cJ td pr up dn mo sh co n K St Ex Am Ov (va_up Bj c bd) (va_up Aj c (bd + x3)) BL AL He Cj dv Ca sd Cz ++ (wH ha cA hA nA ed cI cJ cZ td pr up dn dv rw sd mc n mo sh co Ca Cz K St Ex Am Bi As BL AL He Co ++ GG)) (wL_As (by omega)) dL_law_795 ?_
      refine jj_aload C0 15 rfl dL_law_796 ?_
      refine jj_bipush C0 dL_law_798 (by decide) ?_
      refine jj_iload C0 8 rfl dL_law_800 ?_
      refine jj_iadd C0 dL_law_802 ?_
      refine jj_iload C0 0 rfl dL_law_803 ?_
      refine jj_iast C0 (q0 := 3) (t0 := 0) (f := (f_lq (va_up Bj c bd) (va_up Aj c (bd + x3)) BL AL)) (rfl) rfl (k := (12 + c)) (by omega) (by omega) (by decide) (ws' := wL ka cI cJ td pr up dn mo sh co n K St Ex Am Ov (va_up Bj c bd) (va_up Aj c (bd + x3)) (va_up BL c sz) AL He Cj dv Ca sd Cz ++ (wH ha cA hA nA ed cI cJ cZ td pr up dn dv rw sd mc n mo sh co Ca Cz K St Ex Am Bi As BL AL He Co ++ GG)) (wL_BL (by omega)) dL_law_805 ?_
      refine jj_aload C0 15 rfl dL_law_806 ?_
      refine jj_bipush C0 dL_law_808 (by decide) ?_
      refine jj_iload C0 8 rfl dL_law_810 ?_
      refine jj_iadd C0 dL_law_812 ?_
      refine jj_iload C0 0 rfl dL_law_813 ?_
      refine jj_iast C0 (q0 := 3) (t0 := 0) (f := (f_lq (va_up Bj c bd) (va_up Aj c (bd + x3)) (va_up BL c sz) AL)) (rfl) rfl (k := (18 + c)) (by omega) (by omega) (by decide) (ws' := wL ka cI cJ td pr up dn mo sh co n K St Ex Am Ov (va_up Bj c bd) (va_up Aj c (bd + x3)) (va_up BL c sz) (va_up AL c sz) He Cj dv Ca sd Cz ++ (wH ha cA hA nA ed cI cJ cZ td pr up dn dv rw sd mc n mo sh co Ca Cz K St Ex Am Bi As BL AL He Co ++ GG)) (wL_AL) dL_law_815 ?_
      refine jj_aload_n C0 19 rfl dL_law_816 ?_
      refine jj_iload C0 8 rfl dL_law_817 ?_
      refine jj_aload C0 15 rfl dL_law_819 ?_
      refine jj_iload C0 8 rfl dL_law_821 ?_
      refine jj_iald C0 (q0 := 3) (t0 := 0) (f := (f_lq (va_up Bj c bd) (va_up Aj c (bd + x3)) (va_up BL c sz) (va_up AL c sz))) (rfl) rfl (k := c) (by omega) (by omega) (by decide) dL_law_823 ?_
      refine jj_topi (b := ((va_up Bj c bd) c)) (f_lq_Bi (by omega)) ?_
      refine jj_topi (b := bd) (va_up_self _ _ _) ?_
      refine jj_aload C0 15 rfl dL_law_824 ?_
      refine jj_bipush C0 dL_law_826 (by decide) ?_
      refine jj_iload C0 8 rfl dL_law_828 ?_
      refine jj_iadd C0 dL_law_830 ?_
      refine jj_iald C0 (q0 := 3) (t0 := 0) (f := (f_lq (va_up Bj c bd) (va_up Aj c (bd + x3)) (va_up BL c sz) (va_up AL c sz))) (rfl) rfl (k := (6 + c)) (by omega) (by omega) (by decide) dL_law_831 ?_
      refine jj_topi (b := ((va_up Aj c (bd + x3)) c)) (f_lq_As (by omega)) ?_
      refine jj_topi (b := (bd + x3)) (va_up_self _ _ _) ?_
      refine jj_iload C0 0 rfl dL_law_832 ?_
      have hVq := f_IV_quote (c := c) (x := bd) (y := (bd + x3)) (z := sz) hV hcn (by omega) (by omega) (by omega) hov0
      refine jj_toHw ?_
      refine jj_callSWi C0 (cells' := (cells + 1)) (slots' := (slots + 32)) (jj_weaki (fun A U H h => h.1.1) (cw_L_quote hl (c := c) (x := bd) (y := (bd + x3)) (z := sz) (by omega) (by omega) (by omega) (by omega) (by omega) hn (fun h9 => f_ED_app (hED0 h9)) htd hK hSt hEx hAm hBi hAs hBL hAL)) (vx_cwSW 5 hw (lw_gW hU_473 hU_474 hU_42 hU_475) rfl rfl rfl (by decide +kernel) ⟨Nat.le_of_ble_eq_true rfl, Nat.le_of_ble_eq_true rfl⟩) rfl rfl (Nat.le_of_ble_eq_true rfl) ⟨by show (cells + 1) + 0 ≤ 600104; omega, by show (slots + 32) + 0 ≤ 7301314; omega⟩ rfl rfl dL_law_834 ?_
      intro u_2 hu
      have hu1 : (u_2 = 1 ∧ (∃ a, a < n ∧ ((0 < (va_up BL c sz) a ∧ 0 < (va_up AL c sz) a) ∧ (va_up As c (if 0 < sz then (bd + x3) else 0)) a ≤ (va_up Bi c (if 0 < sz then bd else 0)) a))) ∨ (u_2 = 2 ∧ ¬ (∃ a, a < n ∧ ((0 < (va_up BL c sz) a ∧ 0 < (va_up AL c sz) a) ∧ (va_up As c (if 0 < sz then (bd + x3) else 0)) a ≤ (va_up Bi c (if 0 < sz then bd else 0)) a)) ∧ (∃ a b, a < n ∧ b < n ∧ (((0 < (va_up BL c sz) a ∧ 0 < (va_up AL c sz) a) ∧ (0 < (va_up BL c sz) b ∧ 0 < (va_up AL c sz) b) ∧ St a < St b ∧ K a = K b ∧ Ex a = Ex b ∧ Am a = Am b) ∧ ((K a = 0 ∧ (va_up As c (if 0 < sz then (bd + x3) else 0)) a < (va_up Bi c (if 0 < sz then bd else 0)) b) ∨ (K a ≠ 0 ∧ (va_up As c (if 0 < sz then (bd + x3) else 0)) b < (va_up Bi c (if 0 < sz then bd else 0)) a))))) ∨ (u_2 = 3 ∧ ¬ (∃ a, a < n ∧ ((0 < (va_up BL c sz) a ∧ 0 < (va_up AL c sz) a) ∧ (va_up As c (if 0 < sz then (bd + x3) else 0)) a ≤ (va_up Bi c (if 0 < sz then bd else 0)) a)) ∧ ¬ (∃ a b, a < n ∧ b < n ∧ (((0 < (va_up BL c sz) a ∧ 0 < (va_up AL c sz) a) ∧ (0 < (va_up BL c sz) b ∧ 0 < (va_up AL c sz) b) ∧ St a < St b ∧ K a = K b ∧ Ex a = Ex b ∧ Am a = Am b) ∧ ((K a = 0 ∧ (va_up As c (if 0 < sz then (bd + x3) else 0)) a < (va_up Bi c (if 0 < sz then bd else 0)) b) ∨ (K a ≠ 0 ∧ (va_up As c (if 0 < sz then (bd + x3) else 0)) b < (va_up Bi c (if 0 < sz then bd else 0)) a)))) ∧ (∃ a b, a < n ∧ b < n ∧ ∃ d, d < n ∧ (((0 < (va_up BL c sz) a ∧ 0 < (va_up AL c sz) a) ∧ (0 < (va_up BL c sz) b ∧ 0 < (va_up AL c sz) b) ∧ St a < St b ∧ K a = K b ∧ Ex a = Ex b ∧ Am a = Am b) ∧ ((0 < (va_up BL c sz) b ∧ 0 < (va_up AL c sz) b) ∧ (0 < (va_up BL c sz) d ∧ 0 < (va_up AL c sz) d) ∧ St b < St d ∧ K b = K d ∧ Ex b = Ex d ∧ Am b = Am d) ∧ St b - St a = St d - St b ∧ (va_up As c (if 0 < sz then (bd + x3) else 0)) a + (va_up As c (if 0 < sz then (bd + x3) else 0)) d < 2 * (va_up Bi c (if 0 < sz then bd else 0)) b))) ∨ (u_2 = 4 ∧ ¬ (∃ a, a < n ∧ ((0 < (va_up BL c sz) a ∧ 0 < (va_up AL c sz) a) ∧ (va_up As c (if 0 < sz then (bd + x3) else 0)) a ≤ (va_up Bi c (if 0 < sz then bd else 0)) a)) ∧ ¬ (∃ a b, a < n ∧ b < n ∧ (((0 < (va_up BL c sz) a ∧ 0 < (va_up AL c sz) a) ∧ (0 < (va_up BL c sz) b ∧ 0 < (va_up AL c sz) b) ∧ St a < St b ∧ K a = K b ∧ Ex a = Ex b ∧ Am a = Am b) ∧ ((K a = 0 ∧ (va_up As c (if 0 < sz then (bd + x3) else 0)) a < (va_up Bi c (if 0 < sz then bd else 0)) b) ∨ (K a ≠ 0 ∧ (va_up As c (if 0 < sz then (bd + x3) else 0)) b < (va_up Bi c (if 0 < sz then bd else 0)) a)))) ∧ ¬ (∃ a b, a < n ∧ b < n ∧ ∃ d, d < n ∧ (((0 < (va_up BL c sz) a ∧ 0 < (va_up AL c sz) a) ∧ (0 < (va_up BL c sz) b ∧ 0 < (va_up AL c sz) b) ∧ St a < St b ∧ K a = K b ∧ Ex a = Ex b ∧ Am a = Am b) ∧ ((0 < (va_up BL c sz) b ∧ 0 < (va_up AL c sz) b) ∧ (0 < (va_up BL c sz) d ∧ 0 < (va_up AL c sz) d) ∧ St b < St d ∧ K b = K d ∧ Ex b = Ex d ∧ Am b = Am d) ∧ St b - St a = St d - St b ∧ (va_up As c (if 0 < sz then (bd + x3) else 0)) a + (va_up As c (if 0 < sz then (bd + x3) else 0)) d < 2 * (va_up Bi c (if 0 < sz then bd else 0)) b)) ∧ (∃ a b, a < n ∧ b < n ∧ ((0 < (va_up BL c sz) a ∧ 0 < (va_up AL c sz) a) ∧ (0 < (va_up BL c sz) b ∧ 0 < (va_up AL c sz) b) ∧ Ex a < Ex b ∧ Am a ≠ 0 ∧ Am b ≠ 0 ∧ K a = K b ∧ St a = St b ∧ (va_up As c (if 0 < sz then (bd + x3) else 0)) b < (va_up Bi c (if 0 < sz then bd else 0)) a))) ∨ (u_2 = 0 ∧ ¬ (∃ a, a < n ∧ ((0 < (va_up BL c sz) a ∧ 0 < (va_up AL c sz) a) ∧ (va_up As c (if 0 < sz then (bd + x3) else 0)) a ≤ (va_up Bi c (if 0 < sz then bd else 0)) a)) ∧ ¬ (∃ a b, a < n ∧ b < n ∧ (((0 < (va_up BL c sz) a ∧ 0 < (va_up AL c sz) a) ∧ (0 < (va_up BL c sz) b ∧ 0 < (va_up AL c sz) b) ∧ St a < St b ∧ K a = K b ∧ Ex a = Ex b ∧ Am a = Am b) ∧ ((K a = 0 ∧ (va_up As c (if 0 < sz then (bd + x3) else 0)) a < (va_up Bi c (if 0 < sz then bd else 0)) b) ∨ (K a ≠ 0 ∧ (va_up As c (if 0 < sz then (bd + x3) else 0)) b < (va_up Bi c (if 0 < sz then bd else 0)) a)))) ∧ ¬ (∃ a b, a < n ∧ b < n ∧ ∃ d, d < n ∧ (((0 < (va_up BL c sz) a ∧ 0 < (va_up AL c sz) a) ∧ (0 < (va_up BL c sz) b ∧ 0 < (va_up AL c sz) b) ∧ St a < St b ∧ K a = K b ∧ Ex a = Ex b ∧ Am a = Am b) ∧ ((0 < (va_up BL c sz) b ∧ 0 < (va_up AL c sz) b) ∧ (0 < (va_up BL c sz) d ∧ 0 < (va_up AL c sz) d) ∧ St b < St d ∧ K b = K d ∧ Ex b = Ex d ∧ Am b = Am d) ∧ St b - St a = St d - St b ∧ (va_up As c (if 0 < sz then (bd + x3) else 0)) a + (va_up As c (if 0 < sz then (bd + x3) else 0)) d < 2 * (va_up Bi c (if 0 < sz then bd else 0)) b)) ∧ ¬ (∃ a b, a < n ∧ b < n ∧ ((0 < (va_up BL c sz) a ∧ 0 < (va_up AL c sz) a) ∧ (0 < (va_up BL c sz) b ∧ 0 < (va_up AL c sz) b) ∧ Ex a < Ex b ∧ Am a ≠ 0 ∧ Am b ≠ 0 ∧ K a = K b ∧ St a = St b ∧ (va_up As c (if 0 < sz then (bd + x3) else 0)) b < (va_up Bi c (if 0 < sz then bd else 0)) a))) := hu
      show jj_W _ _ _ _ _ _ _ _ _ _ _ _ _ _ _ _ _ 837 _ [.int (iI u_2)] (wH ha cA hA nA ed cI cJ cZ td pr up dn dv rw sd mc n mo sh co Ca Cz K St Ex Am (va_up Bi c (if 0 < sz then bd else 0)) (va_up As c (if 0 < sz then (bd + x3) else 0)) (va_up BL c sz) (va_up AL c sz) He Co ++ (GG ++ wL ka cI cJ td pr up dn mo sh co n K St Ex Am Ov (va_up Bj c bd) (va_up Aj c (bd + x3)) (va_up BL c sz) (va_up AL c sz) He Cj dv Ca sd Cz))
      refine jj_aload_n C0 18 rfl dL_law_837 ?_
      refine jj_aload C0 15 rfl dL_law_838 ?_
      refine jj_aload C0 14 rfl dL_law_840 ?_
      refine jj_toLw ?_
      refine jj_callSi C0 (cells' := (cells + 1)) (slots' := (slots + 32)) (cc_L_faultOf hEV  hn6 hK hSt hEx hAm hOv hVq.2.2.1.2.2.2.2.1 hVq.2.2.1.2.2.2.2.2.1 hVq.2.2.1.2.2.1 hVq.2.2.1.2.2.2.1 hVq.2.2.1.2.2.2.2.2.2.2.2.2) (cwS 3 hw (lw_gS hU_725 hU_726 hU_42 hU_727) rfl rfl rfl (by decide +kernel) ⟨Nat.le_of_ble_eq_true rfl, Nat.le_of_ble_eq_true rfl⟩) rfl rfl (Nat.le_of_ble_eq_true rfl) ⟨by show (cells + 1) + 0 ≤ 600104; omega, by show (slots + 32) + 0 ≤ 7301314; omega⟩ rfl rfl dL_law_842 ?_
      intro u_3 hu
      have hu2 : f_isF (f_F n K St Ex Am Ov (va_up Bj c bd) (va_up Aj c (bd + x3)) (va_up BL c sz) (va_up AL c sz)) n u_3 := hu
      show jj_W _ _ _ _ _ _ _ _ _ _ _ _ _ _ _ _ _ 845 _ [.int (iI u_3), .int (iI u_2)] (wL ka cI cJ td pr up dn mo sh co n K St Ex Am Ov (va_up Bj c bd) (va_up Aj c (bd + x3)) (va_up BL c sz) (va_up AL c sz) He Cj dv Ca sd Cz ++ (wH ha cA hA nA ed cI cJ cZ td pr up dn dv rw sd mc n mo sh co Ca Cz K St Ex Am (va_up Bi c (if 0 < sz then bd else 0)) (va_up As c (if 0 < sz then (bd + x3) else 0)) (va_up BL c sz) (va_up AL c sz) He Co ++ GG))
      refine jj_topi (b := u_2) ((f_tie (f_qq_of hVq.2.2.1) hK hAm hu2 hu1).symm) ?_
      refine jj_icmpN C0 dL_law_845 (tgt := 852) (by decide) ?_
      refine jj_iconst C0 dL_law_848 ?_
      refine jj_goto C0 (tgt := 853) dL_law_849 (by decide) ?_
      refine jj_istore C0 (lv' := [(17, .int (iI 1)), (28, .int (iI sz)), (27, .int (iI bd)), (26, .int (iI fa)), (18, .int (iI (-1))), (16, .int (iI io)), (14, .long (lI (f_W up dn dv td n K St Ex Am He Ca sh pr))), (13, .int (iI (w9 : Int))), (12, .int (iI (c : Int))), (11, .int (iI u9)), (10, .int (iI v9)), (9, .int (iI (t : Int))), (8, .ref (ka 6)), (7, .ref (ka 5)), (6, .ref (ka 4)), (5, .ref (ka 3)), (4, .ref (ka 2)), (3, .ref (ka 1)), (2, .ref (ka 0)), (1, .ref (ha 0)), (0, .ref b)]) (by decide) rfl dL_law_853 ?_
      refine jj_goto C0 (tgt := 2039) dL_law_855 (by decide) ?_
      refine jj_toHw ?_
      refine jj_lv [4, 0, 6, 9, 11, 12, 13, 14, 15, 16, 17, 18, 19, 20] rfl ?_
      exact kK cA hA nA ed rw mc GG td pr up dn dv sd n mo sh co Ca Cz Cz K St Ex Am Ov (va_up Bi c (if 0 < sz then bd else 0)) (va_up As c (if 0 < sz then (bd + x3) else 0)) (va_up Bj c bd) (va_up Aj c (bd + x3)) (va_up BL c sz) (va_up AL c sz) He Co Cj (f_W up dn dv td n K St Ex Am He Ca sh pr) (-1) _ _ (hVq) (⟨hn6, htd5, hex5, fun c hc => by have := hSp c hc; omega, hdv9, fun d => ⟨f_up_le (fun j => (hBA j).1) (by omega) d, f_up_le (fun j => (hBA j).2) (by omega) d⟩, by omega⟩) (hcc) (hG) (Or.inl ⟨rfl, rfl⟩) (by omega) (by omega)
    intro j754
    refine jj_iload C0 0 rfl dL_law_743 ?_
    refine jj_if_ge C0 (by omega) dL_law_745 (tgt := 752) (by decide) (fun c_4 => ?_) (fun c_4 => ?_)
    · refine jj_iload C0 0 rfl dL_law_752 ?_
      exact j754 bd0 (by omega)
    · refine jj_iconst C0 dL_law_748 ?_
      refine jj_goto C0 (tgt := 754) dL_law_749 (by decide) ?_
      exact j754 0 (by omega)
  · refine jj_goto C0 (tgt := 2039) dL_law_704 (by decide) ?_
    refine jj_lv [0, 1, 3, 6, 8, 9, 10, 11, 12, 13, 14, 15, 16, 17] rfl ?_
    exact kK cA hA nA ed rw mc GG td pr up dn dv sd n mo sh co Ca Cz Cz K St Ex Am Ov Bi As Bj Aj BL AL He Co Cj (f_W up dn dv td n K St Ex Am He Ca sh pr) (-1) _ _ (f_IV_k hV) (f_JV_t hW9) (hcc) (hG) (Or.inl ⟨rfl, rfl⟩) (by omega) (by omega)
set_option maxHeartbeats 4000000 in
set_option maxRecDepth 100000 in
theorem lq_hedge (hC9 : f_C9 p l s m args meth c9 dC dI A cI cJ cZ cO es mi sa b L xs) (hcs : cells + 100 ≤ 600104 ∧ slots + 4000 ≤ 7301314) (hk9 : k9 ≤ 89) (ht9 : t ≤ 89) (hI : f_IV k9 td n pr up dn dv sd mo sh Ca K St Ex Am Ov Bi As Bj Aj BL AL He Co) (hJ : f_JV t td n pr dv sh St Ex Bj Aj) (hcc : f_JC Ov Co Cj) (hG : f_LG cO es n ed cA GG) (hu9 : iR u9) (hv9 : iR v9) (kK : f_K9 p l e s m args below meth c9 dC dI A Q ha ka cI cJ cZ cO es b k9 t u9 cells slots)   : jj_W p l e room_1 s m args below meth c9 (dC, dI) vwCl A 46 cells slots Q 1317 [(18, .int (iI (-1))), (17, .int (iI 1)), (16, .int (iI io)), (14, .long (lI (f_W up dn dv td n K St Ex Am He Ca sh pr))), (13, .int (iI (w9 : Int))), (12, .int (iI (c : Int))), (11, .int (iI u9)), (10, .int (iI v9)), (9, .int (iI (t : Int))), (8, .ref (ka 6)), (7, .ref (ka 5)), (6, .ref (ka 4)), (5, .ref (ka 3)), (4, .ref (ka 2)), (3, .ref (ka 1)), (2, .ref (ka 0)), (1, .ref (ha 0)), (0, .ref b)] [] (wH ha cA hA nA ed cI cJ cZ td pr up dn dv rw sd mc n mo sh co Ca Cz K St Ex Am Bi As BL AL He Co ++ (GG ++ wL ka cI cJ td pr up dn mo sh co n K St Ex Am Ov Bj Aj BL AL He Cj dv Ca sd Cz)) := by
  obtain ⟨C0, hl, hL⟩ := hC9
  have hw := C0.2.2.2.2.1
  have hEV := hEVS es mi sa b L xs
  have hED0 : 0 < n → f_ED cA n ed cO GG := fun h9 => by have h8 := f_LG_ED (M := []) hG h9; rwa [List.append_nil] at h8
  have hCj9 := hcc.1
  have hV := hI
  obtain ⟨⟨htd, hn, hpr, hup, hdn, hdv, hsd, hmo, hsh⟩, ⟨hK, hSt, hEx, hAm, hOv, hovs, hexs, hovn⟩, hQ9, ⟨hHe, hsums, hHz⟩, ⟨hCo, hCz⟩, hCa⟩ := hI
  have hQ := hQ9
  obtain ⟨hBi, hAs, hBj, hAj, hBL, hAL, hQt, hQ0, hQn, hQo⟩ := hQ9
  have hW9 := hJ
  obtain ⟨hn6, htd5, hex5, hSp, hdv9, hBA, hsh9⟩ := hJ
  have hexs1 : ∀ c, c < n → Ex c ≤ (td : Int) + 10 := fun c hc => (hexs c hc).1
  have hHe9 : ∀ j, -999000 ≤ He j ∧ He j ≤ 999000 := fun j => by have := hHe j; omega
  have hHe6 : ∀ j, -1000000 ≤ He j ∧ He j ≤ 1000000 := fun j => by have := hHe j; omega
  have hCa9 : ∀ j, -100000000000000000 ≤ Ca j ∧ Ca j ≤ 100000000000000000 := fun j => by have := hCa j; omega
  have hov5 : ∀ c, c < n → (Ov c = 1 ∧ Ex c < (td : Int)) ∨ (Ov c = 0 ∧ (td : Int) ≤ Ex c ∧ Ex c ≤ (td : Int) + 5) := fun c hc => by have h1 := hovs c hc; have h2 := hex5 c hc; omega
  have hovw : ∀ c, c < n → He (7 * c + 6) = 0 ∨ (Ov c = 1 ∧ Ex c < (td : Int)) ∨ (Ov c = 0 ∧ (td : Int) ≤ Ex c ∧ Ex c ≤ (td : Int) + 5) := fun c hc => Or.inr (hov5 c hc)
  refine jj_iload C0 6 rfl dL_law_1317 ?_
  refine jj_sipush C0 dL_law_1319 (by decide) ?_
  refine jj_callSi C0 (cells' := cells) (slots' := slots) (cc_L_low hEV (v := u9) (m := 201) (by omega)) (cwS 2 hw (lw_gS hU_167 hU_168 hU_42 hU_169) rfl rfl rfl (by decide +kernel) ⟨Nat.le_of_ble_eq_true rfl, Nat.le_of_ble_eq_true rfl⟩) rfl rfl (Nat.le_of_ble_eq_true rfl) ⟨by show cells + 0 ≤ 600104; omega, by show slots + 0 ≤ 7301314; omega⟩ rfl rfl dL_law_1322 ?_
  intro _ hu
  show jj_W _ _ _ _ _ _ _ _ _ _ _ _ _ _ _ _ _ 1325 _ [.int (iI (f_lo u9 201))] (wH ha cA hA nA ed cI cJ cZ td pr up dn dv rw sd mc n mo sh co Ca Cz K St Ex Am Bi As BL AL He Co ++ (GG ++ wL ka cI cJ td pr up dn mo sh co n K St Ex Am Ov Bj Aj BL AL He Cj dv Ca sd Cz))
  obtain ⟨x1, hx1⟩ : ∃ z : Int, z = (f_lo u9 201) := ⟨_, rfl⟩
  have hbx1 : 0 ≤ x1 ∧ x1 < 201 := by rw [hx1]; exact f_lo_bd _ (by omega)
  refine jj_topi (b := x1) (hx1.symm) ?_
  refine jj_bipush C0 dL_law_1325 (by decide) ?_
  refine jj_isub C0 dL_law_1327 ?_
  obtain ⟨hg, hhg⟩ : ∃ z : Int, z = (x1 - 100) := ⟨_, rfl⟩
  refine jj_topi (b := hg) (hhg.symm) ?_
  refine jj_istore C0 (lv' := [(36, .int (iI hg)), (18, .int (iI (-1))), (17, .int (iI 1)), (16, .int (iI io)), (14, .long (lI (f_W up dn dv td n K St Ex Am He Ca sh pr))), (13, .int (iI (w9 : Int))), (12, .int (iI (c : Int))), (11, .int (iI u9)), (10, .int (iI v9)), (9, .int (iI (t : Int))), (8, .ref (ka 6)), (7, .ref (ka 5)), (6, .ref (ka 4)), (5, .ref (ka 3)), (4, .ref (ka 2)), (3, .ref (ka 1)), (2, .ref (ka 0)), (1, .ref (ha 0)), (0, .ref b)]) (by decide) rfl dL_law_1328 ?_
  refine jj_aload C0 12 rfl dL_law_1330 ?_
  refine jj_bipush C0 dL_law_1332 (by decide) ?_
  refine jj_iload C0 7 rfl dL_law_1334 ?_
  refine jj_bipush C0 dL_law_1336 (by decide) ?_
  refine jj_ishrX C0 dL_law_1338 ?_
  have hR1338 := f_sr_R u9 8
  refine jj_sipush C0 dL_law_1339 (by decide) ?_
  refine jj_callSi C0 (cells' := cells) (slots' := slots) (cc_L_low hEV (v := (f_sr u9 8)) (m := 1000) (by omega)) (cwS 2 hw (lw_gS hU_167 hU_168 hU_42 hU_169) rfl rfl rfl (by decide +kernel) ⟨Nat.le_of_ble_eq_true rfl, Nat.le_of_ble_eq_true rfl⟩) rfl rfl (Nat.le_of_ble_eq_true rfl) ⟨by show cells + 0 ≤ 600104; omega, by show slots + 0 ≤ 7301314; omega⟩ rfl rfl dL_law_1342 ?_
  intro _ hu
  show jj_W _ _ _ _ _ _ _ _ _ _ _ _ _ _ _ _ _ 1345 _ [.int (iI (f_lo (f_sr u9 8) 1000)), .int (iI 6), .ref (ka 4)] (wH ha cA hA nA ed cI cJ cZ td pr up dn dv rw sd mc n mo sh co Ca Cz K St Ex Am Bi As BL AL He Co ++ (GG ++ wL ka cI cJ td pr up dn mo sh co n K St Ex Am Ov Bj Aj BL AL He Cj dv Ca sd Cz))
  obtain ⟨hc, hhc⟩ : ∃ z : Int, z = (f_lo (f_sr u9 8) 1000) := ⟨_, rfl⟩
  have hbhc : 0 ≤ hc ∧ hc < 1000 := by rw [hhc]; exact f_lo_bd _ (by omega)
  refine jj_topi (b := hc) (hhc.symm) ?_
  refine jj_toLw ?_
  refine jj_iast C0 (q0 := 4) (t0 := 0) (f := (f_lg td pr up dn mo sh co n)) (rfl) rfl (k := 6) (by omega) (by omega) (by decide) (ws' := wL ka cI cJ td pr up dn mo sh hc n K St Ex Am Ov Bj Aj BL AL He Cj dv Ca sd Cz ++ (wH ha cA hA nA ed cI cJ cZ td pr up dn dv rw sd mc n mo sh co Ca Cz K St Ex Am Bi As BL AL He Co ++ GG)) (wL_co) dL_law_1345 ?_
  refine jj_aload C0 12 rfl dL_law_1346 ?_
  refine jj_iconst C0 dL_law_1348 ?_
  refine jj_dup2_11 C0 dL_law_1349 rfl rfl ?_
  refine jj_iald C0 (q0 := 4) (t0 := 0) (f := (f_lg td pr up dn mo sh hc n)) (rfl) rfl (k := 5) (by omega) (by omega) (by decide) dL_law_1350 ?_
  refine jj_topi (b := sh) (rfl) ?_
  refine jj_iload C0 0 rfl dL_law_1351 ?_
  refine jj_iadd C0 dL_law_1353 ?_
  refine jj_iast C0 (q0 := 4) (t0 := 0) (f := (f_lg td pr up dn mo sh hc n)) (rfl) rfl (k := 5) (by omega) (by omega) (by decide) (ws' := wL ka cI cJ td pr up dn mo (sh + hg) hc n K St Ex Am Ov Bj Aj BL AL He Cj dv Ca sd Cz ++ (wH ha cA hA nA ed cI cJ cZ td pr up dn dv rw sd mc n mo sh co Ca Cz K St Ex Am Bi As BL AL He Co ++ GG)) (wL_sh) dL_law_1354 ?_
  refine jj_aload C0 10 rfl dL_law_1355 ?_
  refine jj_bipush C0 dL_law_1357 (by decide) ?_
  refine jj_dup2_11 C0 dL_law_1359 rfl rfl ?_
  refine jj_lald C0 (q0 := 6) (t0 := 1) (f := (f_lm Ca sd Cz)) (rfl) rfl (k := 6) (by omega) (by omega) (by decide) dL_law_1360 ?_
  refine jj_topl (b := (Ca 6)) (f_lm_Ca (by omega)) ?_
  refine jj_ldc2 C0 (z := 1000) (by decide) (hw _ hU_712) dL_law_1361 ?_
  refine jj_aload C0 12 rfl dL_law_1364 ?_
  refine jj_iconst C0 dL_law_1366 ?_
  refine jj_iald C0 (q0 := 4) (t0 := 0) (f := (f_lg td pr up dn mo (sh + hg) hc n)) (rfl) rfl (k := 1) (by omega) (by omega) (by decide) dL_law_1367 ?_
  refine jj_topi (b := pr) (rfl) ?_
  refine jj_i2l C0 (by omega) dL_law_1368 ?_
  refine jj_lmul C0 dL_law_1369 ?_
  refine jj_iload C0 0 rfl dL_law_1370 ?_
  refine jj_i2l C0 (by omega) dL_law_1372 ?_
  refine jj_lmul C0 dL_law_1373 ?_
  refine jj_aload C0 12 rfl dL_law_1374 ?_
  refine jj_bipush C0 dL_law_1376 (by decide) ?_
  refine jj_iald C0 (q0 := 4) (t0 := 0) (f := (f_lg td pr up dn mo (sh + hg) hc n)) (rfl) rfl (k := 6) (by omega) (by omega) (by decide) dL_law_1378 ?_
  refine jj_topi (b := hc) (rfl) ?_
  refine jj_i2l C0 (by omega) dL_law_1379 ?_
  refine jj_join (X := Unit) (pcj := 1393) (fun q9 => match q9 with | () => [(36, .int (iI hg)), (18, .int (iI (-1))), (17, .int (iI 1)), (16, .int (iI io)), (14, .long (lI (f_W up dn dv td n K St Ex Am He Ca sh pr))), (13, .int (iI (w9 : Int))), (12, .int (iI (c : Int))), (11, .int (iI u9)), (10, .int (iI v9)), (9, .int (iI (t : Int))), (8, .ref (ka 6)), (7, .ref (ka 5)), (6, .ref (ka 4)), (5, .ref (ka 3)), (4, .ref (ka 2)), (3, .ref (ka 1)), (2, .ref (ka 0)), (1, .ref (ha 0)), (0, .ref b)]) (fun q9 => match q9 with | () => [.int (iI (if 0 ≤ hg then hg else -hg)), .long (lI hc), .long (lI ((1000 * pr) * hg)), .long (lI (Ca 6)), .int (iI 6), .ref (ka 6)]) (fun q9 => match q9 with | () => wL ka cI cJ td pr up dn mo (sh + hg) hc n K St Ex Am Ov Bj Aj BL AL He Cj dv Ca sd Cz ++ (wH ha cA hA nA ed cI cJ cZ td pr up dn dv rw sd mc n mo sh co Ca Cz K St Ex Am Bi As BL AL He Co ++ GG)) (fun q9 => match q9 with | () => True) ?_ ?_
  · intro q9 hq9
    obtain ⟨⟩ := q9
    have _ : True := hq9
    refine jj_i2l C0 (by split <;> omega) dL_law_1393 ?_
    refine jj_lmul C0 dL_law_1394 ?_
    refine jj_ladd C0 dL_law_1395 ?_
    refine jj_lsub C0 dL_law_1396 ?_
    refine jj_last C0 (q0 := 6) (t0 := 1) (f := (f_lm Ca sd Cz)) (rfl) rfl (k := 6) (by omega) (by omega) (by decide) (ws' := wL ka cI cJ td pr up dn mo (sh + hg) hc n K St Ex Am Ov Bj Aj BL AL He Cj dv (va_up Ca 6 ((Ca 6) - (((1000 * pr) * hg) + (hc * (if 0 ≤ hg then hg else -hg))))) sd Cz ++ (wH ha cA hA nA ed cI cJ cZ td pr up dn dv rw sd mc n mo sh co Ca Cz K St Ex Am Bi As BL AL He Co ++ GG)) (wL_Ca (by omega)) dL_law_1397 ?_
    refine jj_aload_n C0 17 rfl dL_law_1398 ?_
    refine jj_iload C0 0 rfl dL_law_1399 ?_
    refine jj_aload C0 12 rfl dL_law_1401 ?_
    refine jj_bipush C0 dL_law_1403 (by decide) ?_
    refine jj_iald C0 (q0 := 4) (t0 := 0) (f := (f_lg td pr up dn mo (sh + hg) hc n)) (rfl) rfl (k := 6) (by omega) (by omega) (by decide) dL_law_1405 ?_
    refine jj_topi (b := hc) (rfl) ?_
    refine jj_toHw ?_
    refine jj_callSWi C0 (cells' := cells) (slots' := slots) (jj_weaki (fun A U H h => h.1.1) (cw_L_hedge hl (x := hg) (y := hc) (by omega) (by omega) (by omega) hpr hexs1 hn htd hup hdn hdv hK hSt hEx hAm hHe6 hsh (fun h9 => f_ED_app (hED0 h9)))) (vx_cwSW 3 hw (lw_gW hU_604 hU_605 hU_42 hU_606) rfl rfl rfl (by decide +kernel) ⟨Nat.le_of_ble_eq_true rfl, Nat.le_of_ble_eq_true rfl⟩) rfl rfl (Nat.le_of_ble_eq_true rfl) ⟨by show cells + 0 ≤ 600104; omega, by show slots + 0 ≤ 7301314; omega⟩ rfl rfl dL_law_1406 ?_
    intro r8_1 hu
    show jj_W _ _ _ _ _ _ _ _ _ _ _ _ _ _ _ _ _ 1409 _ [.int (iI (sh + hg))] (wH ha cA hA nA ed cI cJ cZ td pr up dn dv r8_1 sd mc n mo (sh + hg) hc (va_up Ca 6 ((Ca 6) - (((1000 * pr) * hg) + (hc * (if 0 ≤ hg then hg else -hg))))) (va_up Cz 3 ((Cz 3) + ((f_W up dn dv td n K St Ex Am He (va_up Ca 6 ((Ca 6) - (((1000 * pr) * hg) + (hc * (if 0 ≤ hg then hg else -hg))))) (sh + hg) pr) - (f_W up dn dv td n K St Ex Am He Ca sh pr)))) K St Ex Am Bi As BL AL He Co ++ (GG ++ wL ka cI cJ td pr up dn mo (sh + hg) hc n K St Ex Am Ov Bj Aj BL AL He Cj dv (va_up Ca 6 ((Ca 6) - (((1000 * pr) * hg) + (hc * (if 0 ≤ hg then hg else -hg))))) sd Cz))
    refine jj_aload C0 12 rfl dL_law_1409 ?_
    refine jj_iconst C0 dL_law_1411 ?_
    refine jj_toLw ?_
    refine jj_iald C0 (q0 := 4) (t0 := 0) (f := (f_lg td pr up dn mo (sh + hg) hc n)) (rfl) rfl (k := 5) (by omega) (by omega) (by decide) dL_law_1412 ?_
    refine jj_topi (b := (sh + hg)) (rfl) ?_
    refine jj_icmpN C0 dL_law_1413 (tgt := 1420) (by decide) ?_
    refine jj_iconst C0 dL_law_1416 ?_
    refine jj_goto C0 (tgt := 1421) dL_law_1417 (by decide) ?_
    refine jj_istore C0 (lv' := [(17, .int (iI 1)), (36, .int (iI hg)), (18, .int (iI (-1))), (16, .int (iI io)), (14, .long (lI (f_W up dn dv td n K St Ex Am He Ca sh pr))), (13, .int (iI (w9 : Int))), (12, .int (iI (c : Int))), (11, .int (iI u9)), (10, .int (iI v9)), (9, .int (iI (t : Int))), (8, .ref (ka 6)), (7, .ref (ka 5)), (6, .ref (ka 4)), (5, .ref (ka 3)), (4, .ref (ka 2)), (3, .ref (ka 1)), (2, .ref (ka 0)), (1, .ref (ha 0)), (0, .ref b)]) (by decide) rfl dL_law_1421 ?_
    refine jj_iconst C0 dL_law_1423 ?_
    refine jj_istore C0 (lv' := [(18, .int (iI 3)), (17, .int (iI 1)), (36, .int (iI hg)), (16, .int (iI io)), (14, .long (lI (f_W up dn dv td n K St Ex Am He Ca sh pr))), (13, .int (iI (w9 : Int))), (12, .int (iI (c : Int))), (11, .int (iI u9)), (10, .int (iI v9)), (9, .int (iI (t : Int))), (8, .ref (ka 6)), (7, .ref (ka 5)), (6, .ref (ka 4)), (5, .ref (ka 3)), (4, .ref (ka 2)), (3, .ref (ka 1)), (2, .ref (ka 0)), (1, .ref (ha 0)), (0, .ref b)]) (by decide) rfl dL_law_1424 ?_
    refine jj_goto C0 (tgt := 2039) dL_law_1426 (by decide) ?_
    refine jj_toHw ?_
    refine jj_lv [0, 1, 4, 7, 9, 10, 11, 12, 13, 14, 15, 16, 17, 18] rfl ?_
    exact kK cA hA nA ed r8_1 mc GG td pr up dn dv sd n mo (sh + hg) hc (va_up Ca 6 ((Ca 6) - (((1000 * pr) * hg) + (hc * (if 0 ≤ hg then hg else -hg))))) (va_up Cz 3 ((Cz 3) + ((f_W up dn dv td n K St Ex Am He (va_up Ca 6 ((Ca 6) - (((1000 * pr) * hg) + (hc * (if 0 ≤ hg then hg else -hg))))) (sh + hg) pr) - (f_W up dn dv td n K St Ex Am He Ca sh pr)))) Cz K St Ex Am Ov Bi As Bj Aj BL AL He Co Cj (f_W up dn dv td n K St Ex Am He Ca sh pr) 3 _ _ (f_IV_hedge hV (by omega) (by omega) (by omega)) (⟨hn6, htd5, hex5, fun c hc => by have := hSp c hc; omega, hdv9, hBA, by omega⟩) (hcc) (hG) (Or.inr ⟨3, by omega, rfl, rfl⟩) (by omega) (by omega)
  intro j1393
  refine jj_iload C0 0 rfl dL_law_1380 ?_
  refine jj_if_ge C0 (by omega) dL_law_1382 (tgt := 1391) (by decide) (fun c_2 => ?_) (fun c_2 => ?_)
  · refine jj_iload C0 0 rfl dL_law_1391 ?_
    refine jj_topi (b := (if 0 ≤ hg then hg else -hg)) (by first | rw [if_pos (by omega)] | rw [if_neg (by omega)]) ?_
    exact j1393 () trivial
  · refine jj_iload C0 0 rfl dL_law_1385 ?_
    refine jj_ineg C0 dL_law_1387 ?_
    refine jj_goto C0 (tgt := 1393) dL_law_1388 (by decide) ?_
    refine jj_topi (b := (if 0 ≤ hg then hg else -hg)) (by first | rw [if_pos (by omega)] | rw [if_neg (by omega)]) ?_
    exact j1393 () trivial
set_option maxHeartbeats 4000000 in
set_option maxRecDepth 100000 in
theorem lq_exA (hC9 : f_C9 p l s m args meth c9 dC dI A cI cJ cZ cO es mi sa b L xs) (hcs : cells + 100 ≤ 600104 ∧ slots + 4000 ≤ 7301314) (hk9 : k9 ≤ 89) (ht9 : t ≤ 89) (hI : f_IV k9 td n pr up dn dv sd mo sh Ca K St Ex Am Ov Bi As Bj Aj BL AL He Co) (hJ : f_JV t td n pr dv sh St Ex Bj Aj) (hcc : f_JC Ov Co Cj) (hG : f_LG cO es n ed cA GG) (hu9 : iR u9) (hv9 : iR v9) (kK : f_K9 p l e s m args below meth c9 dC dI A Q ha ka cI cJ cZ cO es b k9 t u9 cells slots) {x1 : Nat} (hcn : c < n) (hww : w9 ≤ 6) (hx4 : x1 < 4) (hov0 : Ov c = 0) (hHL : ((1 + x1 : Nat) : Int) ≤ He (7 * c + w9)) (ham9 : Am c ≠ 0 ∨ Ex c = (td : Int)) : jj_W p l e room_1 s m args below meth c9 (dC, dI) vwCl A 46 cells slots Q 1551 [(37, .int (iI ((1 + x1 : Nat) : Int))), (18, .int (iI (-1))), (17, .int (iI 1)), (16, .int (iI io)), (14, .long (lI (f_W up dn dv td n K St Ex Am He Ca sh pr))), (13, .int (iI (w9 : Int))), (12, .int (iI (c : Int))), (11, .int (iI u9)), (10, .int (iI v9)), (9, .int (iI (t : Int))), (8, .ref (ka 6)), (7, .ref (ka 5)), (6, .ref (ka 4)), (5, .ref (ka 3)), (4, .ref (ka 2)), (3, .ref (ka 1)), (2, .ref (ka 0)), (1, .ref (ha 0)), (0, .ref b)] [] (wH ha cA hA nA ed cI cJ cZ td pr up dn dv rw sd mc n mo sh co Ca Cz K St Ex Am Bi As BL AL He Co ++ (GG ++ wL ka cI cJ td pr up dn mo sh co n K St Ex Am Ov Bj Aj BL AL He Cj dv Ca sd Cz)) := by
  obtain ⟨C0, hl, hL⟩ := hC9
  have hw := C0.2.2.2.2.1
  have hEV := hEVS es mi sa b L xs
  have hED0 : 0 < n → f_ED cA n ed cO GG := fun h9 => by have h8 := f_LG_ED (M := []) hG h9; rwa [List.append_nil] at h8
  have hCj9 := hcc.1
  have hV := hI
  obtain ⟨⟨htd, hn, hpr, hup, hdn, hdv, hsd, hmo, hsh⟩, ⟨hK, hSt, hEx, hAm, hOv, hovs, hexs, hovn⟩, hQ9, ⟨hHe, hsums, hHz⟩, ⟨hCo, hCz⟩, hCa⟩ := hI
  have hQ := hQ9
  obtain ⟨hBi, hAs, hBj, hAj, hBL, hAL, hQt, hQ0, hQn, hQo⟩ := hQ9
  have hW9 := hJ
  obtain ⟨hn6, htd5, hex5, hSp, hdv9, hBA, hsh9⟩ := hJ
  have hexs1 : ∀ c, c < n → Ex c ≤ (td : Int) + 10 := fun c hc => (hexs c hc).1
  have hHe9 : ∀ j, -999000 ≤ He j ∧ He j ≤ 999000 := fun j => by have := hHe j; omega
  have hHe6 : ∀ j, -1000000 ≤ He j ∧ He j ≤ 1000000 := fun j => by have := hHe j; omega
  have hCa9 : ∀ j, -100000000000000000 ≤ Ca j ∧ Ca j ≤ 100000000000000000 := fun j => by have := hCa j; omega
  have hov5 : ∀ c, c < n → (Ov c = 1 ∧ Ex c < (td : Int)) ∨ (Ov c = 0 ∧ (td : Int) ≤ Ex c ∧ Ex c ≤ (td : Int) + 5) := fun c hc => by have h1 := hovs c hc; have h2 := hex5 c hc; omega
  have hovw : ∀ c, c < n → He (7 * c + 6) = 0 ∨ (Ov c = 1 ∧ Ex c < (td : Int)) ∨ (Ov c = 0 ∧ (td : Int) ≤ Ex c ∧ Ex c ≤ (td : Int) + 5) := fun c hc => Or.inr (hov5 c hc)
  have hov1 := hovs c hcn
  refine jj_iconst C0 dL_law_1551 ?_
  refine jj_goto C0 (tgt := 1556) dL_law_1552 (by decide) ?_
  refine jj_istore C0 (lv' := [(38, .int (iI 1)), (37, .int (iI ((1 + x1 : Nat) : Int))), (18, .int (iI (-1))), (17, .int (iI 1)), (16, .int (iI io)), (14, .long (lI (f_W up dn dv td n K St Ex Am He Ca sh pr))), (13, .int (iI (w9 : Int))), (12, .int (iI (c : Int))), (11, .int (iI u9)), (10, .int (iI v9)), (9, .int (iI (t : Int))), (8, .ref (ka 6)), (7, .ref (ka 5)), (6, .ref (ka 4)), (5, .ref (ka 3)), (4, .ref (ka 2)), (3, .ref (ka 1)), (2, .ref (ka 0)), (1, .ref (ha 0)), (0, .ref b)]) (by decide) rfl dL_law_1556 ?_
  refine jj_iload C0 7 rfl dL_law_1558 ?_
  refine jj_aload C0 13 rfl dL_law_1560 ?_
  refine jj_iconst C0 dL_law_1562 ?_
  refine jj_toLw ?_
  refine jj_iald C0 (q0 := 4) (t0 := 0) (f := (f_lg td pr up dn mo sh co n)) (rfl) rfl (k := 1) (by omega) (by omega) (by decide) dL_law_1563 ?_
  refine jj_topi (b := pr) (rfl) ?_
  refine jj_i2l C0 (by omega) dL_law_1564 ?_
  refine jj_aload_n C0 17 rfl dL_law_1565 ?_
  refine jj_callSl C0 (cells' := cells) (slots' := slots) (cc_L_pays hEV (c := c) (z := pr) (by omega) (by omega) hK hSt) (cwS 3 hw (lw_gS hU_706 hU_707 hU_42 hU_708) rfl rfl rfl (by decide +kernel) ⟨Nat.le_of_ble_eq_true rfl, Nat.le_of_ble_eq_true rfl⟩) rfl rfl (Nat.le_of_ble_eq_true rfl) ⟨by show cells + 0 ≤ 600104; omega, by show slots + 0 ≤ 7301314; omega⟩ rfl rfl dL_law_1566 ?_
  intro _ hu
  show jj_W _ _ _ _ _ _ _ _ _ _ _ _ _ _ _ _ _ 1569 _ [.long (lI (f_pays (K c) (St c) pr))] (wL ka cI cJ td pr up dn mo sh co n K St Ex Am Ov Bj Aj BL AL He Cj dv Ca sd Cz ++ (wH ha cA hA nA ed cI cJ cZ td pr up dn dv rw sd mc n mo sh co Ca Cz K St Ex Am Bi As BL AL He Co ++ GG))
  refine jj_lstore C0 (lv' := [(39, .long (lI (f_pays (K c) (St c) pr))), (38, .int (iI 1)), (37, .int (iI ((1 + x1 : Nat) : Int))), (18, .int (iI (-1))), (17, .int (iI 1)), (16, .int (iI io)), (14, .long (lI (f_W up dn dv td n K St Ex Am He Ca sh pr))), (13, .int (iI (w9 : Int))), (12, .int (iI (c : Int))), (11, .int (iI u9)), (10, .int (iI v9)), (9, .int (iI (t : Int))), (8, .ref (ka 6)), (7, .ref (ka 5)), (6, .ref (ka 4)), (5, .ref (ka 3)), (4, .ref (ka 2)), (3, .ref (ka 1)), (2, .ref (ka 0)), (1, .ref (ha 0)), (0, .ref b)]) (by decide) rfl dL_law_1569 ?_
  have hp9 := f_pays_pr (ki := K c) (hSt c) hpr
  refine jj_aload_n C0 19 rfl dL_law_1571 ?_
  refine jj_join (X := Int) (pcj := 1585) (fun q9 => match q9 with | z9 => [(39, .long (lI (f_pays (K c) (St c) pr))), (38, .int (iI 1)), (37, .int (iI ((1 + x1 : Nat) : Int))), (18, .int (iI (-1))), (17, .int (iI 1)), (16, .int (iI io)), (14, .long (lI (f_W up dn dv td n K St Ex Am He Ca sh pr))), (13, .int (iI (w9 : Int))), (12, .int (iI (c : Int))), (11, .int (iI u9)), (10, .int (iI v9)), (9, .int (iI (t : Int))), (8, .ref (ka 6)), (7, .ref (ka 5)), (6, .ref (ka 4)), (5, .ref (ka 3)), (4, .ref (ka 2)), (3, .ref (ka 1)), (2, .ref (ka 0)), (1, .ref (ha 0)), (0, .ref b)]) (fun q9 => match q9 with | z9 => [.int (iI z9), .ref (ha 0)]) (fun q9 => match q9 with | z9 => wL ka cI cJ td pr up dn mo sh co n K St Ex Am Ov Bj Aj BL AL He Cj dv Ca sd Cz ++ (wH ha cA hA nA ed cI cJ cZ td pr up dn dv rw sd mc n mo sh co Ca Cz K St Ex Am Bi As BL AL He Co ++ GG)) (fun q9 => match q9 with | z9 => (z9 = -1 ∧ w9 = 6) ∨ (z9 = (w9 : Int) ∧ w9 ≤ 5)) ?_ ?_
  · intro q9 hq9
    obtain ⟨z9, rfl⟩ : ∃ z, z = q9 := ⟨_, rfl⟩
    have hz9 : (z9 = -1 ∧ w9 = 6) ∨ (z9 = (w9 : Int) ∧ w9 ≤ 5) := hq9
    refine jj_iload C0 8 rfl dL_law_1585 ?_
    refine jj_iload C0 2 rfl dL_law_1587 ?_
    refine jj_toHw ?_
    refine jj_callSWi C0 (cells' := cells) (slots' := slots) (jj_weaki (fun A U H h => h.1.1) (cw_L_exercise hl (z := z9) (c := c) (L := (1 + x1)) (k := w9) (by omega) (by omega) (by omega) (by omega) (by omega) (by omega) (hsums c hcn) hsd hpr hexs1 hn htd hup hdn hdv hK hSt hEx hAm hHe6 hsh (fun h9 => f_ED_app (hED0 h9)))) (vx_cwSW 4 hw (lw_gW hU_625 hU_626 hU_42 hU_627) rfl rfl rfl (by decide +kernel) ⟨Nat.le_of_ble_eq_true rfl, Nat.le_of_ble_eq_true rfl⟩) rfl rfl (Nat.le_of_ble_eq_true rfl) ⟨by show cells + 0 ≤ 600104; omega, by show slots + 0 ≤ 7301314; omega⟩ rfl rfl dL_law_1589 ?_
    intro r8_1 hu
    show jj_W _ _ _ _ _ _ _ _ _ _ _ _ _ _ _ _ _ 1592 _ [.int (iI (f_pays (K c) (St c) pr))] (wH ha cA hA nA ed cI cJ cZ td pr up dn dv r8_1 ((f_xN c w9 (f_pays (K c) (St c) pr) (1 + x1) (He, Ca, sd)).2.2) mc n mo sh co ((f_xN c w9 (f_pays (K c) (St c) pr) (1 + x1) (He, Ca, sd)).2.1) (va_up Cz 4 ((Cz 4) + ((f_W up dn dv td n K St Ex Am ((f_xN c w9 (f_pays (K c) (St c) pr) (1 + x1) (He, Ca, sd)).1) ((f_xN c w9 (f_pays (K c) (St c) pr) (1 + x1) (He, Ca, sd)).2.1) sh pr) - (f_W up dn dv td n K St Ex Am He Ca sh pr)))) K St Ex Am Bi As BL AL ((f_xN c w9 (f_pays (K c) (St c) pr) (1 + x1) (He, Ca, sd)).1) Co ++ (GG ++ wL ka cI cJ td pr up dn mo sh co n K St Ex Am Ov Bj Aj BL AL He Cj dv Ca sd Cz))
    refine jj_i2l C0 (by omega) dL_law_1592 ?_
    refine jj_iload C0 1 rfl dL_law_1593 ?_
    refine jj_if_eq C0 (by omega) dL_law_1595 (tgt := 1603) (by decide) (fun c_2 => absurd c_2 (by omega)) (fun c_2 => ?_)
    refine jj_lload C0 0 rfl dL_law_1598 ?_
    refine jj_goto C0 (tgt := 1606) dL_law_1600 (by decide) ?_
    refine jj_lcmpN C0 dL_law_1606 dL_law_1607 (tgt := 1614) (by decide) ?_
    refine jj_iconst C0 dL_law_1610 ?_
    refine jj_goto C0 (tgt := 1615) dL_law_1611 (by decide) ?_
    refine jj_istore C0 (lv' := [(17, .int (iI 1)), (39, .long (lI (f_pays (K c) (St c) pr))), (38, .int (iI 1)), (37, .int (iI ((1 + x1 : Nat) : Int))), (18, .int (iI (-1))), (16, .int (iI io)), (14, .long (lI (f_W up dn dv td n K St Ex Am He Ca sh pr))), (13, .int (iI (w9 : Int))), (12, .int (iI (c : Int))), (11, .int (iI u9)), (10, .int (iI v9)), (9, .int (iI (t : Int))), (8, .ref (ka 6)), (7, .ref (ka 5)), (6, .ref (ka 4)), (5, .ref (ka 3)), (4, .ref (ka 2)), (3, .ref (ka 1)), (2, .ref (ka 0)), (1, .ref (ha 0)), (0, .ref b)]) (by decide) rfl dL_law_1615 ?_
    have hxI : f_xI c w9 (He (7 * c + w9)) (He, Ca, sd) := ⟨hHe6, hsd, hsums c hcn, rfl⟩
    refine jj_iconst C0 dL_law_1617 ?_
    refine jj_istore C0 (lv' := [(41, .int (iI 0)), (17, .int (iI 1)), (39, .long (lI (f_pays (K c) (St c) pr))), (38, .int (iI 1)), (37, .int (iI ((1 + x1 : Nat) : Int))), (18, .int (iI (-1))), (16, .int (iI io)), (14, .long (lI (f_W up dn dv td n K St Ex Am He Ca sh pr))), (13, .int (iI (w9 : Int))), (12, .int (iI (c : Int))), (11, .int (iI u9)), (10, .int (iI v9)), (9, .int (iI (t : Int))), (8, .ref (ka 6)), (7, .ref (ka 5)), (6, .ref (ka 4)), (5, .ref (ka 3)), (4, .ref (ka 2)), (3, .ref (ka 1)), (2, .ref (ka 0)), (1, .ref (ha 0)), (0, .ref b)]) (by decide) rfl dL_law_1618 ?_
    refine jj_toLw ?_
    refine jj_ind (X := Nat) (fun q9 => match q9 with | i => (2 + x1 - i : Nat)) (fun q9 => match q9 with | i => [(41, .int (iI (i : Int))), (17, .int (iI 1)), (39, .long (lI (f_pays (K c) (St c) pr))), (38, .int (iI 1)), (37, .int (iI ((1 + x1 : Nat) : Int))), (18, .int (iI (-1))), (16, .int (iI io)), (14, .long (lI (f_W up dn dv td n K St Ex Am He Ca sh pr))), (13, .int (iI (w9 : Int))), (12, .int (iI (c : Int))), (11, .int (iI u9)), (10, .int (iI v9)), (9, .int (iI (t : Int))), (8, .ref (ka 6)), (7, .ref (ka 5)), (6, .ref (ka 4)), (5, .ref (ka 3)), (4, .ref (ka 2)), (3, .ref (ka 1)), (2, .ref (ka 0)), (1, .ref (ha 0)), (0, .ref b)]) (fun q9 => match q9 with | i => []) (fun q9 => match q9 with | i => wL ka cI cJ td pr up dn mo sh co n K St Ex Am Ov Bj Aj BL AL ((f_xN c w9 (f_pays (K c) (St c) pr) i (He, Ca, sd)).1) Cj dv ((f_xN c w9 (f_pays (K c) (St c) pr) i (He, Ca, sd)).2.1) ((f_xN c w9 (f_pays (K c) (St c) pr) i (He, Ca, sd)).2.2) Cz ++ (wH ha cA hA nA ed cI cJ cZ td pr up dn dv r8_1 ((f_xN c w9 (f_pays (K c) (St c) pr) (1 + x1) (He, Ca, sd)).2.2) mc n mo sh co ((f_xN c w9 (f_pays (K c) (St c) pr) (1 + x1) (He, Ca, sd)).2.1) (va_up Cz 4 ((Cz 4) + ((f_W up dn dv td n K St Ex Am ((f_xN c w9 (f_pays (K c) (St c) pr) (1 + x1) (He, Ca, sd)).1) ((f_xN c w9 (f_pays (K c) (St c) pr) (1 + x1) (He, Ca, sd)).2.1) sh pr) - (f_W up dn dv td n K St Ex Am He Ca sh pr)))) K St Ex Am Bi As BL AL ((f_xN c w9 (f_pays (K c) (St c) pr) (1 + x1) (He, Ca, sd)).1) Co ++ GG)) (fun q9 => match q9 with | i => i ≤ 1 + x1) ?_ 0 (Nat.zero_le _)
    intro q9 hq9 ih1620
    obtain ⟨i, rfl⟩ : ∃ z, z = q9 := ⟨_, rfl⟩
    have hi9 : i ≤ 1 + x1 := hq9
    show jj_W _ _ _ _ _ _ _ _ _ _ _ _ _ _ _ _ _ 1620 [(41, .int (iI (i : Int))), (17, .int (iI 1)), (39, .long (lI (f_pays (K c) (St c) pr))), (38, .int (iI 1)), (37, .int (iI ((1 + x1 : Nat) : Int))), (18, .int (iI (-1))), (16, .int (iI io)), (14, .long (lI (f_W up dn dv td n K St Ex Am He Ca sh pr))), (13, .int (iI (w9 : Int))), (12, .int (iI (c : Int))), (11, .int (iI u9)), (10, .int (iI v9)), (9, .int (iI (t : Int))), (8, .ref (ka 6)), (7, .ref (ka 5)), (6, .ref (ka 4)), (5, .ref (ka 3)), (4, .ref (ka 2)), (3, .ref (ka 1)), (2, .ref (ka 0)), (1, .ref (ha 0)), (0, .ref b)] [] (wL ka cI cJ td pr up dn mo sh co n K St Ex Am Ov Bj Aj BL AL ((f_xN c w9 (f_pays (K c) (St c) pr) i (He, Ca, sd)).1) Cj dv ((f_xN c w9 (f_pays (K c) (St c) pr) i (He, Ca, sd)).2.1) ((f_xN c w9 (f_pays (K c) (St c) pr) i (He, Ca, sd)).2.2) Cz ++ (wH ha cA hA nA ed cI cJ cZ td pr up dn dv r8_1 ((f_xN c w9 (f_pays (K c) (St c) pr) (1 + x1) (He, Ca, sd)).2.2) mc n mo sh co ((f_xN c w9 (f_pays (K c) (St c) pr) (1 + x1) (He, Ca, sd)).2.1) (va_up Cz 4 ((Cz 4) + ((f_W up dn dv td n K St Ex Am ((f_xN c w9 (f_pays (K c) (St c) pr) (1 + x1) (He, Ca, sd)).1) ((f_xN c w9 (f_pays (K c) (St c) pr) (1 + x1) (He, Ca, sd)).2.1) sh pr) - (f_W up dn dv td n K St Ex Am He Ca sh pr)))) K St Ex Am Bi As BL AL ((f_xN c w9 (f_pays (K c) (St c) pr) (1 + x1) (He, Ca, sd)).1) Co ++ GG))
    refine jj_iload C0 0 rfl dL_law_1620 ?_
    refine jj_iload C0 4 rfl dL_law_1622 ?_
    refine jj_icmp_ge C0 (by omega) (by omega) dL_law_1624 (tgt := 1650) (by decide) (fun c_3 => ?_) (fun c_3 => ?_)
    · refine jj_ws (ws' := wL ka cI cJ td pr up dn mo sh co n K St Ex Am Ov Bj Aj BL AL ((f_xN c w9 (f_pays (K c) (St c) pr) (1 + x1) (He, Ca, sd)).1) Cj dv ((f_xN c w9 (f_pays (K c) (St c) pr) (1 + x1) (He, Ca, sd)).2.1) ((f_xN c w9 (f_pays (K c) (St c) pr) (1 + x1) (He, Ca, sd)).2.2) Cz ++ (wH ha cA hA nA ed cI cJ cZ td pr up dn dv r8_1 ((f_xN c w9 (f_pays (K c) (St c) pr) (1 + x1) (He, Ca, sd)).2.2) mc n mo sh co ((f_xN c w9 (f_pays (K c) (St c) pr) (1 + x1) (He, Ca, sd)).2.1) (va_up Cz 4 ((Cz 4) + ((f_W up dn dv td n K St Ex Am ((f_xN c w9 (f_pays (K c) (St c) pr) (1 + x1) (He, Ca, sd)).1) ((f_xN c w9 (f_pays (K c) (St c) pr) (1 + x1) (He, Ca, sd)).2.1) sh pr) - (f_W up dn dv td n K St Ex Am He Ca sh pr)))) K St Ex Am Bi As BL AL ((f_xN c w9 (f_pays (K c) (St c) pr) (1 + x1) (He, Ca, sd)).1) Co ++ GG)) (by rw [show i = 1 + x1 by omega]) ?_
      refine jj_iconst C0 dL_law_1650 ?_
      refine jj_istore C0 (lv' := [(18, .int (iI 4)), (41, .int (iI (i : Int))), (17, .int (iI 1)), (39, .long (lI (f_pays (K c) (St c) pr))), (38, .int (iI 1)), (37, .int (iI ((1 + x1 : Nat) : Int))), (16, .int (iI io)), (14, .long (lI (f_W up dn dv td n K St Ex Am He Ca sh pr))), (13, .int (iI (w9 : Int))), (12, .int (iI (c : Int))), (11, .int (iI u9)), (10, .int (iI v9)), (9, .int (iI (t : Int))), (8, .ref (ka 6)), (7, .ref (ka 5)), (6, .ref (ka 4)), (5, .ref (ka 3)), (4, .ref (ka 2)), (3, .ref (ka 1)), (2, .ref (ka 0)), (1, .ref (ha 0)), (0, .ref b)]) (by decide) rfl dL_law_1651 ?_
      refine jj_goto C0 (tgt := 2039) dL_law_1653 (by decide) ?_
      refine jj_toHw ?_
      refine jj_lv [0, 2, 7, 10, 12, 13, 14, 15, 16, 17, 18, 19, 20, 21] rfl ?_
      exact kK cA hA nA ed r8_1 mc GG td pr up dn dv ((f_xN c w9 (f_pays (K c) (St c) pr) (1 + x1) (He, Ca, sd)).2.2) n mo sh co ((f_xN c w9 (f_pays (K c) (St c) pr) (1 + x1) (He, Ca, sd)).2.1) (va_up Cz 4 ((Cz 4) + ((f_W up dn dv td n K St Ex Am ((f_xN c w9 (f_pays (K c) (St c) pr) (1 + x1) (He, Ca, sd)).1) ((f_xN c w9 (f_pays (K c) (St c) pr) (1 + x1) (He, Ca, sd)).2.1) sh pr) - (f_W up dn dv td n K St Ex Am He Ca sh pr)))) Cz K St Ex Am Ov Bi As Bj Aj BL AL ((f_xN c w9 (f_pays (K c) (St c) pr) (1 + x1) (He, Ca, sd)).1) Co Cj (f_W up dn dv td n K St Ex Am He Ca sh pr) 4 _ _ (f_IV_exercise hV (by omega) hcn hww (by omega) hHL) (⟨hn6, htd5, hex5, fun c hc => by have := hSp c hc; omega, hdv9, hBA, by omega⟩) (hcc) (hG) (Or.inr ⟨4, by omega, rfl, rfl⟩) (by omega) (by omega)
    · refine jj_iload C0 3 rfl dL_law_1627 ?_
      refine jj_if_eq C0 (by omega) dL_law_1629 (tgt := 1650) (by decide) (fun c_4 => absurd c_4 (by omega)) (fun c_4 => ?_)
      have hxi := f_xI_N (br := f_pays (K c) (St c) pr) hww hxI i (by omega)
      have hxo := f_xI_ow hww (by omega) hxi
      refine jj_iload C0 8 rfl dL_law_1632 ?_
      refine jj_iload C0 9 rfl dL_law_1634 ?_
      refine jj_lload C0 2 rfl dL_law_1636 ?_
      refine jj_aload_n C0 18 rfl dL_law_1638 ?_
      refine jj_aload C0 13 rfl dL_law_1639 ?_
      refine jj_callSv C0 (cells' := cells) (slots' := slots) (cc_L_exercises hEV (k := w9) (c := c) (z := (f_pays (K c) (St c) pr)) (by omega) (by omega) (⟨by omega, by omega⟩) hxi.1 hxi.2.1) (cwS 5 hw (lw_gS hU_728 hU_729 hU_42 hU_730) rfl rfl rfl (by decide +kernel) ⟨Nat.le_of_ble_eq_true rfl, Nat.le_of_ble_eq_true rfl⟩) rfl rfl (Nat.le_of_ble_eq_true rfl) ⟨by show cells + 0 ≤ 600104; omega, by show slots + 0 ≤ 7301314; omega⟩ rfl rfl dL_law_1641 ?_
      intro _ hu
      show jj_W _ _ _ _ _ _ _ _ _ _ _ _ _ _ _ _ _ 1644 _ [] (wL ka cI cJ td pr up dn mo sh co n K St Ex Am Ov Bj Aj BL AL ((f_x1 c w9 (f_pays (K c) (St c) pr) (((f_xN c w9 (f_pays (K c) (St c) pr) i (He, Ca, sd)).1), ((f_xN c w9 (f_pays (K c) (St c) pr) i (He, Ca, sd)).2.1), ((f_xN c w9 (f_pays (K c) (St c) pr) i (He, Ca, sd)).2.2))).1) Cj dv ((f_x1 c w9 (f_pays (K c) (St c) pr) (((f_xN c w9 (f_pays (K c) (St c) pr) i (He, Ca, sd)).1), ((f_xN c w9 (f_pays (K c) (St c) pr) i (He, Ca, sd)).2.1), ((f_xN c w9 (f_pays (K c) (St c) pr) i (He, Ca, sd)).2.2))).2.1) ((f_x1 c w9 (f_pays (K c) (St c) pr) (((f_xN c w9 (f_pays (K c) (St c) pr) i (He, Ca, sd)).1), ((f_xN c w9 (f_pays (K c) (St c) pr) i (He, Ca, sd)).2.1), ((f_xN c w9 (f_pays (K c) (St c) pr) i (He, Ca, sd)).2.2))).2.2) Cz ++ (wH ha cA hA nA ed cI cJ cZ td pr up dn dv r8_1 ((f_xN c w9 (f_pays (K c) (St c) pr) (1 + x1) (He, Ca, sd)).2.2) mc n mo sh co ((f_xN c w9 (f_pays (K c) (St c) pr) (1 + x1) (He, Ca, sd)).2.1) (va_up Cz 4 ((Cz 4) + ((f_W up dn dv td n K St Ex Am ((f_xN c w9 (f_pays (K c) (St c) pr) (1 + x1) (He, Ca, sd)).1) ((f_xN c w9 (f_pays (K c) (St c) pr) (1 + x1) (He, Ca, sd)).2.1) sh pr) - (f_W up dn dv td n K St Ex Am He Ca sh pr)))) K St Ex Am Bi As BL AL ((f_xN c w9 (f_pays (K c) (St c) pr) (1 + x1) (He, Ca, sd)).1) Co ++ GG))
      refine jj_iinc C0 (z := ((i + 1 : Nat) : Int)) (lv' := [(41, .int (iI ((i + 1 : Nat) : Int))), (17, .int (iI 1)), (39, .long (lI (f_pays (K c) (St c) pr))), (38, .int (iI 1)), (37, .int (iI ((1 + x1 : Nat) : Int))), (18, .int (iI (-1))), (16, .int (iI io)), (14, .long (lI (f_W up dn dv td n K St Ex Am He Ca sh pr))), (13, .int (iI (w9 : Int))), (12, .int (iI (c : Int))), (11, .int (iI u9)), (10, .int (iI v9)), (9, .int (iI (t : Int))), (8, .ref (ka 6)), (7, .ref (ka 5)), (6, .ref (ka 4)), (5, .ref (ka 3)), (4, .ref (ka 2)), (3, .ref (ka 1)), (2, .ref (ka 0)), (1, .ref (ha 0)), (0, .ref b)]) 0 rfl (by omega) (by decide) rfl dL_law_1644 ?_
      refine jj_goto C0 (tgt := 1620) dL_law_1647 (by decide) ?_
      exact ih1620 (i + 1) (by omega) (by dsimp only; omega)
  intro j1585
  refine jj_iload C0 7 rfl dL_law_1572 ?_
  refine jj_bipush C0 dL_law_1574 (by decide) ?_
  refine jj_icmp_ne C0 (by omega) (by omega) dL_law_1576 (tgt := 1583) (by decide) (fun c_5 => ?_) (fun c_5 => ?_)
  · refine jj_iload C0 7 rfl dL_law_1583 ?_
    exact j1585 (w9 : Int) (by omega)
  · refine jj_iconst C0 dL_law_1579 ?_
    refine jj_goto C0 (tgt := 1585) dL_law_1580 (by decide) ?_
    exact j1585 (-1) (by omega)
set_option maxHeartbeats 4000000 in
set_option maxRecDepth 100000 in
theorem lq_exS (hC9 : f_C9 p l s m args meth c9 dC dI A cI cJ cZ cO es mi sa b L xs) (hcs : cells + 100 ≤ 600104 ∧ slots + 4000 ≤ 7301314) (hk9 : k9 ≤ 89) (ht9 : t ≤ 89) (hI : f_IV k9 td n pr up dn dv sd mo sh Ca K St Ex Am Ov Bi As Bj Aj BL AL He Co) (hJ : f_JV t td n pr dv sh St Ex Bj Aj) (hcc : f_JC Ov Co Cj) (hG : f_LG cO es n ed cA GG) (hu9 : iR u9) (hv9 : iR v9) (kK : f_K9 p l e s m args below meth c9 dC dI A Q ha ka cI cJ cZ cO es b k9 t u9 cells slots) {x1 : Nat} (hcn : c < n) (hww : w9 ≤ 6) (hx4 : x1 < 4) (hno : ¬ (Ov c = 0 ∧ ((1 + x1 : Nat) : Int) ≤ He (7 * c + w9) ∧ (Am c ≠ 0 ∨ Ex c = (td : Int)))) : jj_W p l e room_1 s m args below meth c9 (dC, dI) vwCl A 46 cells slots Q 1555 [(37, .int (iI ((1 + x1 : Nat) : Int))), (18, .int (iI (-1))), (17, .int (iI 1)), (16, .int (iI io)), (14, .long (lI (f_W up dn dv td n K St Ex Am He Ca sh pr))), (13, .int (iI (w9 : Int))), (12, .int (iI (c : Int))), (11, .int (iI u9)), (10, .int (iI v9)), (9, .int (iI (t : Int))), (8, .ref (ka 6)), (7, .ref (ka 5)), (6, .ref (ka 4)), (5, .ref (ka 3)), (4, .ref (ka 2)), (3, .ref (ka 1)), (2, .ref (ka 0)), (1, .ref (ha 0)), (0, .ref b)] [] (wH ha cA hA nA ed cI cJ cZ td pr up dn dv rw sd mc n mo sh co Ca Cz K St Ex Am Bi As BL AL He Co ++ (GG ++ wL ka cI cJ td pr up dn mo sh co n K St Ex Am Ov Bj Aj BL AL He Cj dv Ca sd Cz)) := by
  obtain ⟨C0, hl, hL⟩ := hC9
  have hw := C0.2.2.2.2.1
  have hEV := hEVS es mi sa b L xs
  have hED0 : 0 < n → f_ED cA n ed cO GG := fun h9 => by have h8 := f_LG_ED (M := []) hG h9; rwa [List.append_nil] at h8
  have hCj9 := hcc.1
  have hV := hI
  obtain ⟨⟨htd, hn, hpr, hup, hdn, hdv, hsd, hmo, hsh⟩, ⟨hK, hSt, hEx, hAm, hOv, hovs, hexs, hovn⟩, hQ9, ⟨hHe, hsums, hHz⟩, ⟨hCo, hCz⟩, hCa⟩ := hI
  have hQ := hQ9
  obtain ⟨hBi, hAs, hBj, hAj, hBL, hAL, hQt, hQ0, hQn, hQo⟩ := hQ9
  have hW9 := hJ
  obtain ⟨hn6, htd5, hex5, hSp, hdv9, hBA, hsh9⟩ := hJ
  have hexs1 : ∀ c, c < n → Ex c ≤ (td : Int) + 10 := fun c hc => (hexs c hc).1
  have hHe9 : ∀ j, -999000 ≤ He j ∧ He j ≤ 999000 := fun j => by have := hHe j; omega
  have hHe6 : ∀ j, -1000000 ≤ He j ∧ He j ≤ 1000000 := fun j => by have := hHe j; omega
  have hCa9 : ∀ j, -100000000000000000 ≤ Ca j ∧ Ca j ≤ 100000000000000000 := fun j => by have := hCa j; omega
  have hov5 : ∀ c, c < n → (Ov c = 1 ∧ Ex c < (td : Int)) ∨ (Ov c = 0 ∧ (td : Int) ≤ Ex c ∧ Ex c ≤ (td : Int) + 5) := fun c hc => by have h1 := hovs c hc; have h2 := hex5 c hc; omega
  have hovw : ∀ c, c < n → He (7 * c + 6) = 0 ∨ (Ov c = 1 ∧ Ex c < (td : Int)) ∨ (Ov c = 0 ∧ (td : Int) ≤ Ex c ∧ Ex c ≤ (td : Int) + 5) := fun c hc => Or.inr (hov5 c hc)
  have hov1 := hovs c hcn
  refine jj_iconst C0 dL_law_1555 ?_
  refine jj_istore C0 (lv' := [(38, .int (iI 0)), (37, .int (iI ((1 + x1 : Nat) : Int))), (18, .int (iI (-1))), (17, .int (iI 1)), (16, .int (iI io)), (14, .long (lI (f_W up dn dv td n K St Ex Am He Ca sh pr))), (13, .int (iI (w9 : Int))), (12, .int (iI (c : Int))), (11, .int (iI u9)), (10, .int (iI v9)), (9, .int (iI (t : Int))), (8, .ref (ka 6)), (7, .ref (ka 5)), (6, .ref (ka 4)), (5, .ref (ka 3)), (4, .ref (ka 2)), (3, .ref (ka 1)), (2, .ref (ka 0)), (1, .ref (ha 0)), (0, .ref b)]) (by decide) rfl dL_law_1556 ?_
  refine jj_iload C0 7 rfl dL_law_1558 ?_
  refine jj_aload C0 13 rfl dL_law_1560 ?_
  refine jj_iconst C0 dL_law_1562 ?_
  refine jj_toLw ?_
  refine jj_iald C0 (q0 := 4) (t0 := 0) (f := (f_lg td pr up dn mo sh co n)) (rfl) rfl (k := 1) (by omega) (by omega) (by decide) dL_law_1563 ?_
  refine jj_topi (b := pr) (rfl) ?_
  refine jj_i2l C0 (by omega) dL_law_1564 ?_
  refine jj_aload_n C0 17 rfl dL_law_1565 ?_
  refine jj_callSl C0 (cells' := cells) (slots' := slots) (cc_L_pays hEV (c := c) (z := pr) (by omega) (by omega) hK hSt) (cwS 3 hw (lw_gS hU_706 hU_707 hU_42 hU_708) rfl rfl rfl (by decide +kernel) ⟨Nat.le_of_ble_eq_true rfl, Nat.le_of_ble_eq_true rfl⟩) rfl rfl (Nat.le_of_ble_eq_true rfl) ⟨by show cells + 0 ≤ 600104; omega, by show slots + 0 ≤ 7301314; omega⟩ rfl rfl dL_law_1566 ?_
  intro _ hu
  show jj_W _ _ _ _ _ _ _ _ _ _ _ _ _ _ _ _ _ 1569 _ [.long (lI (f_pays (K c) (St c) pr))] (wL ka cI cJ td pr up dn mo sh co n K St Ex Am Ov Bj Aj BL AL He Cj dv Ca sd Cz ++ (wH ha cA hA nA ed cI cJ cZ td pr up dn dv rw sd mc n mo sh co Ca Cz K St Ex Am Bi As BL AL He Co ++ GG))
  refine jj_lstore C0 (lv' := [(39, .long (lI (f_pays (K c) (St c) pr))), (38, .int (iI 0)), (37, .int (iI ((1 + x1 : Nat) : Int))), (18, .int (iI (-1))), (17, .int (iI 1)), (16, .int (iI io)), (14, .long (lI (f_W up dn dv td n K St Ex Am He Ca sh pr))), (13, .int (iI (w9 : Int))), (12, .int (iI (c : Int))), (11, .int (iI u9)), (10, .int (iI v9)), (9, .int (iI (t : Int))), (8, .ref (ka 6)), (7, .ref (ka 5)), (6, .ref (ka 4)), (5, .ref (ka 3)), (4, .ref (ka 2)), (3, .ref (ka 1)), (2, .ref (ka 0)), (1, .ref (ha 0)), (0, .ref b)]) (by decide) rfl dL_law_1569 ?_
  have hp9 := f_pays_pr (ki := K c) (hSt c) hpr
  refine jj_aload_n C0 19 rfl dL_law_1571 ?_
  refine jj_join (X := Int) (pcj := 1585) (fun q9 => match q9 with | z9 => [(39, .long (lI (f_pays (K c) (St c) pr))), (38, .int (iI 0)), (37, .int (iI ((1 + x1 : Nat) : Int))), (18, .int (iI (-1))), (17, .int (iI 1)), (16, .int (iI io)), (14, .long (lI (f_W up dn dv td n K St Ex Am He Ca sh pr))), (13, .int (iI (w9 : Int))), (12, .int (iI (c : Int))), (11, .int (iI u9)), (10, .int (iI v9)), (9, .int (iI (t : Int))), (8, .ref (ka 6)), (7, .ref (ka 5)), (6, .ref (ka 4)), (5, .ref (ka 3)), (4, .ref (ka 2)), (3, .ref (ka 1)), (2, .ref (ka 0)), (1, .ref (ha 0)), (0, .ref b)]) (fun q9 => match q9 with | z9 => [.int (iI z9), .ref (ha 0)]) (fun q9 => match q9 with | z9 => wL ka cI cJ td pr up dn mo sh co n K St Ex Am Ov Bj Aj BL AL He Cj dv Ca sd Cz ++ (wH ha cA hA nA ed cI cJ cZ td pr up dn dv rw sd mc n mo sh co Ca Cz K St Ex Am Bi As BL AL He Co ++ GG)) (fun q9 => match q9 with | z9 => (z9 = -1 ∧ w9 = 6) ∨ (z9 = (w9 : Int) ∧ w9 ≤ 5)) ?_ ?_
  · intro q9 hq9
    obtain ⟨z9, rfl⟩ : ∃ z, z = q9 := ⟨_, rfl⟩
    have hz9 : (z9 = -1 ∧ w9 = 6) ∨ (z9 = (w9 : Int) ∧ w9 ≤ 5) := hq9
    refine jj_iload C0 8 rfl dL_law_1585 ?_
    refine jj_iload C0 2 rfl dL_law_1587 ?_
    refine jj_toHw ?_
    refine jj_callSWi C0 (cells' := (cells + 1)) (slots' := (slots + 6)) (jj_weaki (fun A U H h => h.1.1) (cr_L_exercise_S hl (w := z9) (c := c) (x := ((1 + x1 : Nat) : Int)) (k := w9) (by omega) (by omega) (by omega) (by omega) hn (fun h9 => f_ED_app (hED0 h9)) hEx htd hHe6 hAm)) (vx_cwSW 4 hw (lw_gW hU_625 hU_626 hU_42 hU_627) rfl rfl rfl (by decide +kernel) ⟨Nat.le_of_ble_eq_true rfl, Nat.le_of_ble_eq_true rfl⟩) rfl rfl (Nat.le_of_ble_eq_true rfl) ⟨by show cells + 1 ≤ 600104; omega, by show slots + 6 ≤ 7301314; omega⟩ rfl rfl dL_law_1589 ?_
    intro _ hu
    show jj_W _ _ _ _ _ _ _ _ _ _ _ _ _ _ _ _ _ 1592 _ [.int (iI (-2000000003))] (wH ha cA hA nA ed cI cJ cZ td pr up dn dv rw sd mc n mo sh co Ca Cz K St Ex Am Bi As BL AL He Co ++ (GG ++ wL ka cI cJ td pr up dn mo sh co n K St Ex Am Ov Bj Aj BL AL He Cj dv Ca sd Cz))
    refine jj_i2l C0 (by omega) dL_law_1592 ?_
    refine jj_iload C0 1 rfl dL_law_1593 ?_
    refine jj_if_eq C0 (by omega) dL_law_1595 (tgt := 1603) (by decide) (fun c_1 => ?_) (fun c_1 => absurd c_1 (by omega))
    refine jj_ldc2 C0 (z := -2000000003) (by decide) (hw _ hU_787) dL_law_1603 ?_
    refine jj_lcmp_ne C0 (by omega) (by omega) dL_law_1606 dL_law_1607 (tgt := 1614) (by decide) (fun c_2 => absurd c_2 (by omega)) (fun c_2 => ?_)
    refine jj_iconst C0 dL_law_1610 ?_
    refine jj_goto C0 (tgt := 1615) dL_law_1611 (by decide) ?_
    refine jj_istore C0 (lv' := [(17, .int (iI 1)), (39, .long (lI (f_pays (K c) (St c) pr))), (38, .int (iI 0)), (37, .int (iI ((1 + x1 : Nat) : Int))), (18, .int (iI (-1))), (16, .int (iI io)), (14, .long (lI (f_W up dn dv td n K St Ex Am He Ca sh pr))), (13, .int (iI (w9 : Int))), (12, .int (iI (c : Int))), (11, .int (iI u9)), (10, .int (iI v9)), (9, .int (iI (t : Int))), (8, .ref (ka 6)), (7, .ref (ka 5)), (6, .ref (ka 4)), (5, .ref (ka 3)), (4, .ref (ka 2)), (3, .ref (ka 1)), (2, .ref (ka 0)), (1, .ref (ha 0)), (0, .ref b)]) (by decide) rfl dL_law_1615 ?_
    refine jj_iconst C0 dL_law_1617 ?_
    refine jj_istore C0 (lv' := [(41, .int (iI 0)), (17, .int (iI 1)), (39, .long (lI (f_pays (K c) (St c) pr))), (38, .int (iI 0)), (37, .int (iI ((1 + x1 : Nat) : Int))), (18, .int (iI (-1))), (16, .int (iI io)), (14, .long (lI (f_W up dn dv td n K St Ex Am He Ca sh pr))), (13, .int (iI (w9 : Int))), (12, .int (iI (c : Int))), (11, .int (iI u9)), (10, .int (iI v9)), (9, .int (iI (t : Int))), (8, .ref (ka 6)), (7, .ref (ka 5)), (6, .ref (ka 4)), (5, .ref (ka 3)), (4, .ref (ka 2)), (3, .ref (ka 1)), (2, .ref (ka 0)), (1, .ref (ha 0)), (0, .ref b)]) (by decide) rfl dL_law_1618 ?_
    refine jj_iload C0 0 rfl dL_law_1620 ?_
    refine jj_iload C0 4 rfl dL_law_1622 ?_
    refine jj_icmp_ge C0 (by omega) (by omega) dL_law_1624 (tgt := 1650) (by decide) (fun c_3 => ?_) (fun c_3 => ?_)
    · refine jj_iconst C0 dL_law_1650 ?_
      refine jj_istore C0 (lv' := [(18, .int (iI 4)), (41, .int (iI 0)), (17, .int (iI 1)), (39, .long (lI (f_pays (K c) (St c) pr))), (38, .int (iI 0)), (37, .int (iI ((1 + x1 : Nat) : Int))), (16, .int (iI io)), (14, .long (lI (f_W up dn dv td n K St Ex Am He Ca sh pr))), (13, .int (iI (w9 : Int))), (12, .int (iI (c : Int))), (11, .int (iI u9)), (10, .int (iI v9)), (9, .int (iI (t : Int))), (8, .ref (ka 6)), (7, .ref (ka 5)), (6, .ref (ka 4)), (5, .ref (ka 3)), (4, .ref (ka 2)), (3, .ref (ka 1)), (2, .ref (ka 0)), (1, .ref (ha 0)), (0, .ref b)]) (by decide) rfl dL_law_1651 ?_
      refine jj_goto C0 (tgt := 2039) dL_law_1653 (by decide) ?_
      refine jj_lv [0, 2, 7, 10, 12, 13, 14, 15, 16, 17, 18, 19, 20, 21] rfl ?_
      exact kK cA hA nA ed rw mc GG td pr up dn dv sd n mo sh co Ca Cz Cz K St Ex Am Ov Bi As Bj Aj BL AL He Co Cj (f_W up dn dv td n K St Ex Am He Ca sh pr) 4 _ _ (f_IV_k hV) (f_JV_t hW9) (hcc) (hG) (Or.inr ⟨4, by omega, rfl, by rw [Int.sub_self, Int.add_zero, up_id]⟩) (by omega) (by omega)
    · refine jj_iload C0 3 rfl dL_law_1627 ?_
      refine jj_if_eq C0 (by omega) dL_law_1629 (tgt := 1650) (by decide) (fun c_4 => ?_) (fun c_4 => absurd c_4 (by omega))
      refine jj_iconst C0 dL_law_1650 ?_
      refine jj_istore C0 (lv' := [(18, .int (iI 4)), (41, .int (iI 0)), (17, .int (iI 1)), (39, .long (lI (f_pays (K c) (St c) pr))), (38, .int (iI 0)), (37, .int (iI ((1 + x1 : Nat) : Int))), (16, .int (iI io)), (14, .long (lI (f_W up dn dv td n K St Ex Am He Ca sh pr))), (13, .int (iI (w9 : Int))), (12, .int (iI (c : Int))), (11, .int (iI u9)), (10, .int (iI v9)), (9, .int (iI (t : Int))), (8, .ref (ka 6)), (7, .ref (ka 5)), (6, .ref (ka 4)), (5, .ref (ka 3)), (4, .ref (ka 2)), (3, .ref (ka 1)), (2, .ref (ka 0)), (1, .ref (ha 0)), (0, .ref b)]) (by decide) rfl dL_law_1651 ?_
      refine jj_goto C0 (tgt := 2039) dL_law_1653 (by decide) ?_
      refine jj_lv [0, 2, 7, 10, 12, 13, 14, 15, 16, 17, 18, 19, 20, 21] rfl ?_
      exact kK cA hA nA ed rw mc GG td pr up dn dv sd n mo sh co Ca Cz Cz K St Ex Am Ov Bi As Bj Aj BL AL He Co Cj (f_W up dn dv td n K St Ex Am He Ca sh pr) 4 _ _ (f_IV_k hV) (f_JV_t hW9) (hcc) (hG) (Or.inr ⟨4, by omega, rfl, by rw [Int.sub_self, Int.add_zero, up_id]⟩) (by omega) (by omega)
  intro j1585
  refine jj_iload C0 7 rfl dL_law_1572 ?_
  refine jj_bipush C0 dL_law_1574 (by decide) ?_
  refine jj_icmp_ne C0 (by omega) (by omega) dL_law_1576 (tgt := 1583) (by decide) (fun c_5 => ?_) (fun c_5 => ?_)
  · refine jj_iload C0 7 rfl dL_law_1583 ?_
    exact j1585 (w9 : Int) (by omega)
  · refine jj_iconst C0 dL_law_1579 ?_
    refine jj_goto C0 (tgt := 1585) dL_law_1580 (by decide) ?_
    exact j1585 (-1) (by omega)
set_option maxHeartbeats 4000000 in
set_option maxRecDepth 100000 in
theorem lq_limex (hC9 : f_C9 p l s m args meth c9 dC dI A cI cJ cZ cO es mi sa b L xs) (hcs : cells + 100 ≤ 600104 ∧ slots + 4000 ≤ 7301314) (hk9 : k9 ≤ 89) (ht9 : t ≤ 89) (hI : f_IV k9 td n pr up dn dv sd mo sh Ca K St Ex Am Ov Bi As Bj Aj BL AL He Co) (hJ : f_JV t td n pr dv sh St Ex Bj Aj) (hcc : f_JC Ov Co Cj) (hG : f_LG cO es n ed cA GG) (hu9 : iR u9) (hv9 : iR v9) (kK : f_K9 p l e s m args below meth c9 dC dI A Q ha ka cI cJ cZ cO es b k9 t u9 cells slots)  (hwc : n = 0 ∨ c < n) (hww : w9 ≤ 6) (hio : (io = 1 ∧ (n = 0 ∨ Ov c = 1)) ∨ (io = 0 ∧ c < n ∧ Ov c = 0)) : jj_W p l e room_1 s m args below meth c9 (dC, dI) vwCl A 46 cells slots Q 1429 [(18, .int (iI (-1))), (17, .int (iI 1)), (16, .int (iI io)), (14, .long (lI (f_W up dn dv td n K St Ex Am He Ca sh pr))), (13, .int (iI (w9 : Int))), (12, .int (iI (c : Int))), (11, .int (iI u9)), (10, .int (iI v9)), (9, .int (iI (t : Int))), (8, .ref (ka 6)), (7, .ref (ka 5)), (6, .ref (ka 4)), (5, .ref (ka 3)), (4, .ref (ka 2)), (3, .ref (ka 1)), (2, .ref (ka 0)), (1, .ref (ha 0)), (0, .ref b)] [] (wH ha cA hA nA ed cI cJ cZ td pr up dn dv rw sd mc n mo sh co Ca Cz K St Ex Am Bi As BL AL He Co ++ (GG ++ wL ka cI cJ td pr up dn mo sh co n K St Ex Am Ov Bj Aj BL AL He Cj dv Ca sd Cz)) := by
  obtain ⟨C0, hl, hL⟩ := hC9
  have hw := C0.2.2.2.2.1
  have hEV := hEVS es mi sa b L xs
  have hED0 : 0 < n → f_ED cA n ed cO GG := fun h9 => by have h8 := f_LG_ED (M := []) hG h9; rwa [List.append_nil] at h8
  have hCj9 := hcc.1
  have hV := hI
  obtain ⟨⟨htd, hn, hpr, hup, hdn, hdv, hsd, hmo, hsh⟩, ⟨hK, hSt, hEx, hAm, hOv, hovs, hexs, hovn⟩, hQ9, ⟨hHe, hsums, hHz⟩, ⟨hCo, hCz⟩, hCa⟩ := hI
  have hQ := hQ9
  obtain ⟨hBi, hAs, hBj, hAj, hBL, hAL, hQt, hQ0, hQn, hQo⟩ := hQ9
  have hW9 := hJ
  obtain ⟨hn6, htd5, hex5, hSp, hdv9, hBA, hsh9⟩ := hJ
  have hexs1 : ∀ c, c < n → Ex c ≤ (td : Int) + 10 := fun c hc => (hexs c hc).1
  have hHe9 : ∀ j, -999000 ≤ He j ∧ He j ≤ 999000 := fun j => by have := hHe j; omega
  have hHe6 : ∀ j, -1000000 ≤ He j ∧ He j ≤ 1000000 := fun j => by have := hHe j; omega
  have hCa9 : ∀ j, -100000000000000000 ≤ Ca j ∧ Ca j ≤ 100000000000000000 := fun j => by have := hCa j; omega
  have hov5 : ∀ c, c < n → (Ov c = 1 ∧ Ex c < (td : Int)) ∨ (Ov c = 0 ∧ (td : Int) ≤ Ex c ∧ Ex c ≤ (td : Int) + 5) := fun c hc => by have h1 := hovs c hc; have h2 := hex5 c hc; omega
  have hovw : ∀ c, c < n → He (7 * c + 6) = 0 ∨ (Ov c = 1 ∧ Ex c < (td : Int)) ∨ (Ov c = 0 ∧ (td : Int) ≤ Ex c ∧ Ex c ≤ (td : Int) + 5) := fun c hc => Or.inr (hov5 c hc)
  refine jj_aload C0 11 rfl dL_law_1429 ?_
  refine jj_bipush C0 dL_law_1431 (by decide) ?_
  refine jj_toLw ?_
  refine jj_iald C0 (q0 := 4) (t0 := 0) (f := (f_lg td pr up dn mo sh co n)) (rfl) rfl (k := 7) (by omega) (by omega) (by decide) dL_law_1433 ?_
  refine jj_topi (b := (n : Int)) (rfl) ?_
  refine jj_if_ne C0 (by omega) dL_law_1434 (tgt := 1440) (by decide) (fun c_1 => ?_) (fun c_1 => ?_)
  · have hcn : c < n := by omega
    have hov1 := hovs c hcn
    have hb1 := hAm c
    have hhb := hHe6 (7 * c + w9)
    have hb2 := hEx c
    refine jj_iload C0 6 rfl dL_law_1440 ?_
    refine jj_iconst C0 dL_law_1442 ?_
    refine jj_iandX C0 dL_law_1443 ?_
    have hR1443 := f_an_R u9 3
    refine jj_if_ne C0 (by omega) dL_law_1444 (tgt := 1492) (by decide) (fun c_2 => ?_) (fun c_2 => ?_)
    · refine jj_iconst C0 dL_law_1492 ?_
      refine jj_iload C0 6 rfl dL_law_1493 ?_
      refine jj_iconst C0 dL_law_1495 ?_
      refine jj_ishrX C0 dL_law_1496 ?_
      have hR1496 := f_sr_R u9 2
      refine jj_iconst C0 dL_law_1497 ?_
      refine jj_callSi C0 (cells' := cells) (slots' := slots) (cc_L_low hEV (v := (f_sr u9 2)) (m := 4) (by omega)) (cwS 2 hw (lw_gS hU_167 hU_168 hU_42 hU_169) rfl rfl rfl (by decide +kernel) ⟨Nat.le_of_ble_eq_true rfl, Nat.le_of_ble_eq_true rfl⟩) rfl rfl (Nat.le_of_ble_eq_true rfl) ⟨by show cells + 0 ≤ 600104; omega, by show slots + 0 ≤ 7301314; omega⟩ rfl rfl dL_law_1498 ?_
      intro _ hu
      show jj_W _ _ _ _ _ _ _ _ _ _ _ _ _ _ _ _ _ 1501 _ [.int (iI (f_lo (f_sr u9 2) 4)), .int (iI 1)] (wL ka cI cJ td pr up dn mo sh co n K St Ex Am Ov Bj Aj BL AL He Cj dv Ca sd Cz ++ (wH ha cA hA nA ed cI cJ cZ td pr up dn dv rw sd mc n mo sh co Ca Cz K St Ex Am Bi As BL AL He Co ++ GG))
      obtain ⟨x1, hx1⟩ : ∃ z : Nat, (z : Int) = (f_lo (f_sr u9 2) 4) := ⟨((f_lo (f_sr u9 2) 4)).toNat, by have := f_lo_bd (f_sr u9 2) (k := 4) (by omega); omega⟩
      have hbx1 : x1 < 4 := by have := f_lo_bd (f_sr u9 2) (k := 4) (by omega); omega
      refine jj_topi (b := (x1 : Int)) (hx1.symm) ?_
      refine jj_iadd C0 dL_law_1501 ?_
      refine jj_topi (b := ((1 + x1 : Nat) : Int)) (by omega) ?_
      refine jj_istore C0 (lv' := [(37, .int (iI ((1 + x1 : Nat) : Int))), (18, .int (iI (-1))), (17, .int (iI 1)), (16, .int (iI io)), (14, .long (lI (f_W up dn dv td n K St Ex Am He Ca sh pr))), (13, .int (iI (w9 : Int))), (12, .int (iI (c : Int))), (11, .int (iI u9)), (10, .int (iI v9)), (9, .int (iI (t : Int))), (8, .ref (ka 6)), (7, .ref (ka 5)), (6, .ref (ka 4)), (5, .ref (ka 3)), (4, .ref (ka 2)), (3, .ref (ka 1)), (2, .ref (ka 0)), (1, .ref (ha 0)), (0, .ref b)]) (by decide) rfl dL_law_1502 ?_
      refine jj_iload C0 3 rfl dL_law_1504 ?_
      refine jj_if_ne C0 (by omega) dL_law_1506 (tgt := 1555) (by decide) (fun c_3 => ?_) (fun c_3 => ?_)
      · refine jj_toHw ?_
        exact lq_exS ⟨C0, hl, hL⟩ hcs hk9 ht9 hV hW9 hcc hG hu9 hv9 kK hcn hww hbx1 (by omega)
      · refine jj_aload_n C0 15 rfl dL_law_1509 ?_
        refine jj_bipush C0 dL_law_1510 (by decide) ?_
        refine jj_iload C0 6 rfl dL_law_1512 ?_
        refine jj_imul C0 dL_law_1514 ?_
        refine jj_iload C0 5 rfl dL_law_1515 ?_
        refine jj_iadd C0 dL_law_1517 ?_
        refine jj_iald C0 (q0 := 1) (t0 := 0) (f := (f_lh He)) (rfl) rfl (k := ((10 * c) + w9)) (by omega) (by omega) (by decide) dL_law_1518 ?_
        refine jj_topi (b := (He (7 * c + w9))) (f_lh_at (by omega)) ?_
        refine jj_iload C0 0 rfl dL_law_1519 ?_
        refine jj_icmp_lt C0 (by omega) (by omega) dL_law_1521 (tgt := 1555) (by decide) (fun c_4 => ?_) (fun c_4 => ?_)
        · refine jj_toHw ?_
          exact lq_exS ⟨C0, hl, hL⟩ hcs hk9 ht9 hV hW9 hcc hG hu9 hv9 kK hcn hww hbx1 (by omega)
        · refine jj_aload_n C0 16 rfl dL_law_1524 ?_
          refine jj_bipush C0 dL_law_1525 (by decide) ?_
          refine jj_iload C0 6 rfl dL_law_1527 ?_
          refine jj_iadd C0 dL_law_1529 ?_
          refine jj_iald C0 (q0 := 0) (t0 := 0) (f := (f_lk K St Ex Am Ov)) (rfl) rfl (k := (18 + c)) (by omega) (by omega) (by decide) dL_law_1530 ?_
          refine jj_topi (b := (Am c + 2 * Ov c)) (f_lk_A) ?_
          refine jj_iconst C0 dL_law_1531 ?_
          refine jj_iandA C0 (hAm _) (hOv _) dL_law_1532 ?_
          refine jj_iconst C0 dL_law_1533 ?_
          refine jj_icmp_eq C0 (by omega) (by omega) dL_law_1534 (tgt := 1551) (by decide) (fun c_5 => ?_) (fun c_5 => ?_)
          · refine jj_toHw ?_
            exact lq_exA ⟨C0, hl, hL⟩ hcs hk9 ht9 hV hW9 hcc hG hu9 hv9 kK hcn hww hbx1 (by omega) (by omega) (by omega)
          · refine jj_aload_n C0 16 rfl dL_law_1537 ?_
            refine jj_bipush C0 dL_law_1538 (by decide) ?_
            refine jj_iload C0 6 rfl dL_law_1540 ?_
            refine jj_iadd C0 dL_law_1542 ?_
            refine jj_iald C0 (q0 := 0) (t0 := 0) (f := (f_lk K St Ex Am Ov)) (rfl) rfl (k := (12 + c)) (by omega) (by omega) (by decide) dL_law_1543 ?_
            refine jj_topi (b := (Ex c)) (f_lk_Ex (by omega)) ?_
            refine jj_aload C0 12 rfl dL_law_1544 ?_
            refine jj_iconst C0 dL_law_1546 ?_
            refine jj_iald C0 (q0 := 4) (t0 := 0) (f := (f_lg td pr up dn mo sh co n)) (rfl) rfl (k := 0) (by omega) (by omega) (by decide) dL_law_1547 ?_
            refine jj_topi (b := (td : Int)) (rfl) ?_
            refine jj_icmp_ne C0 (by omega) (by omega) dL_law_1548 (tgt := 1555) (by decide) (fun c_6 => ?_) (fun c_6 => ?_)
            · refine jj_toHw ?_
              exact lq_exS ⟨C0, hl, hL⟩ hcs hk9 ht9 hV hW9 hcc hG hu9 hv9 kK hcn hww hbx1 (by omega)
            · refine jj_toHw ?_
              exact lq_exA ⟨C0, hl, hL⟩ hcs hk9 ht9 hV hW9 hcc hG hu9 hv9 kK hcn hww hbx1 (by omega) (by omega) (by omega)
    · have hlo9 := f_lo_bd (f_sr u9 2) (k := 150) (by omega)
      refine jj_aload_n C0 16 rfl dL_law_1447 ?_
      refine jj_iload C0 6 rfl dL_law_1448 ?_
      refine jj_iconst C0 dL_law_1450 ?_
      refine jj_ishrX C0 dL_law_1451 ?_
      have hR1451 := f_sr_R u9 2
      refine jj_sipush C0 dL_law_1452 (by decide) ?_
      refine jj_callSi C0 (cells' := cells) (slots' := slots) (cc_L_low hEV (v := (f_sr u9 2)) (m := 150) (by omega)) (cwS 2 hw (lw_gS hU_167 hU_168 hU_42 hU_169) rfl rfl rfl (by decide +kernel) ⟨Nat.le_of_ble_eq_true rfl, Nat.le_of_ble_eq_true rfl⟩) rfl rfl (Nat.le_of_ble_eq_true rfl) ⟨by show cells + 0 ≤ 600104; omega, by show slots + 0 ≤ 7301314; omega⟩ rfl rfl dL_law_1455 ?_
      intro _ hu
      show jj_W _ _ _ _ _ _ _ _ _ _ _ _ _ _ _ _ _ 1458 _ [.int (iI (f_lo (f_sr u9 2) 150)), .ref (ha 0)] (wL ka cI cJ td pr up dn mo sh co n K St Ex Am Ov Bj Aj BL AL He Cj dv Ca sd Cz ++ (wH ha cA hA nA ed cI cJ cZ td pr up dn dv rw sd mc n mo sh co Ca Cz K St Ex Am Bi As BL AL He Co ++ GG))
      refine jj_toHw ?_
      refine jj_callSWi C0 (cells' := cells) (slots' := slots) (jj_weaki (fun A U H h => h.1.1) (cw_L_limit hl (x := (f_lo (f_sr u9 2) 150)) (by omega))) (vx_cwSW 2 hw (lw_gW hU_551 hU_552 hU_42 hU_553) rfl rfl rfl (by decide +kernel) ⟨Nat.le_of_ble_eq_true rfl, Nat.le_of_ble_eq_true rfl⟩) rfl rfl (Nat.le_of_ble_eq_true rfl) ⟨by show cells + 0 ≤ 600104; omega, by show slots + 0 ≤ 7301314; omega⟩ rfl rfl dL_law_1458 ?_
      intro _ hu
      show jj_W _ _ _ _ _ _ _ _ _ _ _ _ _ _ _ _ _ 1461 _ [.int (iI mo)] (wH ha cA hA nA ed cI cJ cZ td pr up dn dv rw sd mc n (f_lo (f_sr u9 2) 150) sh co Ca Cz K St Ex Am Bi As BL AL He Co ++ (GG ++ wL ka cI cJ td pr up dn mo sh co n K St Ex Am Ov Bj Aj BL AL He Cj dv Ca sd Cz))
      refine jj_aload C0 11 rfl dL_law_1461 ?_
      refine jj_iconst C0 dL_law_1463 ?_
      refine jj_toLw ?_
      refine jj_iald C0 (q0 := 4) (t0 := 0) (f := (f_lg td pr up dn mo sh co n)) (rfl) rfl (k := 4) (by omega) (by omega) (by decide) dL_law_1464 ?_
      refine jj_topi (b := mo) (rfl) ?_
      refine jj_topi (b := mo) (rfl) ?_
      refine jj_icmpN C0 dL_law_1465 (tgt := 1472) (by decide) ?_
      refine jj_iconst C0 dL_law_1468 ?_
      refine jj_goto C0 (tgt := 1473) dL_law_1469 (by decide) ?_
      refine jj_istore C0 (lv' := [(17, .int (iI 1)), (18, .int (iI (-1))), (16, .int (iI io)), (14, .long (lI (f_W up dn dv td n K St Ex Am He Ca sh pr))), (13, .int (iI (w9 : Int))), (12, .int (iI (c : Int))), (11, .int (iI u9)), (10, .int (iI v9)), (9, .int (iI (t : Int))), (8, .ref (ka 6)), (7, .ref (ka 5)), (6, .ref (ka 4)), (5, .ref (ka 3)), (4, .ref (ka 2)), (3, .ref (ka 1)), (2, .ref (ka 0)), (1, .ref (ha 0)), (0, .ref b)]) (by decide) rfl dL_law_1473 ?_
      refine jj_aload C0 11 rfl dL_law_1475 ?_
      refine jj_iconst C0 dL_law_1477 ?_
      refine jj_iload C0 6 rfl dL_law_1478 ?_
      refine jj_iconst C0 dL_law_1480 ?_
      refine jj_ishrX C0 dL_law_1481 ?_
      have hR1481 := f_sr_R u9 2
      refine jj_sipush C0 dL_law_1482 (by decide) ?_
      refine jj_callSi C0 (cells' := cells) (slots' := slots) (cc_L_low hEV (v := (f_sr u9 2)) (m := 150) (by omega)) (cwS 2 hw (lw_gS hU_167 hU_168 hU_42 hU_169) rfl rfl rfl (by decide +kernel) ⟨Nat.le_of_ble_eq_true rfl, Nat.le_of_ble_eq_true rfl⟩) rfl rfl (Nat.le_of_ble_eq_true rfl) ⟨by show cells + 0 ≤ 600104; omega, by show slots + 0 ≤ 7301314; omega⟩ rfl rfl dL_law_1485 ?_
      intro _ hu
      show jj_W _ _ _ _ _ _ _ _ _ _ _ _ _ _ _ _ _ 1488 _ [.int (iI (f_lo (f_sr u9 2) 150)), .int (iI 4), .ref (ka 4)] (wL ka cI cJ td pr up dn mo sh co n K St Ex Am Ov Bj Aj BL AL He Cj dv Ca sd Cz ++ (wH ha cA hA nA ed cI cJ cZ td pr up dn dv rw sd mc n (f_lo (f_sr u9 2) 150) sh co Ca Cz K St Ex Am Bi As BL AL He Co ++ GG))
      refine jj_iast C0 (q0 := 4) (t0 := 0) (f := (f_lg td pr up dn mo sh co n)) (rfl) rfl (k := 4) (by omega) (by omega) (by decide) (ws' := wL ka cI cJ td pr up dn (f_lo (f_sr u9 2) 150) sh co n K St Ex Am Ov Bj Aj BL AL He Cj dv Ca sd Cz ++ (wH ha cA hA nA ed cI cJ cZ td pr up dn dv rw sd mc n (f_lo (f_sr u9 2) 150) sh co Ca Cz K St Ex Am Bi As BL AL He Co ++ GG)) (wL_mo) dL_law_1488 ?_
      refine jj_goto C0 (tgt := 2039) dL_law_1489 (by decide) ?_
      refine jj_toHw ?_
      refine jj_lv [1, 0, 3, 6, 8, 9, 10, 11, 12, 13, 14, 15, 16, 17] rfl ?_
      exact kK cA hA nA ed rw mc GG td pr up dn dv sd n (f_lo (f_sr u9 2) 150) sh co Ca Cz Cz K St Ex Am Ov Bi As Bj Aj BL AL He Co Cj (f_W up dn dv td n K St Ex Am He Ca sh pr) (-1) _ _ (⟨⟨htd, hn, hpr, hup, hdn, hdv, hsd, by omega, hsh⟩, (f_IV_k hV).2⟩) (⟨hn6, htd5, hex5, fun c hc => by have := hSp c hc; omega, hdv9, hBA, by omega⟩) (hcc) (hG) (Or.inl ⟨rfl, rfl⟩) (by omega) (by omega)
  · refine jj_goto C0 (tgt := 2039) dL_law_1437 (by decide) ?_
    refine jj_toHw ?_
    refine jj_lv [0, 1, 3, 6, 8, 9, 10, 11, 12, 13, 14, 15, 16, 17] rfl ?_
    exact kK cA hA nA ed rw mc GG td pr up dn dv sd n mo sh co Ca Cz Cz K St Ex Am Ov Bi As Bj Aj BL AL He Co Cj (f_W up dn dv td n K St Ex Am He Ca sh pr) (-1) _ _ (f_IV_k hV) (f_JV_t hW9) (hcc) (hG) (Or.inl ⟨rfl, rfl⟩) (by omega) (by omega)
end P7
