theorem f_JC_up {Ov Co Cj : Nat → Int} {x : Nat} {v : Int} (h : f_JC Ov Co Cj) (hv : 0 ≤ v ∧ v ≤ 1) : f_JC Ov (va_up Co x v) (va_up Cj x v) := by
  refine ⟨up_bd h.1 hv, fun c i hi ho => ?_⟩
  simp only [va_up]
  split
  · rfl
  · exact h.2 c i hi ho
theorem f_JC_upS {Ov Co Cj : Nat → Int} {d j : Nat} {v : Int} (h : f_JC Ov Co Cj) (hj : j < 7) (hd : Ov d ≠ 0) (hv : 0 ≤ v ∧ v ≤ 1) : f_JC Ov Co (va_up Cj (7 * d + j) v) := by
  refine ⟨up_bd h.1 hv, fun c i hi ho => ?_⟩
  have e : c ≠ d := fun q => hd (by rw [← q]; exact ho)
  rw [va_up_ne _ _ (by omega)]
  exact h.2 c i hi ho
theorem f_ln_or {Co : Nat → Int} {c i : Nat} (hCo : ∀ j, 0 ≤ Co j ∧ Co j ≤ 1) (hi : i < 7) : (((f_ln Co c).toNat + (1 - (f_ln Co c).toNat / 2 ^ i % 2) * 2 ^ i : Nat) : Int) = f_ln Co c + (1 - Co (7 * c + i)) * 2 ^ i := by
  have hb := f_ln_bit hCo hi (c := c)
  have hd := f_ln_bd hCo (c := c)
  have hc := hCo (7 * c + i)
  generalize Co (7 * c + i) = z at *
  generalize f_ln Co c = y at *
  rcases (by omega : i = 0 ∨ i = 1 ∨ i = 2 ∨ i = 3 ∨ i = 4 ∨ i = 5 ∨ i = 6) with rfl | rfl | rfl | rfl | rfl | rfl | rfl <;> omega
theorem f_ln_nand {Co : Nat → Int} {c i : Nat} (hCo : ∀ j, 0 ≤ Co j ∧ Co j ≤ 1) (hi : i < 7) : (((f_ln Co c).toNat - (f_ln Co c).toNat / 2 ^ i % 2 * 2 ^ i : Nat) : Int) = f_ln Co c + (0 - Co (7 * c + i)) * 2 ^ i := by
  have hb := f_ln_bit hCo hi (c := c)
  have hd := f_ln_bd hCo (c := c)
  have hc := hCo (7 * c + i)
  generalize Co (7 * c + i) = z at *
  generalize f_ln Co c = y at *
  rcases (by omega : i = 0 ∨ i = 1 ∨ i = 2 ∨ i = 3 ∨ i = 4 ∨ i = 5 ∨ i = 6) with rfl | rfl | rfl | rfl | rfl | rfl | rfl <;> omega
theorem f_m4 {s d p q : Int} (h : q = s * d) : 1000 * s * d * p = 1000 * p * q := by
  rw [h, Int.mul_assoc 1000 s d, Int.mul_assoc, Int.mul_comm (s * d) p, ← Int.mul_assoc]
section P8
variable {p : Program} {l : Launch} {e : Env} {s : State} {m : MethodId} {args : Array Value} {below : List Frame} {meth : Method} {c9 : Code} {dC : Nat → ClassId} {dI : Nat → Nat → Nat} {A : Nat → Prop} {Q : State → Prop} {ha ka : Nat → Nat} {cI cJ cZ cO : ClassId} {es mi b L : Nat} {sa : Nat → Nat} {xs : Nat → Int32} {k9 t : Nat} {u9 v9 io : Int} {c w9 cells slots : Nat} {cA hA nA : Nat → Nat} {ed : Nat} {rw : Nat → Int} {mc : Int} {GG : va_W} {td : Nat} {pr up dn : Int} {dv : Nat → Int} {sd : Int} {n : Nat} {mo sh co : Int} {Ca Cz K St Ex Am Ov Bi As Bj Aj BL AL He Co Cj : Nat → Int}
set_option maxHeartbeats 4000000 in
set_option maxRecDepth 100000 in
theorem lq_coA1 (hC9 : f_C9 p l s m args meth c9 dC dI A cI cJ cZ cO es mi sa b L xs) (hcs : cells + 100 ≤ 600104 ∧ slots + 4000 ≤ 7301314) (hk9 : k9 ≤ 89) (ht9 : t ≤ 89) (hI : f_IV k9 td n pr up dn dv sd mo sh Ca K St Ex Am Ov Bi As Bj Aj BL AL He Co) (hJ : f_JV t td n pr dv sh St Ex Bj Aj) (hcc : f_JC Ov Co Cj) (hG : f_LG cO es n ed cA GG) (hu9 : iR u9) (hv9 : iR v9) (kK : f_K9 p l e s m args below meth c9 dC dI A Q ha ka cI cJ cZ cO es b k9 t u9 cells slots)  (hcn : c < n) (hww : w9 ≤ 5) (hov0 : Ov c = 0) : jj_W p l e room_1 s m args below meth c9 (dC, dI) vwCl A 46 cells slots Q 1688 [(41, .int (iI 1)), (18, .int (iI (-1))), (17, .int (iI 1)), (16, .int (iI 0)), (14, .long (lI (f_W up dn dv td n K St Ex Am He Ca sh pr))), (13, .int (iI (w9 : Int))), (12, .int (iI (c : Int))), (11, .int (iI u9)), (10, .int (iI v9)), (9, .int (iI (t : Int))), (8, .ref (ka 6)), (7, .ref (ka 5)), (6, .ref (ka 4)), (5, .ref (ka 3)), (4, .ref (ka 2)), (3, .ref (ka 1)), (2, .ref (ka 0)), (1, .ref (ha 0)), (0, .ref b)] [] (wH ha cA hA nA ed cI cJ cZ td pr up dn dv rw sd mc n mo sh co Ca Cz K St Ex Am Bi As BL AL He Co ++ (GG ++ wL ka cI cJ td pr up dn mo sh co n K St Ex Am Ov Bj Aj BL AL He Cj dv Ca sd Cz)) := by
  obtain ⟨C0, hl, hL⟩ := hC9
  have hw := C0.2.2.2.2.1
  have hEV := hEVS es mi sa b L xs
  have hED0 : 0 < n → f_ED cA n ed cO GG := fun h9 => by have h8 := f_LG_ED (M := []) hG h9; rwa [List.append_nil] at h8
  have hCj9 := hcc.1
  have hV := hI
  obtain ⟨⟨htd, hn, hpr, hup, hdn, hdv, hsd, hmo, hsh⟩, ⟨hK, hSt, hEx, hAm, hOv, hovs, hexs, hovn⟩, hQ9, ⟨hHe, hsums, hHz⟩, ⟨hCo, hCz⟩, hCa⟩ := hI
  have hQ := hQ9
  obtain ⟨hBi, hAs, hBj, hAj, hBL, hAL, hQt, hQ0, hQn, hQo⟩ := hQ9
  have hW9 := hJ
  obtain ⟨hn6, htd5, hex5, hSp, hdv9, hBA, hsh9⟩ := hJ
  have hexs1 : ∀ c, c < n → Ex c ≤ (td : Int) + 10 := fun c hc => (hexs c hc).1
  have hHe9 : ∀ j, -999000 ≤ He j ∧ He j ≤ 999000 := fun j => by have := hHe j; omega
  have hHe6 : ∀ j, -1000000 ≤ He j ∧ He j ≤ 1000000 := fun j => by have := hHe j; omega
  have hCa9 : ∀ j, -100000000000000000 ≤ Ca j ∧ Ca j ≤ 100000000000000000 := fun j => by have := hCa j; omega
  have hov5 : ∀ c, c < n → (Ov c = 1 ∧ Ex c < (td : Int)) ∨ (Ov c = 0 ∧ (td : Int) ≤ Ex c ∧ Ex c ≤ (td : Int) + 5) := fun c hc => by have h1 := hovs c hc; have h2 := hex5 c hc; omega
  have hovw : ∀ c, c < n → He (7 * c + 6) = 0 ∨ (Ov c = 1 ∧ Ex c < (td : Int)) ∨ (Ov c = 0 ∧ (td : Int) ≤ Ex c ∧ Ex c ≤ (td : Int) + 5) := fun c hc => Or.inr (hov5 c hc)
  have hov1 := hovs c hcn
  have hb1 := hCo (7 * c + w9)
  refine jj_aload_n C0 17 rfl dL_law_1688 ?_
  refine jj_iload C0 5 rfl dL_law_1689 ?_
  refine jj_iload C0 6 rfl dL_law_1691 ?_
  refine jj_iload C0 0 rfl dL_law_1693 ?_
  refine jj_callSWi C0 (cells' := cells) (slots' := slots) (jj_weaki (fun A U H h => h.1.1) (cw_L_contrary hl (k := w9) (c := c) (v := 1) (by omega) (by omega) (by omega) (by omega) hn (fun h9 => f_ED_app (hED0 h9)) hCo htd hEx)) (vx_cwSW 4 hw (lw_gW hU_658 hU_659 hU_42 hU_660) rfl rfl rfl (by decide +kernel) ⟨Nat.le_of_ble_eq_true rfl, Nat.le_of_ble_eq_true rfl⟩) rfl rfl (Nat.le_of_ble_eq_true rfl) ⟨by show cells + 0 ≤ 600104; omega, by show slots + 0 ≤ 7301314; omega⟩ rfl rfl dL_law_1695 ?_
  intro _ hu
  show jj_W _ _ _ _ _ _ _ _ _ _ _ _ _ _ _ _ _ 1698 _ [.int (iI (if Co (7 * c + w9) = 1 then 0 else 1))] (wH ha cA hA nA ed cI cJ cZ td pr up dn dv rw sd mc n mo sh co Ca Cz K St Ex Am Bi As BL AL He (va_up Co (7 * c + w9) 1) ++ (GG ++ wL ka cI cJ td pr up dn mo sh co n K St Ex Am Ov Bj Aj BL AL He Cj dv Ca sd Cz))
  refine jj_iload C0 3 rfl dL_law_1698 ?_
  refine jj_if_eq C0 (by omega) dL_law_1700 (tgt := 1708) (by decide) (fun c_1 => ?_) (fun c_1 => absurd c_1 (by omega))
  refine jj_aload C0 14 rfl dL_law_1708 ?_
  refine jj_iload C0 6 rfl dL_law_1710 ?_
  refine jj_toLw ?_
  refine jj_iald C0 (q0 := 2) (t0 := 0) (f := (f_ln Cj)) (rfl) rfl (k := c) (by omega) (by omega) (by decide) dL_law_1712 ?_
  refine jj_topi (b := (((f_ln Cj c).toNat : Nat) : Int)) ((Int.toNat_of_nonneg (f_ln_bd hCj9).1).symm) ?_
  refine jj_iload C0 5 rfl dL_law_1713 ?_
  refine jj_ishrN C0 (w := ((f_ln Cj c).toNat)) (d := w9) (by have := f_ln_bd hCj9 (c := c); omega) (by omega) dL_law_1715 ?_
  refine jj_iconst C0 dL_law_1716 ?_
  refine jj_iandN1 C0 (w := (((f_ln Cj c).toNat) / 2 ^ w9)) (by have := f_ln_bd hCj9 (c := c); have h8 := Nat.div_le_self (f_ln Cj c).toNat (2 ^ w9); omega) dL_law_1717 ?_
  refine jj_topi (b := (Co (7 * c + w9))) ((f_ln_bit hCj9 (by omega)).trans (hcc.2 c w9 (by omega) hov0)) ?_
  refine jj_iload C0 0 rfl dL_law_1718 ?_
  refine jj_if_eq C0 (by omega) dL_law_1720 (tgt := 1727) (by decide) (fun c_2 => absurd c_2 (by omega)) (fun c_2 => ?_)
  refine jj_iconst C0 dL_law_1723 ?_
  refine jj_goto C0 (tgt := 1728) dL_law_1724 (by decide) ?_
  refine jj_icmp_ne C0 (by omega) (by omega) dL_law_1728 (tgt := 1735) (by decide) (fun c_3 => ?_) (fun c_3 => ?_)
  · refine jj_iconst C0 dL_law_1735 ?_
    refine jj_topi (b := (if Co (7 * c + w9) = 1 then 0 else 1)) ((by first | rw [if_pos (by omega)] | rw [if_neg (by omega)])) ?_
    refine jj_icmpN C0 dL_law_1736 (tgt := 1743) (by decide) ?_
    refine jj_iconst C0 dL_law_1739 ?_
    refine jj_goto C0 (tgt := 1744) dL_law_1740 (by decide) ?_
    refine jj_istore C0 (lv' := [(17, .int (iI 1)), (41, .int (iI 1)), (18, .int (iI (-1))), (16, .int (iI 0)), (14, .long (lI (f_W up dn dv td n K St Ex Am He Ca sh pr))), (13, .int (iI (w9 : Int))), (12, .int (iI (c : Int))), (11, .int (iI u9)), (10, .int (iI v9)), (9, .int (iI (t : Int))), (8, .ref (ka 6)), (7, .ref (ka 5)), (6, .ref (ka 4)), (5, .ref (ka 3)), (4, .ref (ka 2)), (3, .ref (ka 1)), (2, .ref (ka 0)), (1, .ref (ha 0)), (0, .ref b)]) (by decide) rfl dL_law_1744 ?_
    refine jj_aload C0 14 rfl dL_law_1746 ?_
    refine jj_iload C0 6 rfl dL_law_1748 ?_
    refine jj_iload C0 1 rfl dL_law_1750 ?_
    refine jj_if_eq C0 (by omega) dL_law_1752 (tgt := 1768) (by decide) (fun c_4 => absurd c_4 (by omega)) (fun c_4 => ?_)
    refine jj_aload C0 14 rfl dL_law_1755 ?_
    refine jj_iload C0 6 rfl dL_law_1757 ?_
    refine jj_iald C0 (q0 := 2) (t0 := 0) (f := (f_ln Cj)) (rfl) rfl (k := c) (by omega) (by omega) (by decide) dL_law_1759 ?_
    refine jj_topi (b := (((f_ln Cj c).toNat : Nat) : Int)) ((Int.toNat_of_nonneg (f_ln_bd hCj9).1).symm) ?_
    refine jj_iconst C0 dL_law_1760 ?_
    refine jj_iload C0 5 rfl dL_law_1761 ?_
    refine jj_ishlN C0 (d := w9) (by omega) dL_law_1763 ?_
    refine jj_iorB C0 (w := ((f_ln Cj c).toNat)) (d := w9) (by have := f_ln_bd hCj9 (c := c); omega) (by omega) dL_law_1764 ?_
    refine jj_goto C0 (tgt := 1780) dL_law_1765 (by decide) ?_
    refine jj_topi (b := ((f_ln Cj c) + (1 - (Cj (7 * c + w9))) * 2 ^ w9)) (f_ln_or hCj9 (by omega)) ?_
    refine jj_iast C0 (q0 := 2) (t0 := 0) (f := (f_ln Cj)) (rfl) rfl (k := c) (by omega) (by omega) (by decide) (ws' := wL ka cI cJ td pr up dn mo sh co n K St Ex Am Ov Bj Aj BL AL He (va_up Cj (7 * c + w9) 1) dv Ca sd Cz ++ (wH ha cA hA nA ed cI cJ cZ td pr up dn dv rw sd mc n mo sh co Ca Cz K St Ex Am Bi As BL AL He (va_up Co (7 * c + w9) 1) ++ GG)) (wL_Co hCj9 (by omega)) dL_law_1780 ?_
    refine jj_goto C0 (tgt := 2039) dL_law_1781 (by decide) ?_
    refine jj_toHw ?_
    refine jj_lv [2, 0, 4, 7, 9, 10, 11, 12, 13, 14, 15, 16, 17, 18] rfl ?_
    exact kK cA hA nA ed rw mc GG td pr up dn dv sd n mo sh co Ca Cz Cz K St Ex Am Ov Bi As Bj Aj BL AL He (va_up Co (7 * c + w9) 1) (va_up Cj (7 * c + w9) 1) (f_W up dn dv td n K St Ex Am He Ca sh pr) (-1) _ _ (f_IV_contrary hV hcn hww (by omega)) (f_JV_t hW9) (f_JC_up hcc (by omega)) (hG) (Or.inl ⟨rfl, rfl⟩) (by omega) (by omega)
  · refine jj_iconst C0 dL_law_1731 ?_
    refine jj_goto C0 (tgt := 1736) dL_law_1732 (by decide) ?_
    refine jj_topi (b := (if Co (7 * c + w9) = 1 then 0 else 1)) ((by first | rw [if_pos (by omega)] | rw [if_neg (by omega)])) ?_
    refine jj_icmpN C0 dL_law_1736 (tgt := 1743) (by decide) ?_
    refine jj_iconst C0 dL_law_1739 ?_
    refine jj_goto C0 (tgt := 1744) dL_law_1740 (by decide) ?_
    refine jj_istore C0 (lv' := [(17, .int (iI 1)), (41, .int (iI 1)), (18, .int (iI (-1))), (16, .int (iI 0)), (14, .long (lI (f_W up dn dv td n K St Ex Am He Ca sh pr))), (13, .int (iI (w9 : Int))), (12, .int (iI (c : Int))), (11, .int (iI u9)), (10, .int (iI v9)), (9, .int (iI (t : Int))), (8, .ref (ka 6)), (7, .ref (ka 5)), (6, .ref (ka 4)), (5, .ref (ka 3)), (4, .ref (ka 2)), (3, .ref (ka 1)), (2, .ref (ka 0)), (1, .ref (ha 0)), (0, .ref b)]) (by decide) rfl dL_law_1744 ?_
    refine jj_aload C0 14 rfl dL_law_1746 ?_
    refine jj_iload C0 6 rfl dL_law_1748 ?_
    refine jj_iload C0 1 rfl dL_law_1750 ?_
    refine jj_if_eq C0 (by omega) dL_law_1752 (tgt := 1768) (by decide) (fun c_5 => absurd c_5 (by omega)) (fun c_5 => ?_)
    refine jj_aload C0 14 rfl dL_law_1755 ?_
    refine jj_iload C0 6 rfl dL_law_1757 ?_
    refine jj_iald C0 (q0 := 2) (t0 := 0) (f := (f_ln Cj)) (rfl) rfl (k := c) (by omega) (by omega) (by decide) dL_law_1759 ?_
    refine jj_topi (b := (((f_ln Cj c).toNat : Nat) : Int)) ((Int.toNat_of_nonneg (f_ln_bd hCj9).1).symm) ?_
    refine jj_iconst C0 dL_law_1760 ?_
    refine jj_iload C0 5 rfl dL_law_1761 ?_
    refine jj_ishlN C0 (d := w9) (by omega) dL_law_1763 ?_
    refine jj_iorB C0 (w := ((f_ln Cj c).toNat)) (d := w9) (by have := f_ln_bd hCj9 (c := c); omega) (by omega) dL_law_1764 ?_
    refine jj_goto C0 (tgt := 1780) dL_law_1765 (by decide) ?_
    refine jj_topi (b := ((f_ln Cj c) + (1 - (Cj (7 * c + w9))) * 2 ^ w9)) (f_ln_or hCj9 (by omega)) ?_
    refine jj_iast C0 (q0 := 2) (t0 := 0) (f := (f_ln Cj)) (rfl) rfl (k := c) (by omega) (by omega) (by decide) (ws' := wL ka cI cJ td pr up dn mo sh co n K St Ex Am Ov Bj Aj BL AL He (va_up Cj (7 * c + w9) 1) dv Ca sd Cz ++ (wH ha cA hA nA ed cI cJ cZ td pr up dn dv rw sd mc n mo sh co Ca Cz K St Ex Am Bi As BL AL He (va_up Co (7 * c + w9) 1) ++ GG)) (wL_Co hCj9 (by omega)) dL_law_1780 ?_
    refine jj_goto C0 (tgt := 2039) dL_law_1781 (by decide) ?_
    refine jj_toHw ?_
    refine jj_lv [2, 0, 4, 7, 9, 10, 11, 12, 13, 14, 15, 16, 17, 18] rfl ?_
    exact kK cA hA nA ed rw mc GG td pr up dn dv sd n mo sh co Ca Cz Cz K St Ex Am Ov Bi As Bj Aj BL AL He (va_up Co (7 * c + w9) 1) (va_up Cj (7 * c + w9) 1) (f_W up dn dv td n K St Ex Am He Ca sh pr) (-1) _ _ (f_IV_contrary hV hcn hww (by omega)) (f_JV_t hW9) (f_JC_up hcc (by omega)) (hG) (Or.inl ⟨rfl, rfl⟩) (by omega) (by omega)
set_option maxHeartbeats 4000000 in
set_option maxRecDepth 100000 in
theorem lq_coS1 (hC9 : f_C9 p l s m args meth c9 dC dI A cI cJ cZ cO es mi sa b L xs) (hcs : cells + 100 ≤ 600104 ∧ slots + 4000 ≤ 7301314) (hk9 : k9 ≤ 89) (ht9 : t ≤ 89) (hI : f_IV k9 td n pr up dn dv sd mo sh Ca K St Ex Am Ov Bi As Bj Aj BL AL He Co) (hJ : f_JV t td n pr dv sh St Ex Bj Aj) (hcc : f_JC Ov Co Cj) (hG : f_LG cO es n ed cA GG) (hu9 : iR u9) (hv9 : iR v9) (kK : f_K9 p l e s m args below meth c9 dC dI A Q ha ka cI cJ cZ cO es b k9 t u9 cells slots)  (hcn : c < n) (hww : w9 ≤ 5) (hov0 : Ov c = 1) : jj_W p l e room_1 s m args below meth c9 (dC, dI) vwCl A 46 cells slots Q 1688 [(41, .int (iI 1)), (18, .int (iI (-1))), (17, .int (iI 1)), (16, .int (iI 1)), (14, .long (lI (f_W up dn dv td n K St Ex Am He Ca sh pr))), (13, .int (iI (w9 : Int))), (12, .int (iI (c : Int))), (11, .int (iI u9)), (10, .int (iI v9)), (9, .int (iI (t : Int))), (8, .ref (ka 6)), (7, .ref (ka 5)), (6, .ref (ka 4)), (5, .ref (ka 3)), (4, .ref (ka 2)), (3, .ref (ka 1)), (2, .ref (ka 0)), (1, .ref (ha 0)), (0, .ref b)] [] (wH ha cA hA nA ed cI cJ cZ td pr up dn dv rw sd mc n mo sh co Ca Cz K St Ex Am Bi As BL AL He Co ++ (GG ++ wL ka cI cJ td pr up dn mo sh co n K St Ex Am Ov Bj Aj BL AL He Cj dv Ca sd Cz)) := by
  obtain ⟨C0, hl, hL⟩ := hC9
  have hw := C0.2.2.2.2.1
  have hEV := hEVS es mi sa b L xs
  have hED0 : 0 < n → f_ED cA n ed cO GG := fun h9 => by have h8 := f_LG_ED (M := []) hG h9; rwa [List.append_nil] at h8
  have hCj9 := hcc.1
  have hV := hI
  obtain ⟨⟨htd, hn, hpr, hup, hdn, hdv, hsd, hmo, hsh⟩, ⟨hK, hSt, hEx, hAm, hOv, hovs, hexs, hovn⟩, hQ9, ⟨hHe, hsums, hHz⟩, ⟨hCo, hCz⟩, hCa⟩ := hI
  have hQ := hQ9
  obtain ⟨hBi, hAs, hBj, hAj, hBL, hAL, hQt, hQ0, hQn, hQo⟩ := hQ9
  have hW9 := hJ
  obtain ⟨hn6, htd5, hex5, hSp, hdv9, hBA, hsh9⟩ := hJ
  have hexs1 : ∀ c, c < n → Ex c ≤ (td : Int) + 10 := fun c hc => (hexs c hc).1
  have hHe9 : ∀ j, -999000 ≤ He j ∧ He j ≤ 999000 := fun j => by have := hHe j; omega
  have hHe6 : ∀ j, -1000000 ≤ He j ∧ He j ≤ 1000000 := fun j => by have := hHe j; omega
  have hCa9 : ∀ j, -100000000000000000 ≤ Ca j ∧ Ca j ≤ 100000000000000000 := fun j => by have := hCa j; omega
  have hov5 : ∀ c, c < n → (Ov c = 1 ∧ Ex c < (td : Int)) ∨ (Ov c = 0 ∧ (td : Int) ≤ Ex c ∧ Ex c ≤ (td : Int) + 5) := fun c hc => by have h1 := hovs c hc; have h2 := hex5 c hc; omega
  have hovw : ∀ c, c < n → He (7 * c + 6) = 0 ∨ (Ov c = 1 ∧ Ex c < (td : Int)) ∨ (Ov c = 0 ∧ (td : Int) ≤ Ex c ∧ Ex c ≤ (td : Int) + 5) := fun c hc => Or.inr (hov5 c hc)
  have hov1 := hovs c hcn
  refine jj_aload_n C0 17 rfl dL_law_1688 ?_
  refine jj_iload C0 5 rfl dL_law_1689 ?_
  refine jj_iload C0 6 rfl dL_law_1691 ?_
  refine jj_iload C0 0 rfl dL_law_1693 ?_
  refine jj_callSWi C0 (cells' := (cells + 1)) (slots' := (slots + 6)) (jj_weaki (fun A U H h => h.1.1) (cr_L_contrary_S hl (w := (w9 : Int)) (c := c) (v := 1) (by omega) (by omega) (by omega) hn (fun h9 => f_ED_app (hED0 h9)) hEx htd)) (vx_cwSW 4 hw (lw_gW hU_658 hU_659 hU_42 hU_660) rfl rfl rfl (by decide +kernel) ⟨Nat.le_of_ble_eq_true rfl, Nat.le_of_ble_eq_true rfl⟩) rfl rfl (Nat.le_of_ble_eq_true rfl) ⟨by show cells + 1 ≤ 600104; omega, by show slots + 6 ≤ 7301314; omega⟩ rfl rfl dL_law_1695 ?_
  intro _ hu
  show jj_W _ _ _ _ _ _ _ _ _ _ _ _ _ _ _ _ _ 1698 _ [.int (iI (-2000000003))] (wH ha cA hA nA ed cI cJ cZ td pr up dn dv rw sd mc n mo sh co Ca Cz K St Ex Am Bi As BL AL He Co ++ (GG ++ wL ka cI cJ td pr up dn mo sh co n K St Ex Am Ov Bj Aj BL AL He Cj dv Ca sd Cz))
  refine jj_iload C0 3 rfl dL_law_1698 ?_
  refine jj_if_eq C0 (by omega) dL_law_1700 (tgt := 1708) (by decide) (fun c_1 => absurd c_1 (by omega)) (fun c_1 => ?_)
  refine jj_ldc C0 (z := -2000000003) (by decide) (hw _ hU_472) dL_law_1703 ?_
  refine jj_goto C0 (tgt := 1736) dL_law_1705 (by decide) ?_
  refine jj_icmp_ne C0 (by omega) (by omega) dL_law_1736 (tgt := 1743) (by decide) (fun c_2 => absurd c_2 (by omega)) (fun c_2 => ?_)
  refine jj_iconst C0 dL_law_1739 ?_
  refine jj_goto C0 (tgt := 1744) dL_law_1740 (by decide) ?_
  refine jj_istore C0 (lv' := [(17, .int (iI 1)), (41, .int (iI 1)), (18, .int (iI (-1))), (16, .int (iI 1)), (14, .long (lI (f_W up dn dv td n K St Ex Am He Ca sh pr))), (13, .int (iI (w9 : Int))), (12, .int (iI (c : Int))), (11, .int (iI u9)), (10, .int (iI v9)), (9, .int (iI (t : Int))), (8, .ref (ka 6)), (7, .ref (ka 5)), (6, .ref (ka 4)), (5, .ref (ka 3)), (4, .ref (ka 2)), (3, .ref (ka 1)), (2, .ref (ka 0)), (1, .ref (ha 0)), (0, .ref b)]) (by decide) rfl dL_law_1744 ?_
  refine jj_aload C0 14 rfl dL_law_1746 ?_
  refine jj_iload C0 6 rfl dL_law_1748 ?_
  refine jj_iload C0 1 rfl dL_law_1750 ?_
  refine jj_if_eq C0 (by omega) dL_law_1752 (tgt := 1768) (by decide) (fun c_3 => absurd c_3 (by omega)) (fun c_3 => ?_)
  refine jj_aload C0 14 rfl dL_law_1755 ?_
  refine jj_iload C0 6 rfl dL_law_1757 ?_
  refine jj_toLw ?_
  refine jj_iald C0 (q0 := 2) (t0 := 0) (f := (f_ln Cj)) (rfl) rfl (k := c) (by omega) (by omega) (by decide) dL_law_1759 ?_
  refine jj_topi (b := (((f_ln Cj c).toNat : Nat) : Int)) ((Int.toNat_of_nonneg (f_ln_bd hCj9).1).symm) ?_
  refine jj_iconst C0 dL_law_1760 ?_
  refine jj_iload C0 5 rfl dL_law_1761 ?_
  refine jj_ishlN C0 (d := w9) (by omega) dL_law_1763 ?_
  refine jj_iorB C0 (w := ((f_ln Cj c).toNat)) (d := w9) (by have := f_ln_bd hCj9 (c := c); omega) (by omega) dL_law_1764 ?_
  refine jj_goto C0 (tgt := 1780) dL_law_1765 (by decide) ?_
  refine jj_topi (b := ((f_ln Cj c) + (1 - (Cj (7 * c + w9))) * 2 ^ w9)) (f_ln_or hCj9 (by omega)) ?_
  refine jj_iast C0 (q0 := 2) (t0 := 0) (f := (f_ln Cj)) (rfl) rfl (k := c) (by omega) (by omega) (by decide) (ws' := wL ka cI cJ td pr up dn mo sh co n K St Ex Am Ov Bj Aj BL AL He (va_up Cj (7 * c + w9) 1) dv Ca sd Cz ++ (wH ha cA hA nA ed cI cJ cZ td pr up dn dv rw sd mc n mo sh co Ca Cz K St Ex Am Bi As BL AL He Co ++ GG)) (wL_Co hCj9 (by omega)) dL_law_1780 ?_
  refine jj_goto C0 (tgt := 2039) dL_law_1781 (by decide) ?_
  refine jj_toHw ?_
  refine jj_lv [2, 0, 4, 7, 9, 10, 11, 12, 13, 14, 15, 16, 17, 18] rfl ?_
  exact kK cA hA nA ed rw mc GG td pr up dn dv sd n mo sh co Ca Cz Cz K St Ex Am Ov Bi As Bj Aj BL AL He Co (va_up Cj (7 * c + w9) 1) (f_W up dn dv td n K St Ex Am He Ca sh pr) (-1) _ _ (f_IV_k hV) (f_JV_t hW9) (f_JC_upS hcc (by omega) (by omega) (by omega)) (hG) (Or.inl ⟨rfl, rfl⟩) (by omega) (by omega)
set_option maxHeartbeats 4000000 in
set_option maxRecDepth 100000 in
theorem lq_coA0 (hC9 : f_C9 p l s m args meth c9 dC dI A cI cJ cZ cO es mi sa b L xs) (hcs : cells + 100 ≤ 600104 ∧ slots + 4000 ≤ 7301314) (hk9 : k9 ≤ 89) (ht9 : t ≤ 89) (hI : f_IV k9 td n pr up dn dv sd mo sh Ca K St Ex Am Ov Bi As Bj Aj BL AL He Co) (hJ : f_JV t td n pr dv sh St Ex Bj Aj) (hcc : f_JC Ov Co Cj) (hG : f_LG cO es n ed cA GG) (hu9 : iR u9) (hv9 : iR v9) (kK : f_K9 p l e s m args below meth c9 dC dI A Q ha ka cI cJ cZ cO es b k9 t u9 cells slots)  (hcn : c < n) (hww : w9 ≤ 5) (hov0 : Ov c = 0) : jj_W p l e room_1 s m args below meth c9 (dC, dI) vwCl A 46 cells slots Q 1688 [(41, .int (iI 0)), (18, .int (iI (-1))), (17, .int (iI 1)), (16, .int (iI 0)), (14, .long (lI (f_W up dn dv td n K St Ex Am He Ca sh pr))), (13, .int (iI (w9 : Int))), (12, .int (iI (c : Int))), (11, .int (iI u9)), (10, .int (iI v9)), (9, .int (iI (t : Int))), (8, .ref (ka 6)), (7, .ref (ka 5)), (6, .ref (ka 4)), (5, .ref (ka 3)), (4, .ref (ka 2)), (3, .ref (ka 1)), (2, .ref (ka 0)), (1, .ref (ha 0)), (0, .ref b)] [] (wH ha cA hA nA ed cI cJ cZ td pr up dn dv rw sd mc n mo sh co Ca Cz K St Ex Am Bi As BL AL He Co ++ (GG ++ wL ka cI cJ td pr up dn mo sh co n K St Ex Am Ov Bj Aj BL AL He Cj dv Ca sd Cz)) := by
  obtain ⟨C0, hl, hL⟩ := hC9
  have hw := C0.2.2.2.2.1
  have hEV := hEVS es mi sa b L xs
  have hED0 : 0 < n → f_ED cA n ed cO GG := fun h9 => by have h8 := f_LG_ED (M := []) hG h9; rwa [List.append_nil] at h8
  have hCj9 := hcc.1
  have hV := hI
  obtain ⟨⟨htd, hn, hpr, hup, hdn, hdv, hsd, hmo, hsh⟩, ⟨hK, hSt, hEx, hAm, hOv, hovs, hexs, hovn⟩, hQ9, ⟨hHe, hsums, hHz⟩, ⟨hCo, hCz⟩, hCa⟩ := hI
  have hQ := hQ9
  obtain ⟨hBi, hAs, hBj, hAj, hBL, hAL, hQt, hQ0, hQn, hQo⟩ := hQ9
  have hW9 := hJ
  obtain ⟨hn6, htd5, hex5, hSp, hdv9, hBA, hsh9⟩ := hJ
  have hexs1 : ∀ c, c < n → Ex c ≤ (td : Int) + 10 := fun c hc => (hexs c hc).1
  have hHe9 : ∀ j, -999000 ≤ He j ∧ He j ≤ 999000 := fun j => by have := hHe j; omega
  have hHe6 : ∀ j, -1000000 ≤ He j ∧ He j ≤ 1000000 := fun j => by have := hHe j; omega
  have hCa9 : ∀ j, -100000000000000000 ≤ Ca j ∧ Ca j ≤ 100000000000000000 := fun j => by have := hCa j; omega
  have hov5 : ∀ c, c < n → (Ov c = 1 ∧ Ex c < (td : Int)) ∨ (Ov c = 0 ∧ (td : Int) ≤ Ex c ∧ Ex c ≤ (td : Int) + 5) := fun c hc => by have h1 := hovs c hc; have h2 := hex5 c hc; omega
  have hovw : ∀ c, c < n → He (7 * c + 6) = 0 ∨ (Ov c = 1 ∧ Ex c < (td : Int)) ∨ (Ov c = 0 ∧ (td : Int) ≤ Ex c ∧ Ex c ≤ (td : Int) + 5) := fun c hc => Or.inr (hov5 c hc)
  have hov1 := hovs c hcn
  have hb1 := hCo (7 * c + w9)
  refine jj_aload_n C0 17 rfl dL_law_1688 ?_
  refine jj_iload C0 5 rfl dL_law_1689 ?_
  refine jj_iload C0 6 rfl dL_law_1691 ?_
  refine jj_iload C0 0 rfl dL_law_1693 ?_
  refine jj_callSWi C0 (cells' := cells) (slots' := slots) (jj_weaki (fun A U H h => h.1.1) (cw_L_contrary hl (k := w9) (c := c) (v := 0) (by omega) (by omega) (by omega) (by omega) hn (fun h9 => f_ED_app (hED0 h9)) hCo htd hEx)) (vx_cwSW 4 hw (lw_gW hU_658 hU_659 hU_42 hU_660) rfl rfl rfl (by decide +kernel) ⟨Nat.le_of_ble_eq_true rfl, Nat.le_of_ble_eq_true rfl⟩) rfl rfl (Nat.le_of_ble_eq_true rfl) ⟨by show cells + 0 ≤ 600104; omega, by show slots + 0 ≤ 7301314; omega⟩ rfl rfl dL_law_1695 ?_
  intro _ hu
  show jj_W _ _ _ _ _ _ _ _ _ _ _ _ _ _ _ _ _ 1698 _ [.int (iI (if Co (7 * c + w9) = 0 then 0 else 1))] (wH ha cA hA nA ed cI cJ cZ td pr up dn dv rw sd mc n mo sh co Ca Cz K St Ex Am Bi As BL AL He (va_up Co (7 * c + w9) 0) ++ (GG ++ wL ka cI cJ td pr up dn mo sh co n K St Ex Am Ov Bj Aj BL AL He Cj dv Ca sd Cz))
  refine jj_iload C0 3 rfl dL_law_1698 ?_
  refine jj_if_eq C0 (by omega) dL_law_1700 (tgt := 1708) (by decide) (fun c_1 => ?_) (fun c_1 => absurd c_1 (by omega))
  refine jj_aload C0 14 rfl dL_law_1708 ?_
  refine jj_iload C0 6 rfl dL_law_1710 ?_
  refine jj_toLw ?_
  refine jj_iald C0 (q0 := 2) (t0 := 0) (f := (f_ln Cj)) (rfl) rfl (k := c) (by omega) (by omega) (by decide) dL_law_1712 ?_
  refine jj_topi (b := (((f_ln Cj c).toNat : Nat) : Int)) ((Int.toNat_of_nonneg (f_ln_bd hCj9).1).symm) ?_
  refine jj_iload C0 5 rfl dL_law_1713 ?_
  refine jj_ishrN C0 (w := ((f_ln Cj c).toNat)) (d := w9) (by have := f_ln_bd hCj9 (c := c); omega) (by omega) dL_law_1715 ?_
  refine jj_iconst C0 dL_law_1716 ?_
  refine jj_iandN1 C0 (w := (((f_ln Cj c).toNat) / 2 ^ w9)) (by have := f_ln_bd hCj9 (c := c); have h8 := Nat.div_le_self (f_ln Cj c).toNat (2 ^ w9); omega) dL_law_1717 ?_
  refine jj_topi (b := (Co (7 * c + w9))) ((f_ln_bit hCj9 (by omega)).trans (hcc.2 c w9 (by omega) hov0)) ?_
  refine jj_iload C0 0 rfl dL_law_1718 ?_
  refine jj_if_eq C0 (by omega) dL_law_1720 (tgt := 1727) (by decide) (fun c_2 => ?_) (fun c_2 => absurd c_2 (by omega))
  refine jj_iconst C0 dL_law_1727 ?_
  refine jj_icmp_ne C0 (by omega) (by omega) dL_law_1728 (tgt := 1735) (by decide) (fun c_3 => ?_) (fun c_3 => ?_)
  · refine jj_iconst C0 dL_law_1735 ?_
    refine jj_topi (b := (if Co (7 * c + w9) = 0 then 0 else 1)) ((by first | rw [if_pos (by omega)] | rw [if_neg (by omega)])) ?_
    refine jj_icmpN C0 dL_law_1736 (tgt := 1743) (by decide) ?_
    refine jj_iconst C0 dL_law_1739 ?_
    refine jj_goto C0 (tgt := 1744) dL_law_1740 (by decide) ?_
    refine jj_istore C0 (lv' := [(17, .int (iI 1)), (41, .int (iI 0)), (18, .int (iI (-1))), (16, .int (iI 0)), (14, .long (lI (f_W up dn dv td n K St Ex Am He Ca sh pr))), (13, .int (iI (w9 : Int))), (12, .int (iI (c : Int))), (11, .int (iI u9)), (10, .int (iI v9)), (9, .int (iI (t : Int))), (8, .ref (ka 6)), (7, .ref (ka 5)), (6, .ref (ka 4)), (5, .ref (ka 3)), (4, .ref (ka 2)), (3, .ref (ka 1)), (2, .ref (ka 0)), (1, .ref (ha 0)), (0, .ref b)]) (by decide) rfl dL_law_1744 ?_
    refine jj_aload C0 14 rfl dL_law_1746 ?_
    refine jj_iload C0 6 rfl dL_law_1748 ?_
    refine jj_iload C0 1 rfl dL_law_1750 ?_
    refine jj_if_eq C0 (by omega) dL_law_1752 (tgt := 1768) (by decide) (fun c_4 => ?_) (fun c_4 => absurd c_4 (by omega))
    refine jj_aload C0 14 rfl dL_law_1768 ?_
    refine jj_iload C0 6 rfl dL_law_1770 ?_
    refine jj_iald C0 (q0 := 2) (t0 := 0) (f := (f_ln Cj)) (rfl) rfl (k := c) (by omega) (by omega) (by decide) dL_law_1772 ?_
    refine jj_topi (b := (((f_ln Cj c).toNat : Nat) : Int)) ((Int.toNat_of_nonneg (f_ln_bd hCj9).1).symm) ?_
    refine jj_iconst C0 dL_law_1773 ?_
    refine jj_iload C0 5 rfl dL_law_1774 ?_
    refine jj_ishlN C0 (d := w9) (by omega) dL_law_1776 ?_
    refine jj_nandB C0 (w := ((f_ln Cj c).toNat)) (d := w9) (by have := f_ln_bd hCj9 (c := c); omega) (by omega) dL_law_1777 dL_law_1778 dL_law_1779 ?_
    refine jj_topi (b := ((f_ln Cj c) + (0 - (Cj (7 * c + w9))) * 2 ^ w9)) (f_ln_nand hCj9 (by omega)) ?_
    refine jj_iast C0 (q0 := 2) (t0 := 0) (f := (f_ln Cj)) (rfl) rfl (k := c) (by omega) (by omega) (by decide) (ws' := wL ka cI cJ td pr up dn mo sh co n K St Ex Am Ov Bj Aj BL AL He (va_up Cj (7 * c + w9) 0) dv Ca sd Cz ++ (wH ha cA hA nA ed cI cJ cZ td pr up dn dv rw sd mc n mo sh co Ca Cz K St Ex Am Bi As BL AL He (va_up Co (7 * c + w9) 0) ++ GG)) (wL_Co hCj9 (by omega)) dL_law_1780 ?_
    refine jj_goto C0 (tgt := 2039) dL_law_1781 (by decide) ?_
    refine jj_toHw ?_
    refine jj_lv [2, 0, 4, 7, 9, 10, 11, 12, 13, 14, 15, 16, 17, 18] rfl ?_
    exact kK cA hA nA ed rw mc GG td pr up dn dv sd n mo sh co Ca Cz Cz K St Ex Am Ov Bi As Bj Aj BL AL He (va_up Co (7 * c + w9) 0) (va_up Cj (7 * c + w9) 0) (f_W up dn dv td n K St Ex Am He Ca sh pr) (-1) _ _ (f_IV_contrary hV hcn hww (by omega)) (f_JV_t hW9) (f_JC_up hcc (by omega)) (hG) (Or.inl ⟨rfl, rfl⟩) (by omega) (by omega)
  · refine jj_iconst C0 dL_law_1731 ?_
    refine jj_goto C0 (tgt := 1736) dL_law_1732 (by decide) ?_
    refine jj_topi (b := (if Co (7 * c + w9) = 0 then 0 else 1)) ((by first | rw [if_pos (by omega)] | rw [if_neg (by omega)])) ?_
    refine jj_icmpN C0 dL_law_1736 (tgt := 1743) (by decide) ?_
    refine jj_iconst C0 dL_law_1739 ?_
    refine jj_goto C0 (tgt := 1744) dL_law_1740 (by decide) ?_
    refine jj_istore C0 (lv' := [(17, .int (iI 1)), (41, .int (iI 0)), (18, .int (iI (-1))), (16, .int (iI 0)), (14, .long (lI (f_W up dn dv td n K St Ex Am He Ca sh pr))), (13, .int (iI (w9 : Int))), (12, .int (iI (c : Int))), (11, .int (iI u9)), (10, .int (iI v9)), (9, .int (iI (t : Int))), (8, .ref (ka 6)), (7, .ref (ka 5)), (6, .ref (ka 4)), (5, .ref (ka 3)), (4, .ref (ka 2)), (3, .ref (ka 1)), (2, .ref (ka 0)), (1, .ref (ha 0)), (0, .ref b)]) (by decide) rfl dL_law_1744 ?_
    refine jj_aload C0 14 rfl dL_law_1746 ?_
    refine jj_iload C0 6 rfl dL_law_1748 ?_
    refine jj_iload C0 1 rfl dL_law_1750 ?_
    refine jj_if_eq C0 (by omega) dL_law_1752 (tgt := 1768) (by decide) (fun c_5 => ?_) (fun c_5 => absurd c_5 (by omega))
    refine jj_aload C0 14 rfl dL_law_1768 ?_
    refine jj_iload C0 6 rfl dL_law_1770 ?_
    refine jj_iald C0 (q0 := 2) (t0 := 0) (f := (f_ln Cj)) (rfl) rfl (k := c) (by omega) (by omega) (by decide) dL_law_1772 ?_
    refine jj_topi (b := (((f_ln Cj c).toNat : Nat) : Int)) ((Int.toNat_of_nonneg (f_ln_bd hCj9).1).symm) ?_
    refine jj_iconst C0 dL_law_1773 ?_
    refine jj_iload C0 5 rfl dL_law_1774 ?_
    refine jj_ishlN C0 (d := w9) (by omega) dL_law_1776 ?_
    refine jj_nandB C0 (w := ((f_ln Cj c).toNat)) (d := w9) (by have := f_ln_bd hCj9 (c := c); omega) (by omega) dL_law_1777 dL_law_1778 dL_law_1779 ?_
    refine jj_topi (b := ((f_ln Cj c) + (0 - (Cj (7 * c + w9))) * 2 ^ w9)) (f_ln_nand hCj9 (by omega)) ?_
    refine jj_iast C0 (q0 := 2) (t0 := 0) (f := (f_ln Cj)) (rfl) rfl (k := c) (by omega) (by omega) (by decide) (ws' := wL ka cI cJ td pr up dn mo sh co n K St Ex Am Ov Bj Aj BL AL He (va_up Cj (7 * c + w9) 0) dv Ca sd Cz ++ (wH ha cA hA nA ed cI cJ cZ td pr up dn dv rw sd mc n mo sh co Ca Cz K St Ex Am Bi As BL AL He (va_up Co (7 * c + w9) 0) ++ GG)) (wL_Co hCj9 (by omega)) dL_law_1780 ?_
    refine jj_goto C0 (tgt := 2039) dL_law_1781 (by decide) ?_
    refine jj_toHw ?_
    refine jj_lv [2, 0, 4, 7, 9, 10, 11, 12, 13, 14, 15, 16, 17, 18] rfl ?_
    exact kK cA hA nA ed rw mc GG td pr up dn dv sd n mo sh co Ca Cz Cz K St Ex Am Ov Bi As Bj Aj BL AL He (va_up Co (7 * c + w9) 0) (va_up Cj (7 * c + w9) 0) (f_W up dn dv td n K St Ex Am He Ca sh pr) (-1) _ _ (f_IV_contrary hV hcn hww (by omega)) (f_JV_t hW9) (f_JC_up hcc (by omega)) (hG) (Or.inl ⟨rfl, rfl⟩) (by omega) (by omega)
set_option maxHeartbeats 4000000 in
set_option maxRecDepth 100000 in
theorem lq_coS0 (hC9 : f_C9 p l s m args meth c9 dC dI A cI cJ cZ cO es mi sa b L xs) (hcs : cells + 100 ≤ 600104 ∧ slots + 4000 ≤ 7301314) (hk9 : k9 ≤ 89) (ht9 : t ≤ 89) (hI : f_IV k9 td n pr up dn dv sd mo sh Ca K St Ex Am Ov Bi As Bj Aj BL AL He Co) (hJ : f_JV t td n pr dv sh St Ex Bj Aj) (hcc : f_JC Ov Co Cj) (hG : f_LG cO es n ed cA GG) (hu9 : iR u9) (hv9 : iR v9) (kK : f_K9 p l e s m args below meth c9 dC dI A Q ha ka cI cJ cZ cO es b k9 t u9 cells slots)  (hcn : c < n) (hww : w9 ≤ 5) (hov0 : Ov c = 1) : jj_W p l e room_1 s m args below meth c9 (dC, dI) vwCl A 46 cells slots Q 1688 [(41, .int (iI 0)), (18, .int (iI (-1))), (17, .int (iI 1)), (16, .int (iI 1)), (14, .long (lI (f_W up dn dv td n K St Ex Am He Ca sh pr))), (13, .int (iI (w9 : Int))), (12, .int (iI (c : Int))), (11, .int (iI u9)), (10, .int (iI v9)), (9, .int (iI (t : Int))), (8, .ref (ka 6)), (7, .ref (ka 5)), (6, .ref (ka 4)), (5, .ref (ka 3)), (4, .ref (ka 2)), (3, .ref (ka 1)), (2, .ref (ka 0)), (1, .ref (ha 0)), (0, .ref b)] [] (wH ha cA hA nA ed cI cJ cZ td pr up dn dv rw sd mc n mo sh co Ca Cz K St Ex Am Bi As BL AL He Co ++ (GG ++ wL ka cI cJ td pr up dn mo sh co n K St Ex Am Ov Bj Aj BL AL He Cj dv Ca sd Cz)) := by
  obtain ⟨C0, hl, hL⟩ := hC9
  have hw := C0.2.2.2.2.1
  have hEV := hEVS es mi sa b L xs
  have hED0 : 0 < n → f_ED cA n ed cO GG := fun h9 => by have h8 := f_LG_ED (M := []) hG h9; rwa [List.append_nil] at h8
  have hCj9 := hcc.1
  have hV := hI
  obtain ⟨⟨htd, hn, hpr, hup, hdn, hdv, hsd, hmo, hsh⟩, ⟨hK, hSt, hEx, hAm, hOv, hovs, hexs, hovn⟩, hQ9, ⟨hHe, hsums, hHz⟩, ⟨hCo, hCz⟩, hCa⟩ := hI
  have hQ := hQ9
  obtain ⟨hBi, hAs, hBj, hAj, hBL, hAL, hQt, hQ0, hQn, hQo⟩ := hQ9
  have hW9 := hJ
  obtain ⟨hn6, htd5, hex5, hSp, hdv9, hBA, hsh9⟩ := hJ
  have hexs1 : ∀ c, c < n → Ex c ≤ (td : Int) + 10 := fun c hc => (hexs c hc).1
  have hHe9 : ∀ j, -999000 ≤ He j ∧ He j ≤ 999000 := fun j => by have := hHe j; omega
  have hHe6 : ∀ j, -1000000 ≤ He j ∧ He j ≤ 1000000 := fun j => by have := hHe j; omega
  have hCa9 : ∀ j, -100000000000000000 ≤ Ca j ∧ Ca j ≤ 100000000000000000 := fun j => by have := hCa j; omega
  have hov5 : ∀ c, c < n → (Ov c = 1 ∧ Ex c < (td : Int)) ∨ (Ov c = 0 ∧ (td : Int) ≤ Ex c ∧ Ex c ≤ (td : Int) + 5) := fun c hc => by have h1 := hovs c hc; have h2 := hex5 c hc; omega
  have hovw : ∀ c, c < n → He (7 * c + 6) = 0 ∨ (Ov c = 1 ∧ Ex c < (td : Int)) ∨ (Ov c = 0 ∧ (td : Int) ≤ Ex c ∧ Ex c ≤ (td : Int) + 5) := fun c hc => Or.inr (hov5 c hc)
  have hov1 := hovs c hcn
  refine jj_aload_n C0 17 rfl dL_law_1688 ?_
  refine jj_iload C0 5 rfl dL_law_1689 ?_
  refine jj_iload C0 6 rfl dL_law_1691 ?_
  refine jj_iload C0 0 rfl dL_law_1693 ?_
  refine jj_callSWi C0 (cells' := (cells + 1)) (slots' := (slots + 6)) (jj_weaki (fun A U H h => h.1.1) (cr_L_contrary_S hl (w := (w9 : Int)) (c := c) (v := 0) (by omega) (by omega) (by omega) hn (fun h9 => f_ED_app (hED0 h9)) hEx htd)) (vx_cwSW 4 hw (lw_gW hU_658 hU_659 hU_42 hU_660) rfl rfl rfl (by decide +kernel) ⟨Nat.le_of_ble_eq_true rfl, Nat.le_of_ble_eq_true rfl⟩) rfl rfl (Nat.le_of_ble_eq_true rfl) ⟨by show cells + 1 ≤ 600104; omega, by show slots + 6 ≤ 7301314; omega⟩ rfl rfl dL_law_1695 ?_
  intro _ hu
  show jj_W _ _ _ _ _ _ _ _ _ _ _ _ _ _ _ _ _ 1698 _ [.int (iI (-2000000003))] (wH ha cA hA nA ed cI cJ cZ td pr up dn dv rw sd mc n mo sh co Ca Cz K St Ex Am Bi As BL AL He Co ++ (GG ++ wL ka cI cJ td pr up dn mo sh co n K St Ex Am Ov Bj Aj BL AL He Cj dv Ca sd Cz))
  refine jj_iload C0 3 rfl dL_law_1698 ?_
  refine jj_if_eq C0 (by omega) dL_law_1700 (tgt := 1708) (by decide) (fun c_1 => absurd c_1 (by omega)) (fun c_1 => ?_)
  refine jj_ldc C0 (z := -2000000003) (by decide) (hw _ hU_472) dL_law_1703 ?_
  refine jj_goto C0 (tgt := 1736) dL_law_1705 (by decide) ?_
  refine jj_icmp_ne C0 (by omega) (by omega) dL_law_1736 (tgt := 1743) (by decide) (fun c_2 => absurd c_2 (by omega)) (fun c_2 => ?_)
  refine jj_iconst C0 dL_law_1739 ?_
  refine jj_goto C0 (tgt := 1744) dL_law_1740 (by decide) ?_
  refine jj_istore C0 (lv' := [(17, .int (iI 1)), (41, .int (iI 0)), (18, .int (iI (-1))), (16, .int (iI 1)), (14, .long (lI (f_W up dn dv td n K St Ex Am He Ca sh pr))), (13, .int (iI (w9 : Int))), (12, .int (iI (c : Int))), (11, .int (iI u9)), (10, .int (iI v9)), (9, .int (iI (t : Int))), (8, .ref (ka 6)), (7, .ref (ka 5)), (6, .ref (ka 4)), (5, .ref (ka 3)), (4, .ref (ka 2)), (3, .ref (ka 1)), (2, .ref (ka 0)), (1, .ref (ha 0)), (0, .ref b)]) (by decide) rfl dL_law_1744 ?_
  refine jj_aload C0 14 rfl dL_law_1746 ?_
  refine jj_iload C0 6 rfl dL_law_1748 ?_
  refine jj_iload C0 1 rfl dL_law_1750 ?_
  refine jj_if_eq C0 (by omega) dL_law_1752 (tgt := 1768) (by decide) (fun c_3 => ?_) (fun c_3 => absurd c_3 (by omega))
  refine jj_aload C0 14 rfl dL_law_1768 ?_
  refine jj_iload C0 6 rfl dL_law_1770 ?_
  refine jj_toLw ?_
  refine jj_iald C0 (q0 := 2) (t0 := 0) (f := (f_ln Cj)) (rfl) rfl (k := c) (by omega) (by omega) (by decide) dL_law_1772 ?_
  refine jj_topi (b := (((f_ln Cj c).toNat : Nat) : Int)) ((Int.toNat_of_nonneg (f_ln_bd hCj9).1).symm) ?_
  refine jj_iconst C0 dL_law_1773 ?_
  refine jj_iload C0 5 rfl dL_law_1774 ?_
  refine jj_ishlN C0 (d := w9) (by omega) dL_law_1776 ?_
  refine jj_nandB C0 (w := ((f_ln Cj c).toNat)) (d := w9) (by have := f_ln_bd hCj9 (c := c); omega) (by omega) dL_law_1777 dL_law_1778 dL_law_1779 ?_
  refine jj_topi (b := ((f_ln Cj c) + (0 - (Cj (7 * c + w9))) * 2 ^ w9)) (f_ln_nand hCj9 (by omega)) ?_
  refine jj_iast C0 (q0 := 2) (t0 := 0) (f := (f_ln Cj)) (rfl) rfl (k := c) (by omega) (by omega) (by decide) (ws' := wL ka cI cJ td pr up dn mo sh co n K St Ex Am Ov Bj Aj BL AL He (va_up Cj (7 * c + w9) 0) dv Ca sd Cz ++ (wH ha cA hA nA ed cI cJ cZ td pr up dn dv rw sd mc n mo sh co Ca Cz K St Ex Am Bi As BL AL He Co ++ GG)) (wL_Co hCj9 (by omega)) dL_law_1780 ?_
  refine jj_goto C0 (tgt := 2039) dL_law_1781 (by decide) ?_
  refine jj_toHw ?_
  refine jj_lv [2, 0, 4, 7, 9, 10, 11, 12, 13, 14, 15, 16, 17, 18] rfl ?_
  exact kK cA hA nA ed rw mc GG td pr up dn dv sd n mo sh co Ca Cz Cz K St Ex Am Ov Bi As Bj Aj BL AL He Co (va_up Cj (7 * c + w9) 0) (f_W up dn dv td n K St Ex Am He Ca sh pr) (-1) _ _ (f_IV_k hV) (f_JV_t hW9) (f_JC_upS hcc (by omega) (by omega) (by omega)) (hG) (Or.inl ⟨rfl, rfl⟩) (by omega) (by omega)
set_option maxHeartbeats 4000000 in
set_option maxRecDepth 100000 in
theorem lq_contrary (hC9 : f_C9 p l s m args meth c9 dC dI A cI cJ cZ cO es mi sa b L xs) (hcs : cells + 100 ≤ 600104 ∧ slots + 4000 ≤ 7301314) (hk9 : k9 ≤ 89) (ht9 : t ≤ 89) (hI : f_IV k9 td n pr up dn dv sd mo sh Ca K St Ex Am Ov Bi As Bj Aj BL AL He Co) (hJ : f_JV t td n pr dv sh St Ex Bj Aj) (hcc : f_JC Ov Co Cj) (hG : f_LG cO es n ed cA GG) (hu9 : iR u9) (hv9 : iR v9) (kK : f_K9 p l e s m args below meth c9 dC dI A Q ha ka cI cJ cZ cO es b k9 t u9 cells slots)  (hwc : n = 0 ∨ c < n) (hww : w9 ≤ 6) (hio : (io = 1 ∧ (n = 0 ∨ Ov c = 1)) ∨ (io = 0 ∧ c < n ∧ Ov c = 0)) : jj_W p l e room_1 s m args below meth c9 (dC, dI) vwCl A 46 cells slots Q 1656 [(18, .int (iI (-1))), (17, .int (iI 1)), (16, .int (iI io)), (14, .long (lI (f_W up dn dv td n K St Ex Am He Ca sh pr))), (13, .int (iI (w9 : Int))), (12, .int (iI (c : Int))), (11, .int (iI u9)), (10, .int (iI v9)), (9, .int (iI (t : Int))), (8, .ref (ka 6)), (7, .ref (ka 5)), (6, .ref (ka 4)), (5, .ref (ka 3)), (4, .ref (ka 2)), (3, .ref (ka 1)), (2, .ref (ka 0)), (1, .ref (ha 0)), (0, .ref b)] [] (wH ha cA hA nA ed cI cJ cZ td pr up dn dv rw sd mc n mo sh co Ca Cz K St Ex Am Bi As BL AL He Co ++ (GG ++ wL ka cI cJ td pr up dn mo sh co n K St Ex Am Ov Bj Aj BL AL He Cj dv Ca sd Cz)) := by
  obtain ⟨C0, hl, hL⟩ := hC9
  have hw := C0.2.2.2.2.1
  have hEV := hEVS es mi sa b L xs
  have hED0 : 0 < n → f_ED cA n ed cO GG := fun h9 => by have h8 := f_LG_ED (M := []) hG h9; rwa [List.append_nil] at h8
  have hCj9 := hcc.1
  have hV := hI
  obtain ⟨⟨htd, hn, hpr, hup, hdn, hdv, hsd, hmo, hsh⟩, ⟨hK, hSt, hEx, hAm, hOv, hovs, hexs, hovn⟩, hQ9, ⟨hHe, hsums, hHz⟩, ⟨hCo, hCz⟩, hCa⟩ := hI
  have hQ := hQ9
  obtain ⟨hBi, hAs, hBj, hAj, hBL, hAL, hQt, hQ0, hQn, hQo⟩ := hQ9
  have hW9 := hJ
  obtain ⟨hn6, htd5, hex5, hSp, hdv9, hBA, hsh9⟩ := hJ
  have hexs1 : ∀ c, c < n → Ex c ≤ (td : Int) + 10 := fun c hc => (hexs c hc).1
  have hHe9 : ∀ j, -999000 ≤ He j ∧ He j ≤ 999000 := fun j => by have := hHe j; omega
  have hHe6 : ∀ j, -1000000 ≤ He j ∧ He j ≤ 1000000 := fun j => by have := hHe j; omega
  have hCa9 : ∀ j, -100000000000000000 ≤ Ca j ∧ Ca j ≤ 100000000000000000 := fun j => by have := hCa j; omega
  have hov5 : ∀ c, c < n → (Ov c = 1 ∧ Ex c < (td : Int)) ∨ (Ov c = 0 ∧ (td : Int) ≤ Ex c ∧ Ex c ≤ (td : Int) + 5) := fun c hc => by have h1 := hovs c hc; have h2 := hex5 c hc; omega
  have hovw : ∀ c, c < n → He (7 * c + 6) = 0 ∨ (Ov c = 1 ∧ Ex c < (td : Int)) ∨ (Ov c = 0 ∧ (td : Int) ≤ Ex c ∧ Ex c ≤ (td : Int) + 5) := fun c hc => Or.inr (hov5 c hc)
  refine jj_aload C0 11 rfl dL_law_1656 ?_
  refine jj_bipush C0 dL_law_1658 (by decide) ?_
  refine jj_toLw ?_
  refine jj_iald C0 (q0 := 4) (t0 := 0) (f := (f_lg td pr up dn mo sh co n)) (rfl) rfl (k := 7) (by omega) (by omega) (by decide) dL_law_1660 ?_
  refine jj_topi (b := (n : Int)) (rfl) ?_
  refine jj_if_eq C0 (by omega) dL_law_1661 (tgt := 2039) (by decide) (fun c_1 => ?_) (fun c_1 => ?_)
  · refine jj_toHw ?_
    refine jj_lv [0, 1, 3, 6, 8, 9, 10, 11, 12, 13, 14, 15, 16, 17] rfl ?_
    exact kK cA hA nA ed rw mc GG td pr up dn dv sd n mo sh co Ca Cz Cz K St Ex Am Ov Bi As Bj Aj BL AL He Co Cj (f_W up dn dv td n K St Ex Am He Ca sh pr) (-1) _ _ (f_IV_k hV) (f_JV_t hW9) (hcc) (hG) (Or.inl ⟨rfl, rfl⟩) (by omega) (by omega)
  · refine jj_iload C0 4 rfl dL_law_1664 ?_
    refine jj_bipush C0 dL_law_1666 (by decide) ?_
    refine jj_icmp_ne C0 (by omega) (by omega) dL_law_1668 (tgt := 1674) (by decide) (fun c_2 => ?_) (fun c_2 => ?_)
    · refine jj_iload C0 6 rfl dL_law_1674 ?_
      refine jj_iconst C0 dL_law_1676 ?_
      refine jj_iandX C0 dL_law_1677 ?_
      have hR1677 := f_an_R u9 3
      refine jj_if_le C0 (by omega) dL_law_1678 (tgt := 1685) (by decide) (fun c_3 => ?_) (fun c_3 => ?_)
      · refine jj_iconst C0 dL_law_1685 ?_
        refine jj_istore C0 (lv' := [(41, .int (iI 0)), (18, .int (iI (-1))), (17, .int (iI 1)), (16, .int (iI io)), (14, .long (lI (f_W up dn dv td n K St Ex Am He Ca sh pr))), (13, .int (iI (w9 : Int))), (12, .int (iI (c : Int))), (11, .int (iI u9)), (10, .int (iI v9)), (9, .int (iI (t : Int))), (8, .ref (ka 6)), (7, .ref (ka 5)), (6, .ref (ka 4)), (5, .ref (ka 3)), (4, .ref (ka 2)), (3, .ref (ka 1)), (2, .ref (ka 0)), (1, .ref (ha 0)), (0, .ref b)]) (by decide) rfl dL_law_1686 ?_
        refine jj_toHw ?_
        have hcn : c < n := by omega
        rcases (by omega : (Ov c = 0 ∧ io = 0) ∨ (Ov c = 1 ∧ io = 1)) with ⟨h7, h8⟩ | ⟨h7, h8⟩
        · subst h8; exact lq_coA0 ⟨C0, hl, hL⟩ hcs hk9 ht9 hV hW9 hcc hG hu9 hv9 kK hcn (by omega) h7 
        · subst h8; exact lq_coS0 ⟨C0, hl, hL⟩ hcs hk9 ht9 hV hW9 hcc hG hu9 hv9 kK hcn (by omega) h7 
      · refine jj_iconst C0 dL_law_1681 ?_
        refine jj_goto C0 (tgt := 1686) dL_law_1682 (by decide) ?_
        refine jj_istore C0 (lv' := [(41, .int (iI 1)), (18, .int (iI (-1))), (17, .int (iI 1)), (16, .int (iI io)), (14, .long (lI (f_W up dn dv td n K St Ex Am He Ca sh pr))), (13, .int (iI (w9 : Int))), (12, .int (iI (c : Int))), (11, .int (iI u9)), (10, .int (iI v9)), (9, .int (iI (t : Int))), (8, .ref (ka 6)), (7, .ref (ka 5)), (6, .ref (ka 4)), (5, .ref (ka 3)), (4, .ref (ka 2)), (3, .ref (ka 1)), (2, .ref (ka 0)), (1, .ref (ha 0)), (0, .ref b)]) (by decide) rfl dL_law_1686 ?_
        refine jj_toHw ?_
        have hcn : c < n := by omega
        rcases (by omega : (Ov c = 0 ∧ io = 0) ∨ (Ov c = 1 ∧ io = 1)) with ⟨h7, h8⟩ | ⟨h7, h8⟩
        · subst h8; exact lq_coA1 ⟨C0, hl, hL⟩ hcs hk9 ht9 hV hW9 hcc hG hu9 hv9 kK hcn (by omega) h7 
        · subst h8; exact lq_coS1 ⟨C0, hl, hL⟩ hcs hk9 ht9 hV hW9 hcc hG hu9 hv9 kK hcn (by omega) h7 
    · refine jj_goto C0 (tgt := 2039) dL_law_1671 (by decide) ?_
      refine jj_toHw ?_
      refine jj_lv [0, 1, 3, 6, 8, 9, 10, 11, 12, 13, 14, 15, 16, 17] rfl ?_
      exact kK cA hA nA ed rw mc GG td pr up dn dv sd n mo sh co Ca Cz Cz K St Ex Am Ov Bi As Bj Aj BL AL He Co Cj (f_W up dn dv td n K St Ex Am He Ca sh pr) (-1) _ _ (f_IV_k hV) (f_JV_t hW9) (hcc) (hG) (Or.inl ⟨rfl, rfl⟩) (by omega) (by omega)
set_option maxHeartbeats 4000000 in
set_option maxRecDepth 100000 in
theorem lq_orB (hC9 : f_C9 p l s m args meth c9 dC dI A cI cJ cZ cO es mi sa b L xs) (hcs : cells + 100 ≤ 600104 ∧ slots + 4000 ≤ 7301314) (hk9 : k9 ≤ 89) (ht9 : t ≤ 89) (hI : f_IV k9 td n pr up dn dv sd mo sh Ca K St Ex Am Ov Bi As Bj Aj BL AL He Co) (hJ : f_JV t td n pr dv sh St Ex Bj Aj) (hcc : f_JC Ov Co Cj) (hG : f_LG cO es n ed cA GG) (hu9 : iR u9) (hv9 : iR v9) (kK : f_K9 p l e s m args below meth c9 dC dI A Q ha ka cI cJ cZ cO es b k9 t u9 cells slots) {x1 : Int} (hcn : c < n) (hww : w9 ≤ 5) (hov0 : Ov c = 0) (hx4 : 0 ≤ x1 ∧ x1 < 40) : jj_W p l e room_1 s m args below meth c9 (dC, dI) vwCl A 46 cells slots Q 896 [(29, .int (iI (1 + x1))), (18, .int (iI (-1))), (17, .int (iI 1)), (16, .int (iI 0)), (14, .long (lI (f_W up dn dv td n K St Ex Am He Ca sh pr))), (13, .int (iI (w9 : Int))), (12, .int (iI (c : Int))), (11, .int (iI u9)), (10, .int (iI v9)), (9, .int (iI (t : Int))), (8, .ref (ka 6)), (7, .ref (ka 5)), (6, .ref (ka 4)), (5, .ref (ka 3)), (4, .ref (ka 2)), (3, .ref (ka 1)), (2, .ref (ka 0)), (1, .ref (ha 0)), (0, .ref b)] [] (wH ha cA hA nA ed cI cJ cZ td pr up dn dv rw sd mc n mo sh co Ca Cz K St Ex Am Bi As BL AL He Co ++ (GG ++ wL ka cI cJ td pr up dn mo sh co n K St Ex Am Ov Bj Aj BL AL He Cj dv Ca sd Cz)) := by
  obtain ⟨C0, hl, hL⟩ := hC9
  have hw := C0.2.2.2.2.1
  have hEV := hEVS es mi sa b L xs
  have hED0 : 0 < n → f_ED cA n ed cO GG := fun h9 => by have h8 := f_LG_ED (M := []) hG h9; rwa [List.append_nil] at h8
  have hCj9 := hcc.1
  have hV := hI
  obtain ⟨⟨htd, hn, hpr, hup, hdn, hdv, hsd, hmo, hsh⟩, ⟨hK, hSt, hEx, hAm, hOv, hovs, hexs, hovn⟩, hQ9, ⟨hHe, hsums, hHz⟩, ⟨hCo, hCz⟩, hCa⟩ := hI
  have hQ := hQ9
  obtain ⟨hBi, hAs, hBj, hAj, hBL, hAL, hQt, hQ0, hQn, hQo⟩ := hQ9
  have hW9 := hJ
  obtain ⟨hn6, htd5, hex5, hSp, hdv9, hBA, hsh9⟩ := hJ
  have hexs1 : ∀ c, c < n → Ex c ≤ (td : Int) + 10 := fun c hc => (hexs c hc).1
  have hHe9 : ∀ j, -999000 ≤ He j ∧ He j ≤ 999000 := fun j => by have := hHe j; omega
  have hHe6 : ∀ j, -1000000 ≤ He j ∧ He j ≤ 1000000 := fun j => by have := hHe j; omega
  have hCa9 : ∀ j, -100000000000000000 ≤ Ca j ∧ Ca j ≤ 100000000000000000 := fun j => by have := hCa j; omega
  have hov5 : ∀ c, c < n → (Ov c = 1 ∧ Ex c < (td : Int)) ∨ (Ov c = 0 ∧ (td : Int) ≤ Ex c ∧ Ex c ≤ (td : Int) + 5) := fun c hc => by have h1 := hovs c hc; have h2 := hex5 c hc; omega
  have hovw : ∀ c, c < n → He (7 * c + 6) = 0 ∨ (Ov c = 1 ∧ Ex c < (td : Int)) ∨ (Ov c = 0 ∧ (td : Int) ≤ Ex c ∧ Ex c ≤ (td : Int) + 5) := fun c hc => Or.inr (hov5 c hc)
  have hov1 := hovs c hcn
  refine jj_iconst C0 dL_law_896 ?_
  refine jj_goto C0 (tgt := 901) dL_law_897 (by decide) ?_
  refine jj_istore C0 (lv' := [(30, .int (iI 1)), (29, .int (iI (1 + x1))), (18, .int (iI (-1))), (17, .int (iI 1)), (16, .int (iI 0)), (14, .long (lI (f_W up dn dv td n K St Ex Am He Ca sh pr))), (13, .int (iI (w9 : Int))), (12, .int (iI (c : Int))), (11, .int (iI u9)), (10, .int (iI v9)), (9, .int (iI (t : Int))), (8, .ref (ka 6)), (7, .ref (ka 5)), (6, .ref (ka 4)), (5, .ref (ka 3)), (4, .ref (ka 2)), (3, .ref (ka 1)), (2, .ref (ka 0)), (1, .ref (ha 0)), (0, .ref b)]) (by decide) rfl dL_law_901 ?_
  refine jj_iload C0 0 rfl dL_law_903 ?_
  refine jj_if_eq C0 (by omega) dL_law_905 (tgt := 919) (by decide) (fun c_1 => absurd c_1 (by omega)) (fun c_1 => ?_)
  refine jj_aload C0 14 rfl dL_law_908 ?_
  refine jj_bipush C0 dL_law_910 (by decide) ?_
  refine jj_iload C0 7 rfl dL_law_912 ?_
  refine jj_iadd C0 dL_law_914 ?_
  refine jj_toLw ?_
  refine jj_iald C0 (q0 := 3) (t0 := 0) (f := (f_lq Bj Aj BL AL)) (rfl) rfl (k := (6 + c)) (by omega) (by omega) (by decide) dL_law_915 ?_
  refine jj_topi (b := (Aj c)) (f_lq_As (by omega)) ?_
  refine jj_goto C0 (tgt := 924) dL_law_916 (by decide) ?_
  refine jj_iload C0 8 rfl dL_law_924 ?_
  refine jj_bipush C0 dL_law_926 (by decide) ?_
  refine jj_ishrX C0 dL_law_928 ?_
  have hR928 := f_sr_R u9 12
  refine jj_iconst C0 dL_law_929 ?_
  refine jj_callSi C0 (cells' := cells) (slots' := slots) (cc_L_low hEV (v := (f_sr u9 12)) (m := 5) (by omega)) (cwS 2 hw (lw_gS hU_167 hU_168 hU_42 hU_169) rfl rfl rfl (by decide +kernel) ⟨Nat.le_of_ble_eq_true rfl, Nat.le_of_ble_eq_true rfl⟩) rfl rfl (Nat.le_of_ble_eq_true rfl) ⟨by show cells + 0 ≤ 600104; omega, by show slots + 0 ≤ 7301314; omega⟩ rfl rfl dL_law_930 ?_
  intro _ hu
  show jj_W _ _ _ _ _ _ _ _ _ _ _ _ _ _ _ _ _ 933 _ [.int (iI (f_lo (f_sr u9 12) 5)), .int (iI (Aj c))] (wL ka cI cJ td pr up dn mo sh co n K St Ex Am Ov Bj Aj BL AL He Cj dv Ca sd Cz ++ (wH ha cA hA nA ed cI cJ cZ td pr up dn dv rw sd mc n mo sh co Ca Cz K St Ex Am Bi As BL AL He Co ++ GG))
  obtain ⟨x2, hx2⟩ : ∃ z : Int, z = (f_lo (f_sr u9 12) 5) := ⟨_, rfl⟩
  have hbx2 : 0 ≤ x2 ∧ x2 < 5 := by rw [hx2]; exact f_lo_bd _ (by omega)
  refine jj_topi (b := x2) (hx2.symm) ?_
  refine jj_iadd C0 dL_law_933 ?_
  refine jj_iconst C0 dL_law_934 ?_
  refine jj_isub C0 dL_law_935 ?_
  obtain ⟨lm0, hlm0⟩ : ∃ z : Int, z = (((Aj c) + x2) - 2) := ⟨_, rfl⟩
  have hba := hBA c
  have hbb := hBj c
  have hbc := hAj c
  have hbd := hBL c
  have hbe := hAL c
  have hbf := hHe9 (7 * c + 6)
  have hbg := hHe9 (7 * c + w9)
  refine jj_topi (b := lm0) (hlm0.symm) ?_
  refine jj_istore C0 (lv' := [(31, .int (iI lm0)), (30, .int (iI 1)), (29, .int (iI (1 + x1))), (18, .int (iI (-1))), (17, .int (iI 1)), (16, .int (iI 0)), (14, .long (lI (f_W up dn dv td n K St Ex Am He Ca sh pr))), (13, .int (iI (w9 : Int))), (12, .int (iI (c : Int))), (11, .int (iI u9)), (10, .int (iI v9)), (9, .int (iI (t : Int))), (8, .ref (ka 6)), (7, .ref (ka 5)), (6, .ref (ka 4)), (5, .ref (ka 3)), (4, .ref (ka 2)), (3, .ref (ka 1)), (2, .ref (ka 0)), (1, .ref (ha 0)), (0, .ref b)]) (by decide) rfl dL_law_936 ?_
  refine jj_join (X := Int) (pcj := 949) (fun q9 => match q9 with | lm => [(31, .int (iI lm0)), (30, .int (iI 1)), (29, .int (iI (1 + x1))), (18, .int (iI (-1))), (17, .int (iI 1)), (16, .int (iI 0)), (14, .long (lI (f_W up dn dv td n K St Ex Am He Ca sh pr))), (13, .int (iI (w9 : Int))), (12, .int (iI (c : Int))), (11, .int (iI u9)), (10, .int (iI v9)), (9, .int (iI (t : Int))), (8, .ref (ka 6)), (7, .ref (ka 5)), (6, .ref (ka 4)), (5, .ref (ka 3)), (4, .ref (ka 2)), (3, .ref (ka 1)), (2, .ref (ka 0)), (1, .ref (ha 0)), (0, .ref b)]) (fun q9 => match q9 with | lm => [.int (iI lm)]) (fun q9 => match q9 with | lm => wL ka cI cJ td pr up dn mo sh co n K St Ex Am Ov Bj Aj BL AL He Cj dv Ca sd Cz ++ (wH ha cA hA nA ed cI cJ cZ td pr up dn dv rw sd mc n mo sh co Ca Cz K St Ex Am Bi As BL AL He Co ++ GG)) (fun q9 => match q9 with | lm => 0 ≤ lm ∧ lm ≤ 20000) ?_ ?_
  · intro q9 hq9
    obtain ⟨lm, rfl⟩ : ∃ z, z = q9 := ⟨_, rfl⟩
    have hlm : 0 ≤ lm ∧ lm ≤ 20000 := hq9
    refine jj_istore C0 (lv' := [(31, .int (iI lm)), (30, .int (iI 1)), (29, .int (iI (1 + x1))), (18, .int (iI (-1))), (17, .int (iI 1)), (16, .int (iI 0)), (14, .long (lI (f_W up dn dv td n K St Ex Am He Ca sh pr))), (13, .int (iI (w9 : Int))), (12, .int (iI (c : Int))), (11, .int (iI u9)), (10, .int (iI v9)), (9, .int (iI (t : Int))), (8, .ref (ka 6)), (7, .ref (ka 5)), (6, .ref (ka 4)), (5, .ref (ka 3)), (4, .ref (ka 2)), (3, .ref (ka 1)), (2, .ref (ka 0)), (1, .ref (ha 0)), (0, .ref b)]) (by decide) rfl dL_law_949 ?_
    refine jj_iload C0 1 rfl dL_law_951 ?_
    refine jj_if_eq C0 (by omega) dL_law_953 (tgt := 974) (by decide) (fun c_2 => absurd c_2 (by omega)) (fun c_2 => ?_)
    refine jj_aload_n C0 17 rfl dL_law_956 ?_
    refine jj_bipush C0 dL_law_957 (by decide) ?_
    refine jj_iload C0 8 rfl dL_law_959 ?_
    refine jj_imul C0 dL_law_961 ?_
    refine jj_bipush C0 dL_law_962 (by decide) ?_
    refine jj_iadd C0 dL_law_964 ?_
    refine jj_iald C0 (q0 := 1) (t0 := 0) (f := (f_lh He)) (rfl) rfl (k := ((10 * c) + 6)) (by omega) (by omega) (by decide) dL_law_965 ?_
    refine jj_topi (b := (He (7 * c + 6))) (f_lh_at (by omega)) ?_
    refine jj_aload C0 14 rfl dL_law_966 ?_
    refine jj_iconst C0 dL_law_968 ?_
    refine jj_iald C0 (q0 := 4) (t0 := 0) (f := (f_lg td pr up dn mo sh co n)) (rfl) rfl (k := 4) (by omega) (by omega) (by decide) dL_law_969 ?_
    refine jj_topi (b := mo) (rfl) ?_
    refine jj_iadd C0 dL_law_970 ?_
    refine jj_goto C0 (tgt := 989) dL_law_971 (by decide) ?_
    refine jj_istore C0 (lv' := [(32, .int (iI ((He (7 * c + 6)) + mo))), (31, .int (iI lm)), (30, .int (iI 1)), (29, .int (iI (1 + x1))), (18, .int (iI (-1))), (17, .int (iI 1)), (16, .int (iI 0)), (14, .long (lI (f_W up dn dv td n K St Ex Am He Ca sh pr))), (13, .int (iI (w9 : Int))), (12, .int (iI (c : Int))), (11, .int (iI u9)), (10, .int (iI v9)), (9, .int (iI (t : Int))), (8, .ref (ka 6)), (7, .ref (ka 5)), (6, .ref (ka 4)), (5, .ref (ka 3)), (4, .ref (ka 2)), (3, .ref (ka 1)), (2, .ref (ka 0)), (1, .ref (ha 0)), (0, .ref b)]) (by decide) rfl dL_law_989 ?_
    refine jj_iload C0 2 rfl dL_law_991 ?_
    refine jj_if_eq C0 (by omega) dL_law_993 (tgt := 1007) (by decide) (fun c_3 => absurd c_3 (by omega)) (fun c_3 => ?_)
    refine jj_aload C0 16 rfl dL_law_996 ?_
    refine jj_bipush C0 dL_law_998 (by decide) ?_
    refine jj_iload C0 9 rfl dL_law_1000 ?_
    refine jj_iadd C0 dL_law_1002 ?_
    refine jj_iald C0 (q0 := 3) (t0 := 0) (f := (f_lq Bj Aj BL AL)) (rfl) rfl (k := (18 + c)) (by omega) (by omega) (by decide) dL_law_1003 ?_
    refine jj_topi (b := (AL c)) (f_lq_AL) ?_
    refine jj_goto C0 (tgt := 1015) dL_law_1004 (by decide) ?_
    refine jj_istore C0 (lv' := [(33, .int (iI (AL c))), (32, .int (iI ((He (7 * c + 6)) + mo))), (31, .int (iI lm)), (30, .int (iI 1)), (29, .int (iI (1 + x1))), (18, .int (iI (-1))), (17, .int (iI 1)), (16, .int (iI 0)), (14, .long (lI (f_W up dn dv td n K St Ex Am He Ca sh pr))), (13, .int (iI (w9 : Int))), (12, .int (iI (c : Int))), (11, .int (iI u9)), (10, .int (iI v9)), (9, .int (iI (t : Int))), (8, .ref (ka 6)), (7, .ref (ka 5)), (6, .ref (ka 4)), (5, .ref (ka 3)), (4, .ref (ka 2)), (3, .ref (ka 1)), (2, .ref (ka 0)), (1, .ref (ha 0)), (0, .ref b)]) (by decide) rfl dL_law_1015 ?_
    refine jj_join (X := Unit) (pcj := 1101) (fun q9 => match q9 with | () => [(33, .int (iI (AL c))), (32, .int (iI ((He (7 * c + 6)) + mo))), (31, .int (iI lm)), (30, .int (iI 1)), (29, .int (iI (1 + x1))), (18, .int (iI (-1))), (17, .int (iI 1)), (16, .int (iI 0)), (14, .long (lI (f_W up dn dv td n K St Ex Am He Ca sh pr))), (13, .int (iI (w9 : Int))), (12, .int (iI (c : Int))), (11, .int (iI u9)), (10, .int (iI v9)), (9, .int (iI (t : Int))), (8, .ref (ka 6)), (7, .ref (ka 5)), (6, .ref (ka 4)), (5, .ref (ka 3)), (4, .ref (ka 2)), (3, .ref (ka 1)), (2, .ref (ka 0)), (1, .ref (ha 0)), (0, .ref b)]) (fun q9 => match q9 with | () => [.int (iI (f_oq (1 + x1) lm (Bi c) (As c) (BL c) (AL c) (He (7 * c + 6)) mo))]) (fun q9 => match q9 with | () => wL ka cI cJ td pr up dn mo sh co n K St Ex Am Ov Bj Aj BL AL He Cj dv Ca sd Cz ++ (wH ha cA hA nA ed cI cJ cZ td pr up dn dv rw sd mc n mo sh co Ca Cz K St Ex Am Bi As BL AL He Co ++ GG)) (fun q9 => match q9 with | () => True) ?_ ?_
    · intro q9 hq9
      obtain ⟨⟩ := q9
      have _ : True := hq9
      refine jj_istore C0 (lv' := [(34, .int (iI (f_oq (1 + x1) lm (Bi c) (As c) (BL c) (AL c) (He (7 * c + 6)) mo))), (33, .int (iI (AL c))), (32, .int (iI ((He (7 * c + 6)) + mo))), (31, .int (iI lm)), (30, .int (iI 1)), (29, .int (iI (1 + x1))), (18, .int (iI (-1))), (17, .int (iI 1)), (16, .int (iI 0)), (14, .long (lI (f_W up dn dv td n K St Ex Am He Ca sh pr))), (13, .int (iI (w9 : Int))), (12, .int (iI (c : Int))), (11, .int (iI u9)), (10, .int (iI v9)), (9, .int (iI (t : Int))), (8, .ref (ka 6)), (7, .ref (ka 5)), (6, .ref (ka 4)), (5, .ref (ka 3)), (4, .ref (ka 2)), (3, .ref (ka 1)), (2, .ref (ka 0)), (1, .ref (ha 0)), (0, .ref b)]) (by decide) rfl dL_law_1101 ?_
      have hx0 : 0 < (1 + x1) := by omega
      have hb9 := f_oq_bd (x := (1 + x1)) (y := lm) (bi := Bi c) (ak := As c) (bl := BL c) (al := AL c) (he := He (7 * c + 6)) (mo := mo) (by omega) (hBL c).1 (hAL c).1
      refine jj_aload_n C0 22 rfl dL_law_1103 ?_
      refine jj_iload C0 10 rfl dL_law_1104 ?_
      refine jj_iload C0 11 rfl dL_law_1106 ?_
      refine jj_iload C0 4 rfl dL_law_1108 ?_
      refine jj_if_eq C0 (by omega) dL_law_1110 (tgt := 1118) (by decide) (fun c_4 => absurd c_4 (by omega)) (fun c_4 => ?_)
      refine jj_iload C0 5 rfl dL_law_1113 ?_
      refine jj_goto C0 (tgt := 1121) dL_law_1115 (by decide) ?_
      refine jj_iload C0 3 rfl dL_law_1121 ?_
      refine jj_toHw ?_
      refine jj_callSWi C0 (cells' := cells) (slots' := slots) (jj_weaki (fun A U H h => h.1.1) (cw_L_order hl (k := w9) (c := c) (x := (1 + x1)) (y := lm) (by omega) (by omega) (by omega) (by omega) (hQ0 c) (by omega) hHe9 hBi hAs hBL hAL hmo hpr hexs1 hn htd hup hdn hdv hK hSt hEx hAm hsh (fun h9 => f_ED_app (hED0 h9)))) (vx_cwSW 5 hw (lw_gW hU_558 hU_559 hU_42 hU_560) rfl rfl rfl (by decide +kernel) ⟨Nat.le_of_ble_eq_true rfl, Nat.le_of_ble_eq_true rfl⟩) rfl rfl (Nat.le_of_ble_eq_true rfl) ⟨by show cells + 0 ≤ 600104; omega, by show slots + 0 ≤ 7301314; omega⟩ rfl rfl dL_law_1123 ?_
      intro r8_5 hu
      show jj_W _ _ _ _ _ _ _ _ _ _ _ _ _ _ _ _ _ 1126 _ [.int (iI (if 0 < (1 + x1) then (f_oq (1 + x1) lm (Bi c) (As c) (BL c) (AL c) (He (7 * c + 6)) mo) else -(f_oq (1 + x1) lm (Bi c) (As c) (BL c) (AL c) (He (7 * c + 6)) mo)))] (wH ha cA hA nA ed cI cJ cZ td pr up dn dv r8_5 sd mc n mo sh co (f_dCa Ca w9 (if 0 < (1 + x1) then As c else Bi c) (f_oq (1 + x1) lm (Bi c) (As c) (BL c) (AL c) (He (7 * c + 6)) mo)) (va_up Cz 0 ((Cz 0) + ((f_W up dn dv td n K St Ex Am (f_dHe He c w9 (f_oq (1 + x1) lm (Bi c) (As c) (BL c) (AL c) (He (7 * c + 6)) mo)) (f_dCa Ca w9 (if 0 < (1 + x1) then As c else Bi c) (f_oq (1 + x1) lm (Bi c) (As c) (BL c) (AL c) (He (7 * c + 6)) mo)) sh pr) - (f_W up dn dv td n K St Ex Am He Ca sh pr)))) K St Ex Am (va_up Bi c (if 0 < (va_up BL c (BL c - (if 0 < (1 + x1) then 0 else -(f_oq (1 + x1) lm (Bi c) (As c) (BL c) (AL c) (He (7 * c + 6)) mo)))) c ∨ 0 < (va_up AL c (AL c - (if 0 < (1 + x1) then (f_oq (1 + x1) lm (Bi c) (As c) (BL c) (AL c) (He (7 * c + 6)) mo) else 0))) c then Bi c else 0)) (va_up As c (if 0 < (va_up BL c (BL c - (if 0 < (1 + x1) then 0 else -(f_oq (1 + x1) lm (Bi c) (As c) (BL c) (AL c) (He (7 * c + 6)) mo)))) c ∨ 0 < (va_up AL c (AL c - (if 0 < (1 + x1) then (f_oq (1 + x1) lm (Bi c) (As c) (BL c) (AL c) (He (7 * c + 6)) mo) else 0))) c then As c else 0)) (va_up BL c (BL c - (if 0 < (1 + x1) then 0 else -(f_oq (1 + x1) lm (Bi c) (As c) (BL c) (AL c) (He (7 * c + 6)) mo)))) (va_up AL c (AL c - (if 0 < (1 + x1) then (f_oq (1 + x1) lm (Bi c) (As c) (BL c) (AL c) (He (7 * c + 6)) mo) else 0))) (f_dHe He c w9 (f_oq (1 + x1) lm (Bi c) (As c) (BL c) (AL c) (He (7 * c + 6)) mo)) Co ++ (GG ++ wL ka cI cJ td pr up dn mo sh co n K St Ex Am Ov Bj Aj BL AL He Cj dv Ca sd Cz))
      refine jj_iload C0 8 rfl dL_law_1126 ?_
      refine jj_if_eq C0 (by omega) dL_law_1128 (tgt := 1136) (by decide) (fun c_6 => ?_) (fun c_6 => absurd c_6 (by omega))
      refine jj_iload C0 0 rfl dL_law_1136 ?_
      refine jj_topi (b := (if 0 < (1 + x1) then (f_oq (1 + x1) lm (Bi c) (As c) (BL c) (AL c) (He (7 * c + 6)) mo) else -(f_oq (1 + x1) lm (Bi c) (As c) (BL c) (AL c) (He (7 * c + 6)) mo))) ((by rw [if_pos hx0])) ?_
      refine jj_icmpN C0 dL_law_1138 (tgt := 1145) (by decide) ?_
      refine jj_iconst C0 dL_law_1141 ?_
      refine jj_goto C0 (tgt := 1146) dL_law_1142 (by decide) ?_
      refine jj_istore C0 (lv' := [(17, .int (iI 1)), (34, .int (iI (f_oq (1 + x1) lm (Bi c) (As c) (BL c) (AL c) (He (7 * c + 6)) mo))), (33, .int (iI (AL c))), (32, .int (iI ((He (7 * c + 6)) + mo))), (31, .int (iI lm)), (30, .int (iI 1)), (29, .int (iI (1 + x1))), (18, .int (iI (-1))), (16, .int (iI 0)), (14, .long (lI (f_W up dn dv td n K St Ex Am He Ca sh pr))), (13, .int (iI (w9 : Int))), (12, .int (iI (c : Int))), (11, .int (iI u9)), (10, .int (iI v9)), (9, .int (iI (t : Int))), (8, .ref (ka 6)), (7, .ref (ka 5)), (6, .ref (ka 4)), (5, .ref (ka 3)), (4, .ref (ka 2)), (3, .ref (ka 1)), (2, .ref (ka 0)), (1, .ref (ha 0)), (0, .ref b)]) (by decide) rfl dL_law_1146 ?_
      refine jj_iload C0 8 rfl dL_law_1148 ?_
      refine jj_if_eq C0 (by omega) dL_law_1150 (tgt := 1156) (by decide) (fun c_7 => ?_) (fun c_7 => absurd c_7 (by omega))
      refine jj_aload C0 18 rfl dL_law_1156 ?_
      refine jj_iload C0 5 rfl dL_law_1158 ?_
      refine jj_if_eq C0 (by omega) dL_law_1160 (tgt := 1168) (by decide) (fun c_8 => absurd c_8 (by omega)) (fun c_8 => ?_)
      refine jj_bipush C0 dL_law_1163 (by decide) ?_
      refine jj_goto C0 (tgt := 1170) dL_law_1165 (by decide) ?_
      refine jj_iload C0 11 rfl dL_law_1170 ?_
      refine jj_iadd C0 dL_law_1172 ?_
      refine jj_dup2_11 C0 dL_law_1173 rfl rfl ?_
      refine jj_toLw ?_
      refine jj_iald C0 (q0 := 3) (t0 := 0) (f := (f_lq Bj Aj BL AL)) (rfl) rfl (k := (18 + c)) (by omega) (by omega) (by decide) dL_law_1174 ?_
      refine jj_topi (b := (AL c)) (f_lq_AL) ?_
      refine jj_iload C0 1 rfl dL_law_1175 ?_
      refine jj_isub C0 dL_law_1177 ?_
      refine jj_iast C0 (q0 := 3) (t0 := 0) (f := (f_lq Bj Aj BL AL)) (rfl) rfl (k := (18 + c)) (by omega) (by omega) (by decide) (ws' := wL ka cI cJ td pr up dn mo sh co n K St Ex Am Ov Bj Aj BL (va_up AL c ((AL c) - (f_oq (1 + x1) lm (Bi c) (As c) (BL c) (AL c) (He (7 * c + 6)) mo))) He Cj dv Ca sd Cz ++ (wH ha cA hA nA ed cI cJ cZ td pr up dn dv r8_5 sd mc n mo sh co (f_dCa Ca w9 (if 0 < (1 + x1) then As c else Bi c) (f_oq (1 + x1) lm (Bi c) (As c) (BL c) (AL c) (He (7 * c + 6)) mo)) (va_up Cz 0 ((Cz 0) + ((f_W up dn dv td n K St Ex Am (f_dHe He c w9 (f_oq (1 + x1) lm (Bi c) (As c) (BL c) (AL c) (He (7 * c + 6)) mo)) (f_dCa Ca w9 (if 0 < (1 + x1) then As c else Bi c) (f_oq (1 + x1) lm (Bi c) (As c) (BL c) (AL c) (He (7 * c + 6)) mo)) sh pr) - (f_W up dn dv td n K St Ex Am He Ca sh pr)))) K St Ex Am (va_up Bi c (if 0 < (va_up BL c (BL c - (if 0 < (1 + x1) then 0 else -(f_oq (1 + x1) lm (Bi c) (As c) (BL c) (AL c) (He (7 * c + 6)) mo)))) c ∨ 0 < (va_up AL c (AL c - (if 0 < (1 + x1) then (f_oq (1 + x1) lm (Bi c) (As c) (BL c) (AL c) (He (7 * c + 6)) mo) else 0))) c then Bi c else 0)) (va_up As c (if 0 < (va_up BL c (BL c - (if 0 < (1 + x1) then 0 else -(f_oq (1 + x1) lm (Bi c) (As c) (BL c) (AL c) (He (7 * c + 6)) mo)))) c ∨ 0 < (va_up AL c (AL c - (if 0 < (1 + x1) then (f_oq (1 + x1) lm (Bi c) (As c) (BL c) (AL c) (He (7 * c + 6)) mo) else 0))) c then As c else 0)) (va_up BL c (BL c - (if 0 < (1 + x1) then 0 else -(f_oq (1 + x1) lm (Bi c) (As c) (BL c) (AL c) (He (7 * c + 6)) mo)))) (va_up AL c (AL c - (if 0 < (1 + x1) then (f_oq (1 + x1) lm (Bi c) (As c) (BL c) (AL c) (He (7 * c + 6)) mo) else 0))) (f_dHe He c w9 (f_oq (1 + x1) lm (Bi c) (As c) (BL c) (AL c) (He (7 * c + 6)) mo)) Co ++ GG)) (wL_AL) dL_law_1178 ?_
      refine jj_iload C0 5 rfl dL_law_1179 ?_
      refine jj_if_eq C0 (by omega) dL_law_1181 (tgt := 1188) (by decide) (fun c_9 => absurd c_9 (by omega)) (fun c_9 => ?_)
      refine jj_iconst C0 dL_law_1184 ?_
      refine jj_goto C0 (tgt := 1189) dL_law_1185 (by decide) ?_
      refine jj_istore C0 (lv' := [(35, .int (iI 1)), (17, .int (iI 1)), (34, .int (iI (f_oq (1 + x1) lm (Bi c) (As c) (BL c) (AL c) (He (7 * c + 6)) mo))), (33, .int (iI (AL c))), (32, .int (iI ((He (7 * c + 6)) + mo))), (31, .int (iI lm)), (30, .int (iI 1)), (29, .int (iI (1 + x1))), (18, .int (iI (-1))), (16, .int (iI 0)), (14, .long (lI (f_W up dn dv td n K St Ex Am He Ca sh pr))), (13, .int (iI (w9 : Int))), (12, .int (iI (c : Int))), (11, .int (iI u9)), (10, .int (iI v9)), (9, .int (iI (t : Int))), (8, .ref (ka 6)), (7, .ref (ka 5)), (6, .ref (ka 4)), (5, .ref (ka 3)), (4, .ref (ka 2)), (3, .ref (ka 1)), (2, .ref (ka 0)), (1, .ref (ha 0)), (0, .ref b)]) (by decide) rfl dL_law_1189 ?_
      refine jj_aload_n C0 21 rfl dL_law_1191 ?_
      refine jj_bipush C0 dL_law_1192 (by decide) ?_
      refine jj_iload C0 12 rfl dL_law_1194 ?_
      refine jj_imul C0 dL_law_1196 ?_
      refine jj_iload C0 11 rfl dL_law_1197 ?_
      refine jj_iadd C0 dL_law_1199 ?_
      refine jj_dup2_11 C0 dL_law_1200 rfl rfl ?_
      refine jj_iald C0 (q0 := 1) (t0 := 0) (f := (f_lh He)) (rfl) rfl (k := ((10 * c) + w9)) (by omega) (by omega) (by decide) dL_law_1201 ?_
      refine jj_topi (b := (He (7 * c + w9))) (f_lh_at (by omega)) ?_
      refine jj_iload C0 0 rfl dL_law_1202 ?_
      refine jj_iload C0 2 rfl dL_law_1204 ?_
      refine jj_imul C0 dL_law_1206 ?_
      refine jj_iadd C0 dL_law_1207 ?_
      refine jj_topi (b := (He (7 * c + w9) + (f_oq (1 + x1) lm (Bi c) (As c) (BL c) (AL c) (He (7 * c + 6)) mo))) (by omega) ?_
      refine jj_iast C0 (q0 := 1) (t0 := 0) (f := (f_lh He)) (rfl) rfl (k := ((10 * c) + w9)) (by omega) (by omega) (by decide) (ws' := wL ka cI cJ td pr up dn mo sh co n K St Ex Am Ov Bj Aj BL (va_up AL c ((AL c) - (f_oq (1 + x1) lm (Bi c) (As c) (BL c) (AL c) (He (7 * c + 6)) mo))) (va_up He (7 * c + w9) (He (7 * c + w9) + (f_oq (1 + x1) lm (Bi c) (As c) (BL c) (AL c) (He (7 * c + 6)) mo))) Cj dv Ca sd Cz ++ (wH ha cA hA nA ed cI cJ cZ td pr up dn dv r8_5 sd mc n mo sh co (f_dCa Ca w9 (if 0 < (1 + x1) then As c else Bi c) (f_oq (1 + x1) lm (Bi c) (As c) (BL c) (AL c) (He (7 * c + 6)) mo)) (va_up Cz 0 ((Cz 0) + ((f_W up dn dv td n K St Ex Am (f_dHe He c w9 (f_oq (1 + x1) lm (Bi c) (As c) (BL c) (AL c) (He (7 * c + 6)) mo)) (f_dCa Ca w9 (if 0 < (1 + x1) then As c else Bi c) (f_oq (1 + x1) lm (Bi c) (As c) (BL c) (AL c) (He (7 * c + 6)) mo)) sh pr) - (f_W up dn dv td n K St Ex Am He Ca sh pr)))) K St Ex Am (va_up Bi c (if 0 < (va_up BL c (BL c - (if 0 < (1 + x1) then 0 else -(f_oq (1 + x1) lm (Bi c) (As c) (BL c) (AL c) (He (7 * c + 6)) mo)))) c ∨ 0 < (va_up AL c (AL c - (if 0 < (1 + x1) then (f_oq (1 + x1) lm (Bi c) (As c) (BL c) (AL c) (He (7 * c + 6)) mo) else 0))) c then Bi c else 0)) (va_up As c (if 0 < (va_up BL c (BL c - (if 0 < (1 + x1) then 0 else -(f_oq (1 + x1) lm (Bi c) (As c) (BL c) (AL c) (He (7 * c + 6)) mo)))) c ∨ 0 < (va_up AL c (AL c - (if 0 < (1 + x1) then (f_oq (1 + x1) lm (Bi c) (As c) (BL c) (AL c) (He (7 * c + 6)) mo) else 0))) c then As c else 0)) (va_up BL c (BL c - (if 0 < (1 + x1) then 0 else -(f_oq (1 + x1) lm (Bi c) (As c) (BL c) (AL c) (He (7 * c + 6)) mo)))) (va_up AL c (AL c - (if 0 < (1 + x1) then (f_oq (1 + x1) lm (Bi c) (As c) (BL c) (AL c) (He (7 * c + 6)) mo) else 0))) (f_dHe He c w9 (f_oq (1 + x1) lm (Bi c) (As c) (BL c) (AL c) (He (7 * c + 6)) mo)) Co ++ GG)) (wL_He (by omega)) dL_law_1208 ?_
      refine jj_aload_n C0 21 rfl dL_law_1209 ?_
      refine jj_bipush C0 dL_law_1210 (by decide) ?_
      refine jj_iload C0 12 rfl dL_law_1212 ?_
      refine jj_imul C0 dL_law_1214 ?_
      refine jj_bipush C0 dL_law_1215 (by decide) ?_
      refine jj_iadd C0 dL_law_1217 ?_
      refine jj_dup2_11 C0 dL_law_1218 rfl rfl ?_
      refine jj_iald C0 (q0 := 1) (t0 := 0) (f := (f_lh (va_up He (7 * c + w9) (He (7 * c + w9) + (f_oq (1 + x1) lm (Bi c) (As c) (BL c) (AL c) (He (7 * c + 6)) mo))))) (rfl) rfl (k := ((10 * c) + 6)) (by omega) (by omega) (by decide) dL_law_1219 ?_
      refine jj_topi (b := ((va_up He (7 * c + w9) (He (7 * c + w9) + (f_oq (1 + x1) lm (Bi c) (As c) (BL c) (AL c) (He (7 * c + 6)) mo))) (7 * c + 6))) (f_lh_at (by omega)) ?_
      refine jj_iload C0 0 rfl dL_law_1220 ?_
      refine jj_iload C0 2 rfl dL_law_1222 ?_
      refine jj_imul C0 dL_law_1224 ?_
      refine jj_isub C0 dL_law_1225 ?_
      refine jj_topi (b := ((va_up He (7 * c + w9) (He (7 * c + w9) + (f_oq (1 + x1) lm (Bi c) (As c) (BL c) (AL c) (He (7 * c + 6)) mo))) (7 * c + 6) - (f_oq (1 + x1) lm (Bi c) (As c) (BL c) (AL c) (He (7 * c + 6)) mo))) (by omega) ?_
      refine jj_iast C0 (q0 := 1) (t0 := 0) (f := (f_lh (va_up He (7 * c + w9) (He (7 * c + w9) + (f_oq (1 + x1) lm (Bi c) (As c) (BL c) (AL c) (He (7 * c + 6)) mo))))) (rfl) rfl (k := ((10 * c) + 6)) (by omega) (by omega) (by decide) (ws' := wL ka cI cJ td pr up dn mo sh co n K St Ex Am Ov Bj Aj BL (va_up AL c ((AL c) - (f_oq (1 + x1) lm (Bi c) (As c) (BL c) (AL c) (He (7 * c + 6)) mo))) (va_up (va_up He (7 * c + w9) (He (7 * c + w9) + (f_oq (1 + x1) lm (Bi c) (As c) (BL c) (AL c) (He (7 * c + 6)) mo))) (7 * c + 6) ((va_up He (7 * c + w9) (He (7 * c + w9) + (f_oq (1 + x1) lm (Bi c) (As c) (BL c) (AL c) (He (7 * c + 6)) mo))) (7 * c + 6) - (f_oq (1 + x1) lm (Bi c) (As c) (BL c) (AL c) (He (7 * c + 6)) mo))) Cj dv Ca sd Cz ++ (wH ha cA hA nA ed cI cJ cZ td pr up dn dv r8_5 sd mc n mo sh co (f_dCa Ca w9 (if 0 < (1 + x1) then As c else Bi c) (f_oq (1 + x1) lm (Bi c) (As c) (BL c) (AL c) (He (7 * c + 6)) mo)) (va_up Cz 0 ((Cz 0) + ((f_W up dn dv td n K St Ex Am (f_dHe He c w9 (f_oq (1 + x1) lm (Bi c) (As c) (BL c) (AL c) (He (7 * c + 6)) mo)) (f_dCa Ca w9 (if 0 < (1 + x1) then As c else Bi c) (f_oq (1 + x1) lm (Bi c) (As c) (BL c) (AL c) (He (7 * c + 6)) mo)) sh pr) - (f_W up dn dv td n K St Ex Am He Ca sh pr)))) K St Ex Am (va_up Bi c (if 0 < (va_up BL c (BL c - (if 0 < (1 + x1) then 0 else -(f_oq (1 + x1) lm (Bi c) (As c) (BL c) (AL c) (He (7 * c + 6)) mo)))) c ∨ 0 < (va_up AL c (AL c - (if 0 < (1 + x1) then (f_oq (1 + x1) lm (Bi c) (As c) (BL c) (AL c) (He (7 * c + 6)) mo) else 0))) c then Bi c else 0)) (va_up As c (if 0 < (va_up BL c (BL c - (if 0 < (1 + x1) then 0 else -(f_oq (1 + x1) lm (Bi c) (As c) (BL c) (AL c) (He (7 * c + 6)) mo)))) c ∨ 0 < (va_up AL c (AL c - (if 0 < (1 + x1) then (f_oq (1 + x1) lm (Bi c) (As c) (BL c) (AL c) (He (7 * c + 6)) mo) else 0))) c then As c else 0)) (va_up BL c (BL c - (if 0 < (1 + x1) then 0 else -(f_oq (1 + x1) lm (Bi c) (As c) (BL c) (AL c) (He (7 * c + 6)) mo)))) (va_up AL c (AL c - (if 0 < (1 + x1) then (f_oq (1 + x1) lm (Bi c) (As c) (BL c) (AL c) (He (7 * c + 6)) mo) else 0))) (f_dHe He c w9 (f_oq (1 + x1) lm (Bi c) (As c) (BL c) (AL c) (He (7 * c + 6)) mo)) Co ++ GG)) (wL_He (by omega)) dL_law_1226 ?_
      refine jj_aload C0 16 rfl dL_law_1227 ?_
      refine jj_iload C0 11 rfl dL_law_1229 ?_
      refine jj_dup2_11 C0 dL_law_1231 rfl rfl ?_
      refine jj_lald C0 (q0 := 6) (t0 := 1) (f := (f_lm Ca sd Cz)) (rfl) rfl (k := w9) (by omega) (by omega) (by decide) dL_law_1232 ?_
      refine jj_topl (b := (Ca w9)) (f_lm_Ca (by omega)) ?_
      refine jj_ldc2 C0 (z := 1000) (by decide) (hw _ hU_712) dL_law_1233 ?_
      refine jj_iload C0 0 rfl dL_law_1236 ?_
      refine jj_i2l C0 (by omega) dL_law_1238 ?_
      refine jj_lmul C0 dL_law_1239 ?_
      refine jj_iload C0 2 rfl dL_law_1240 ?_
      refine jj_i2l C0 (by omega) dL_law_1242 ?_
      refine jj_lmul C0 dL_law_1243 ?_
      refine jj_iload C0 6 rfl dL_law_1244 ?_
      refine jj_if_eq C0 (by omega) dL_law_1246 (tgt := 1260) (by decide) (fun c_10 => absurd c_10 (by omega)) (fun c_10 => ?_)
      refine jj_aload C0 19 rfl dL_law_1249 ?_
      refine jj_bipush C0 dL_law_1251 (by decide) ?_
      refine jj_iload C0 12 rfl dL_law_1253 ?_
      refine jj_iadd C0 dL_law_1255 ?_
      refine jj_iald C0 (q0 := 3) (t0 := 0) (f := (f_lq Bj Aj BL (va_up AL c ((AL c) - (f_oq (1 + x1) lm (Bi c) (As c) (BL c) (AL c) (He (7 * c + 6)) mo))))) (rfl) rfl (k := (6 + c)) (by omega) (by omega) (by decide) dL_law_1256 ?_
      refine jj_topi (b := (Aj c)) (f_lq_As (by omega)) ?_
      refine jj_goto C0 (tgt := 1265) dL_law_1257 (by decide) ?_
      refine jj_i2l C0 (by omega) dL_law_1265 ?_
      refine jj_lmul C0 dL_law_1266 ?_
      refine jj_lsub C0 dL_law_1267 ?_
      refine jj_topl (b := (Ca w9 - 1000 * (Aj c) * (f_oq (1 + x1) lm (Bi c) (As c) (BL c) (AL c) (He (7 * c + 6)) mo))) (by rw [f_m4 (q := (f_oq (1 + x1) lm (Bi c) (As c) (BL c) (AL c) (He (7 * c + 6)) mo)) (by omega)]) ?_
      refine jj_last C0 (q0 := 6) (t0 := 1) (f := (f_lm Ca sd Cz)) (rfl) rfl (k := w9) (by omega) (by omega) (by decide) (ws' := wL ka cI cJ td pr up dn mo sh co n K St Ex Am Ov Bj Aj BL (va_up AL c ((AL c) - (f_oq (1 + x1) lm (Bi c) (As c) (BL c) (AL c) (He (7 * c + 6)) mo))) (va_up (va_up He (7 * c + w9) (He (7 * c + w9) + (f_oq (1 + x1) lm (Bi c) (As c) (BL c) (AL c) (He (7 * c + 6)) mo))) (7 * c + 6) ((va_up He (7 * c + w9) (He (7 * c + w9) + (f_oq (1 + x1) lm (Bi c) (As c) (BL c) (AL c) (He (7 * c + 6)) mo))) (7 * c + 6) - (f_oq (1 + x1) lm (Bi c) (As c) (BL c) (AL c) (He (7 * c + 6)) mo))) Cj dv (va_up Ca w9 (Ca w9 - 1000 * (Aj c) * (f_oq (1 + x1) lm (Bi c) (As c) (BL c) (AL c) (He (7 * c + 6)) mo))) sd Cz ++ (wH ha cA hA nA ed cI cJ cZ td pr up dn dv r8_5 sd mc n mo sh co (f_dCa Ca w9 (if 0 < (1 + x1) then As c else Bi c) (f_oq (1 + x1) lm (Bi c) (As c) (BL c) (AL c) (He (7 * c + 6)) mo)) (va_up Cz 0 ((Cz 0) + ((f_W up dn dv td n K St Ex Am (f_dHe He c w9 (f_oq (1 + x1) lm (Bi c) (As c) (BL c) (AL c) (He (7 * c + 6)) mo)) (f_dCa Ca w9 (if 0 < (1 + x1) then As c else Bi c) (f_oq (1 + x1) lm (Bi c) (As c) (BL c) (AL c) (He (7 * c + 6)) mo)) sh pr) - (f_W up dn dv td n K St Ex Am He Ca sh pr)))) K St Ex Am (va_up Bi c (if 0 < (va_up BL c (BL c - (if 0 < (1 + x1) then 0 else -(f_oq (1 + x1) lm (Bi c) (As c) (BL c) (AL c) (He (7 * c + 6)) mo)))) c ∨ 0 < (va_up AL c (AL c - (if 0 < (1 + x1) then (f_oq (1 + x1) lm (Bi c) (As c) (BL c) (AL c) (He (7 * c + 6)) mo) else 0))) c then Bi c else 0)) (va_up As c (if 0 < (va_up BL c (BL c - (if 0 < (1 + x1) then 0 else -(f_oq (1 + x1) lm (Bi c) (As c) (BL c) (AL c) (He (7 * c + 6)) mo)))) c ∨ 0 < (va_up AL c (AL c - (if 0 < (1 + x1) then (f_oq (1 + x1) lm (Bi c) (As c) (BL c) (AL c) (He (7 * c + 6)) mo) else 0))) c then As c else 0)) (va_up BL c (BL c - (if 0 < (1 + x1) then 0 else -(f_oq (1 + x1) lm (Bi c) (As c) (BL c) (AL c) (He (7 * c + 6)) mo)))) (va_up AL c (AL c - (if 0 < (1 + x1) then (f_oq (1 + x1) lm (Bi c) (As c) (BL c) (AL c) (He (7 * c + 6)) mo) else 0))) (f_dHe He c w9 (f_oq (1 + x1) lm (Bi c) (As c) (BL c) (AL c) (He (7 * c + 6)) mo)) Co ++ GG)) (wL_Ca (by omega)) dL_law_1268 ?_
      refine jj_aload C0 16 rfl dL_law_1269 ?_
      refine jj_bipush C0 dL_law_1271 (by decide) ?_
      refine jj_dup2_11 C0 dL_law_1273 rfl rfl ?_
      refine jj_lald C0 (q0 := 6) (t0 := 1) (f := (f_lm (va_up Ca w9 (Ca w9 - 1000 * (Aj c) * (f_oq (1 + x1) lm (Bi c) (As c) (BL c) (AL c) (He (7 * c + 6)) mo))) sd Cz)) (rfl) rfl (k := 6) (by omega) (by omega) (by decide) dL_law_1274 ?_
      refine jj_topl (b := ((va_up Ca w9 (Ca w9 - 1000 * (Aj c) * (f_oq (1 + x1) lm (Bi c) (As c) (BL c) (AL c) (He (7 * c + 6)) mo))) 6)) (f_lm_Ca (by omega)) ?_
      refine jj_ldc2 C0 (z := 1000) (by decide) (hw _ hU_712) dL_law_1275 ?_
      refine jj_iload C0 0 rfl dL_law_1278 ?_
      refine jj_i2l C0 (by omega) dL_law_1280 ?_
      refine jj_lmul C0 dL_law_1281 ?_
      refine jj_iload C0 2 rfl dL_law_1282 ?_
      refine jj_i2l C0 (by omega) dL_law_1284 ?_
      refine jj_lmul C0 dL_law_1285 ?_
      refine jj_iload C0 6 rfl dL_law_1286 ?_
      refine jj_if_eq C0 (by omega) dL_law_1288 (tgt := 1302) (by decide) (fun c_11 => absurd c_11 (by omega)) (fun c_11 => ?_)
      refine jj_aload C0 19 rfl dL_law_1291 ?_
      refine jj_bipush C0 dL_law_1293 (by decide) ?_
      refine jj_iload C0 12 rfl dL_law_1295 ?_
      refine jj_iadd C0 dL_law_1297 ?_
      refine jj_iald C0 (q0 := 3) (t0 := 0) (f := (f_lq Bj Aj BL (va_up AL c ((AL c) - (f_oq (1 + x1) lm (Bi c) (As c) (BL c) (AL c) (He (7 * c + 6)) mo))))) (rfl) rfl (k := (6 + c)) (by omega) (by omega) (by decide) dL_law_1298 ?_
      refine jj_topi (b := (Aj c)) (f_lq_As (by omega)) ?_
      refine jj_goto C0 (tgt := 1307) dL_law_1299 (by decide) ?_
      refine jj_i2l C0 (by omega) dL_law_1307 ?_
      refine jj_lmul C0 dL_law_1308 ?_
      refine jj_ladd C0 dL_law_1309 ?_
      refine jj_topl (b := ((va_up Ca w9 (Ca w9 - 1000 * (Aj c) * (f_oq (1 + x1) lm (Bi c) (As c) (BL c) (AL c) (He (7 * c + 6)) mo))) 6 + 1000 * (Aj c) * (f_oq (1 + x1) lm (Bi c) (As c) (BL c) (AL c) (He (7 * c + 6)) mo))) (by rw [f_m4 (q := (f_oq (1 + x1) lm (Bi c) (As c) (BL c) (AL c) (He (7 * c + 6)) mo)) (by omega)]) ?_
      refine jj_last C0 (q0 := 6) (t0 := 1) (f := (f_lm (va_up Ca w9 (Ca w9 - 1000 * (Aj c) * (f_oq (1 + x1) lm (Bi c) (As c) (BL c) (AL c) (He (7 * c + 6)) mo))) sd Cz)) (rfl) rfl (k := 6) (by omega) (by omega) (by decide) (ws' := wL ka cI cJ td pr up dn mo sh co n K St Ex Am Ov Bj Aj BL (va_up AL c ((AL c) - (f_oq (1 + x1) lm (Bi c) (As c) (BL c) (AL c) (He (7 * c + 6)) mo))) (va_up (va_up He (7 * c + w9) (He (7 * c + w9) + (f_oq (1 + x1) lm (Bi c) (As c) (BL c) (AL c) (He (7 * c + 6)) mo))) (7 * c + 6) ((va_up He (7 * c + w9) (He (7 * c + w9) + (f_oq (1 + x1) lm (Bi c) (As c) (BL c) (AL c) (He (7 * c + 6)) mo))) (7 * c + 6) - (f_oq (1 + x1) lm (Bi c) (As c) (BL c) (AL c) (He (7 * c + 6)) mo))) Cj dv (va_up (va_up Ca w9 (Ca w9 - 1000 * (Aj c) * (f_oq (1 + x1) lm (Bi c) (As c) (BL c) (AL c) (He (7 * c + 6)) mo))) 6 ((va_up Ca w9 (Ca w9 - 1000 * (Aj c) * (f_oq (1 + x1) lm (Bi c) (As c) (BL c) (AL c) (He (7 * c + 6)) mo))) 6 + 1000 * (Aj c) * (f_oq (1 + x1) lm (Bi c) (As c) (BL c) (AL c) (He (7 * c + 6)) mo))) sd Cz ++ (wH ha cA hA nA ed cI cJ cZ td pr up dn dv r8_5 sd mc n mo sh co (f_dCa Ca w9 (if 0 < (1 + x1) then As c else Bi c) (f_oq (1 + x1) lm (Bi c) (As c) (BL c) (AL c) (He (7 * c + 6)) mo)) (va_up Cz 0 ((Cz 0) + ((f_W up dn dv td n K St Ex Am (f_dHe He c w9 (f_oq (1 + x1) lm (Bi c) (As c) (BL c) (AL c) (He (7 * c + 6)) mo)) (f_dCa Ca w9 (if 0 < (1 + x1) then As c else Bi c) (f_oq (1 + x1) lm (Bi c) (As c) (BL c) (AL c) (He (7 * c + 6)) mo)) sh pr) - (f_W up dn dv td n K St Ex Am He Ca sh pr)))) K St Ex Am (va_up Bi c (if 0 < (va_up BL c (BL c - (if 0 < (1 + x1) then 0 else -(f_oq (1 + x1) lm (Bi c) (As c) (BL c) (AL c) (He (7 * c + 6)) mo)))) c ∨ 0 < (va_up AL c (AL c - (if 0 < (1 + x1) then (f_oq (1 + x1) lm (Bi c) (As c) (BL c) (AL c) (He (7 * c + 6)) mo) else 0))) c then Bi c else 0)) (va_up As c (if 0 < (va_up BL c (BL c - (if 0 < (1 + x1) then 0 else -(f_oq (1 + x1) lm (Bi c) (As c) (BL c) (AL c) (He (7 * c + 6)) mo)))) c ∨ 0 < (va_up AL c (AL c - (if 0 < (1 + x1) then (f_oq (1 + x1) lm (Bi c) (As c) (BL c) (AL c) (He (7 * c + 6)) mo) else 0))) c then As c else 0)) (va_up BL c (BL c - (if 0 < (1 + x1) then 0 else -(f_oq (1 + x1) lm (Bi c) (As c) (BL c) (AL c) (He (7 * c + 6)) mo)))) (va_up AL c (AL c - (if 0 < (1 + x1) then (f_oq (1 + x1) lm (Bi c) (As c) (BL c) (AL c) (He (7 * c + 6)) mo) else 0))) (f_dHe He c w9 (f_oq (1 + x1) lm (Bi c) (As c) (BL c) (AL c) (He (7 * c + 6)) mo)) Co ++ GG)) (wL_Ca (by omega)) dL_law_1310 ?_
      refine jj_ws (ws' := wL ka cI cJ td pr up dn mo sh co n K St Ex Am Ov Bj Aj (va_up BL c (BL c - (if 0 < (1 + x1) then 0 else -(f_oq (1 + x1) lm (Bi c) (As c) (BL c) (AL c) (He (7 * c + 6)) mo)))) (va_up AL c (AL c - (if 0 < (1 + x1) then (f_oq (1 + x1) lm (Bi c) (As c) (BL c) (AL c) (He (7 * c + 6)) mo) else 0))) (f_dHe He c w9 (f_oq (1 + x1) lm (Bi c) (As c) (BL c) (AL c) (He (7 * c + 6)) mo)) Cj dv (f_dCa Ca w9 (if 0 < (1 + x1) then As c else Bi c) (f_oq (1 + x1) lm (Bi c) (As c) (BL c) (AL c) (He (7 * c + 6)) mo)) sd Cz ++ (wH ha cA hA nA ed cI cJ cZ td pr up dn dv r8_5 sd mc n mo sh co (f_dCa Ca w9 (if 0 < (1 + x1) then As c else Bi c) (f_oq (1 + x1) lm (Bi c) (As c) (BL c) (AL c) (He (7 * c + 6)) mo)) (va_up Cz 0 ((Cz 0) + ((f_W up dn dv td n K St Ex Am (f_dHe He c w9 (f_oq (1 + x1) lm (Bi c) (As c) (BL c) (AL c) (He (7 * c + 6)) mo)) (f_dCa Ca w9 (if 0 < (1 + x1) then As c else Bi c) (f_oq (1 + x1) lm (Bi c) (As c) (BL c) (AL c) (He (7 * c + 6)) mo)) sh pr) - (f_W up dn dv td n K St Ex Am He Ca sh pr)))) K St Ex Am (va_up Bi c (if 0 < (va_up BL c (BL c - (if 0 < (1 + x1) then 0 else -(f_oq (1 + x1) lm (Bi c) (As c) (BL c) (AL c) (He (7 * c + 6)) mo)))) c ∨ 0 < (va_up AL c (AL c - (if 0 < (1 + x1) then (f_oq (1 + x1) lm (Bi c) (As c) (BL c) (AL c) (He (7 * c + 6)) mo) else 0))) c then Bi c else 0)) (va_up As c (if 0 < (va_up BL c (BL c - (if 0 < (1 + x1) then 0 else -(f_oq (1 + x1) lm (Bi c) (As c) (BL c) (AL c) (He (7 * c + 6)) mo)))) c ∨ 0 < (va_up AL c (AL c - (if 0 < (1 + x1) then (f_oq (1 + x1) lm (Bi c) (As c) (BL c) (AL c) (He (7 * c + 6)) mo) else 0))) c then As c else 0)) (va_up BL c (BL c - (if 0 < (1 + x1) then 0 else -(f_oq (1 + x1) lm (Bi c) (As c) (BL c) (AL c) (He (7 * c + 6)) mo)))) (va_up AL c (AL c - (if 0 < (1 + x1) then (f_oq (1 + x1) lm (Bi c) (As c) (BL c) (AL c) (He (7 * c + 6)) mo) else 0))) (f_dHe He c w9 (f_oq (1 + x1) lm (Bi c) (As c) (BL c) (AL c) (He (7 * c + 6)) mo)) Co ++ GG)) (by rw [← f_tie_dCa (by omega) hQ]; simp only [if_pos hx0, Int.sub_zero, up_id]; rfl) ?_
      refine jj_iconst C0 dL_law_1311 ?_
      refine jj_istore C0 (lv' := [(18, .int (iI 0)), (35, .int (iI 1)), (17, .int (iI 1)), (34, .int (iI (f_oq (1 + x1) lm (Bi c) (As c) (BL c) (AL c) (He (7 * c + 6)) mo))), (33, .int (iI (AL c))), (32, .int (iI ((He (7 * c + 6)) + mo))), (31, .int (iI lm)), (30, .int (iI 1)), (29, .int (iI (1 + x1))), (16, .int (iI 0)), (14, .long (lI (f_W up dn dv td n K St Ex Am He Ca sh pr))), (13, .int (iI (w9 : Int))), (12, .int (iI (c : Int))), (11, .int (iI u9)), (10, .int (iI v9)), (9, .int (iI (t : Int))), (8, .ref (ka 6)), (7, .ref (ka 5)), (6, .ref (ka 4)), (5, .ref (ka 3)), (4, .ref (ka 2)), (3, .ref (ka 1)), (2, .ref (ka 0)), (1, .ref (ha 0)), (0, .ref b)]) (by decide) rfl dL_law_1312 ?_
      refine jj_goto C0 (tgt := 2039) dL_law_1314 (by decide) ?_
      refine jj_toHw ?_
      refine jj_lv [0, 2, 10, 13, 15, 16, 17, 18, 19, 20, 21, 22, 23, 24] rfl ?_
      exact kK cA hA nA ed r8_5 mc GG td pr up dn dv sd n mo sh co (f_dCa Ca w9 (if 0 < (1 + x1) then As c else Bi c) (f_oq (1 + x1) lm (Bi c) (As c) (BL c) (AL c) (He (7 * c + 6)) mo)) (va_up Cz 0 ((Cz 0) + ((f_W up dn dv td n K St Ex Am (f_dHe He c w9 (f_oq (1 + x1) lm (Bi c) (As c) (BL c) (AL c) (He (7 * c + 6)) mo)) (f_dCa Ca w9 (if 0 < (1 + x1) then As c else Bi c) (f_oq (1 + x1) lm (Bi c) (As c) (BL c) (AL c) (He (7 * c + 6)) mo)) sh pr) - (f_W up dn dv td n K St Ex Am He Ca sh pr)))) Cz K St Ex Am Ov (va_up Bi c (if 0 < (va_up BL c (BL c - (if 0 < (1 + x1) then 0 else -(f_oq (1 + x1) lm (Bi c) (As c) (BL c) (AL c) (He (7 * c + 6)) mo)))) c ∨ 0 < (va_up AL c (AL c - (if 0 < (1 + x1) then (f_oq (1 + x1) lm (Bi c) (As c) (BL c) (AL c) (He (7 * c + 6)) mo) else 0))) c then Bi c else 0)) (va_up As c (if 0 < (va_up BL c (BL c - (if 0 < (1 + x1) then 0 else -(f_oq (1 + x1) lm (Bi c) (As c) (BL c) (AL c) (He (7 * c + 6)) mo)))) c ∨ 0 < (va_up AL c (AL c - (if 0 < (1 + x1) then (f_oq (1 + x1) lm (Bi c) (As c) (BL c) (AL c) (He (7 * c + 6)) mo) else 0))) c then As c else 0)) Bj Aj (va_up BL c (BL c - (if 0 < (1 + x1) then 0 else -(f_oq (1 + x1) lm (Bi c) (As c) (BL c) (AL c) (He (7 * c + 6)) mo)))) (va_up AL c (AL c - (if 0 < (1 + x1) then (f_oq (1 + x1) lm (Bi c) (As c) (BL c) (AL c) (He (7 * c + 6)) mo) else 0))) (f_dHe He c w9 (f_oq (1 + x1) lm (Bi c) (As c) (BL c) (AL c) (He (7 * c + 6)) mo)) Co Cj (f_W up dn dv td n K St Ex Am He Ca sh pr) 0 _ _ (f_IV_order (x := (1 + x1)) hV hcn hww hov0 ⟨hb9.1, hb9.2.1⟩ hb9.2.2.1 hb9.2.2.2) (⟨hn6, htd5, hex5, fun c hc => by have := hSp c hc; omega, hdv9, hBA, by omega⟩) (hcc) (hG) (Or.inr ⟨0, by omega, rfl, rfl⟩) (by omega) (by omega)
    intro j1101
    refine jj_iload C0 3 rfl dL_law_1017 ?_
    refine jj_if_eq C0 (by omega) dL_law_1019 (tgt := 1044) (by decide) (fun c_12 => absurd c_12 (by omega)) (fun c_12 => ?_)
    refine jj_iload C0 2 rfl dL_law_1022 ?_
    refine jj_aload C0 17 rfl dL_law_1024 ?_
    refine jj_bipush C0 dL_law_1026 (by decide) ?_
    refine jj_iload C0 10 rfl dL_law_1028 ?_
    refine jj_iadd C0 dL_law_1030 ?_
    refine jj_iald C0 (q0 := 3) (t0 := 0) (f := (f_lq Bj Aj BL AL)) (rfl) rfl (k := (6 + c)) (by omega) (by omega) (by decide) dL_law_1031 ?_
    refine jj_topi (b := (Aj c)) (f_lq_As (by omega)) ?_
    refine jj_icmp_ge C0 (by omega) (by omega) dL_law_1032 (tgt := 1039) (by decide) (fun c_13 => ?_) (fun c_13 => ?_)
    · refine jj_iload C0 0 rfl dL_law_1039 ?_
      refine jj_goto C0 (tgt := 1060) dL_law_1041 (by decide) ?_
      refine jj_istore C0 (lv' := [(34, .int (iI (AL c))), (33, .int (iI (AL c))), (32, .int (iI ((He (7 * c + 6)) + mo))), (31, .int (iI lm)), (30, .int (iI 1)), (29, .int (iI (1 + x1))), (18, .int (iI (-1))), (17, .int (iI 1)), (16, .int (iI 0)), (14, .long (lI (f_W up dn dv td n K St Ex Am He Ca sh pr))), (13, .int (iI (w9 : Int))), (12, .int (iI (c : Int))), (11, .int (iI u9)), (10, .int (iI v9)), (9, .int (iI (t : Int))), (8, .ref (ka 6)), (7, .ref (ka 5)), (6, .ref (ka 4)), (5, .ref (ka 3)), (4, .ref (ka 2)), (3, .ref (ka 1)), (2, .ref (ka 0)), (1, .ref (ha 0)), (0, .ref b)]) (by decide) rfl dL_law_1060 ?_
      refine jj_iload C0 0 rfl dL_law_1062 ?_
      refine jj_iload C0 5 rfl dL_law_1064 ?_
      refine jj_icmp_ge C0 (by omega) (by omega) dL_law_1066 (tgt := 1074) (by decide) (fun c_14 => ?_) (fun c_14 => ?_)
      · refine jj_iload C0 5 rfl dL_law_1074 ?_
        refine jj_istore C0 (lv' := [(34, .int (iI (1 + x1))), (33, .int (iI (AL c))), (32, .int (iI ((He (7 * c + 6)) + mo))), (31, .int (iI lm)), (30, .int (iI 1)), (29, .int (iI (1 + x1))), (18, .int (iI (-1))), (17, .int (iI 1)), (16, .int (iI 0)), (14, .long (lI (f_W up dn dv td n K St Ex Am He Ca sh pr))), (13, .int (iI (w9 : Int))), (12, .int (iI (c : Int))), (11, .int (iI u9)), (10, .int (iI v9)), (9, .int (iI (t : Int))), (8, .ref (ka 6)), (7, .ref (ka 5)), (6, .ref (ka 4)), (5, .ref (ka 3)), (4, .ref (ka 2)), (3, .ref (ka 1)), (2, .ref (ka 0)), (1, .ref (ha 0)), (0, .ref b)]) (by decide) rfl dL_law_1076 ?_
        refine jj_iload C0 0 rfl dL_law_1078 ?_
        refine jj_iload C0 2 rfl dL_law_1080 ?_
        refine jj_icmp_ge C0 (by omega) (by omega) dL_law_1082 (tgt := 1090) (by decide) (fun c_15 => ?_) (fun c_15 => ?_)
        · refine jj_iload C0 2 rfl dL_law_1090 ?_
          refine jj_if_ge C0 (by omega) dL_law_1092 (tgt := 1099) (by decide) (fun c_16 => ?_) (fun c_16 => ?_)
          · refine jj_iload C0 2 rfl dL_law_1099 ?_
            refine jj_topi (b := (f_oq (1 + x1) lm (Bi c) (As c) (BL c) (AL c) (He (7 * c + 6)) mo)) (by rw [← f_tie_oq hQ]; unfold f_oq; rw [if_pos (by omega)]; split <;> omega) ?_
            refine jj_lv [1, 2, 3, 4, 5, 6, 7, 8, 9, 10, 11, 12, 13, 14, 15, 16, 17, 18, 19, 20, 21, 22, 23] rfl ?_
            exact j1101 () trivial
          · refine jj_iconst C0 dL_law_1095 ?_
            refine jj_goto C0 (tgt := 1101) dL_law_1096 (by decide) ?_
            refine jj_topi (b := (f_oq (1 + x1) lm (Bi c) (As c) (BL c) (AL c) (He (7 * c + 6)) mo)) (by rw [← f_tie_oq hQ]; unfold f_oq; rw [if_pos (by omega)]; split <;> omega) ?_
            refine jj_lv [1, 2, 3, 4, 5, 6, 7, 8, 9, 10, 11, 12, 13, 14, 15, 16, 17, 18, 19, 20, 21, 22, 23] rfl ?_
            exact j1101 () trivial
        · refine jj_iload C0 0 rfl dL_law_1085 ?_
          refine jj_goto C0 (tgt := 1101) dL_law_1087 (by decide) ?_
          refine jj_topi (b := (f_oq (1 + x1) lm (Bi c) (As c) (BL c) (AL c) (He (7 * c + 6)) mo)) (by rw [← f_tie_oq hQ]; unfold f_oq; rw [if_pos (by omega)]; split <;> omega) ?_
          refine jj_lv [1, 2, 3, 4, 5, 6, 7, 8, 9, 10, 11, 12, 13, 14, 15, 16, 17, 18, 19, 20, 21, 22, 23] rfl ?_
          exact j1101 () trivial
      · refine jj_iload C0 0 rfl dL_law_1069 ?_
        refine jj_goto C0 (tgt := 1076) dL_law_1071 (by decide) ?_
        refine jj_istore C0 (lv' := [(34, .int (iI (AL c))), (33, .int (iI (AL c))), (32, .int (iI ((He (7 * c + 6)) + mo))), (31, .int (iI lm)), (30, .int (iI 1)), (29, .int (iI (1 + x1))), (18, .int (iI (-1))), (17, .int (iI 1)), (16, .int (iI 0)), (14, .long (lI (f_W up dn dv td n K St Ex Am He Ca sh pr))), (13, .int (iI (w9 : Int))), (12, .int (iI (c : Int))), (11, .int (iI u9)), (10, .int (iI v9)), (9, .int (iI (t : Int))), (8, .ref (ka 6)), (7, .ref (ka 5)), (6, .ref (ka 4)), (5, .ref (ka 3)), (4, .ref (ka 2)), (3, .ref (ka 1)), (2, .ref (ka 0)), (1, .ref (ha 0)), (0, .ref b)]) (by decide) rfl dL_law_1076 ?_
        refine jj_iload C0 0 rfl dL_law_1078 ?_
        refine jj_iload C0 2 rfl dL_law_1080 ?_
        refine jj_icmp_ge C0 (by omega) (by omega) dL_law_1082 (tgt := 1090) (by decide) (fun c_17 => ?_) (fun c_17 => ?_)
        · refine jj_iload C0 2 rfl dL_law_1090 ?_
          refine jj_if_ge C0 (by omega) dL_law_1092 (tgt := 1099) (by decide) (fun c_18 => ?_) (fun c_18 => ?_)
          · refine jj_iload C0 2 rfl dL_law_1099 ?_
            refine jj_topi (b := (f_oq (1 + x1) lm (Bi c) (As c) (BL c) (AL c) (He (7 * c + 6)) mo)) (by rw [← f_tie_oq hQ]; unfold f_oq; rw [if_pos (by omega)]; split <;> omega) ?_
            refine jj_lv [1, 2, 3, 4, 5, 6, 7, 8, 9, 10, 11, 12, 13, 14, 15, 16, 17, 18, 19, 20, 21, 22, 23] rfl ?_
            exact j1101 () trivial
          · refine jj_iconst C0 dL_law_1095 ?_
            refine jj_goto C0 (tgt := 1101) dL_law_1096 (by decide) ?_
            refine jj_topi (b := (f_oq (1 + x1) lm (Bi c) (As c) (BL c) (AL c) (He (7 * c + 6)) mo)) (by rw [← f_tie_oq hQ]; unfold f_oq; rw [if_pos (by omega)]; split <;> omega) ?_
            refine jj_lv [1, 2, 3, 4, 5, 6, 7, 8, 9, 10, 11, 12, 13, 14, 15, 16, 17, 18, 19, 20, 21, 22, 23] rfl ?_
            exact j1101 () trivial
        · refine jj_iload C0 0 rfl dL_law_1085 ?_
          refine jj_goto C0 (tgt := 1101) dL_law_1087 (by decide) ?_
          refine jj_topi (b := (f_oq (1 + x1) lm (Bi c) (As c) (BL c) (AL c) (He (7 * c + 6)) mo)) (by rw [← f_tie_oq hQ]; unfold f_oq; rw [if_pos (by omega)]; split <;> omega) ?_
          refine jj_lv [1, 2, 3, 4, 5, 6, 7, 8, 9, 10, 11, 12, 13, 14, 15, 16, 17, 18, 19, 20, 21, 22, 23] rfl ?_
          exact j1101 () trivial
    · refine jj_iconst C0 dL_law_1035 ?_
      refine jj_goto C0 (tgt := 1060) dL_law_1036 (by decide) ?_
      refine jj_istore C0 (lv' := [(34, .int (iI 0)), (33, .int (iI (AL c))), (32, .int (iI ((He (7 * c + 6)) + mo))), (31, .int (iI lm)), (30, .int (iI 1)), (29, .int (iI (1 + x1))), (18, .int (iI (-1))), (17, .int (iI 1)), (16, .int (iI 0)), (14, .long (lI (f_W up dn dv td n K St Ex Am He Ca sh pr))), (13, .int (iI (w9 : Int))), (12, .int (iI (c : Int))), (11, .int (iI u9)), (10, .int (iI v9)), (9, .int (iI (t : Int))), (8, .ref (ka 6)), (7, .ref (ka 5)), (6, .ref (ka 4)), (5, .ref (ka 3)), (4, .ref (ka 2)), (3, .ref (ka 1)), (2, .ref (ka 0)), (1, .ref (ha 0)), (0, .ref b)]) (by decide) rfl dL_law_1060 ?_
      refine jj_iload C0 0 rfl dL_law_1062 ?_
      refine jj_iload C0 5 rfl dL_law_1064 ?_
      refine jj_icmp_ge C0 (by omega) (by omega) dL_law_1066 (tgt := 1074) (by decide) (fun c_19 => ?_) (fun c_19 => ?_)
      · refine jj_iload C0 5 rfl dL_law_1074 ?_
        refine jj_istore C0 (lv' := [(34, .int (iI (1 + x1))), (33, .int (iI (AL c))), (32, .int (iI ((He (7 * c + 6)) + mo))), (31, .int (iI lm)), (30, .int (iI 1)), (29, .int (iI (1 + x1))), (18, .int (iI (-1))), (17, .int (iI 1)), (16, .int (iI 0)), (14, .long (lI (f_W up dn dv td n K St Ex Am He Ca sh pr))), (13, .int (iI (w9 : Int))), (12, .int (iI (c : Int))), (11, .int (iI u9)), (10, .int (iI v9)), (9, .int (iI (t : Int))), (8, .ref (ka 6)), (7, .ref (ka 5)), (6, .ref (ka 4)), (5, .ref (ka 3)), (4, .ref (ka 2)), (3, .ref (ka 1)), (2, .ref (ka 0)), (1, .ref (ha 0)), (0, .ref b)]) (by decide) rfl dL_law_1076 ?_
        refine jj_iload C0 0 rfl dL_law_1078 ?_
        refine jj_iload C0 2 rfl dL_law_1080 ?_
        refine jj_icmp_ge C0 (by omega) (by omega) dL_law_1082 (tgt := 1090) (by decide) (fun c_20 => ?_) (fun c_20 => ?_)
        · refine jj_iload C0 2 rfl dL_law_1090 ?_
          refine jj_if_ge C0 (by omega) dL_law_1092 (tgt := 1099) (by decide) (fun c_21 => ?_) (fun c_21 => ?_)
          · refine jj_iload C0 2 rfl dL_law_1099 ?_
            refine jj_topi (b := (f_oq (1 + x1) lm (Bi c) (As c) (BL c) (AL c) (He (7 * c + 6)) mo)) (by rw [← f_tie_oq hQ]; unfold f_oq; rw [if_pos (by omega)]; split <;> omega) ?_
            refine jj_lv [1, 2, 3, 4, 5, 6, 7, 8, 9, 10, 11, 12, 13, 14, 15, 16, 17, 18, 19, 20, 21, 22, 23] rfl ?_
            exact j1101 () trivial
          · refine jj_iconst C0 dL_law_1095 ?_
            refine jj_goto C0 (tgt := 1101) dL_law_1096 (by decide) ?_
            refine jj_topi (b := (f_oq (1 + x1) lm (Bi c) (As c) (BL c) (AL c) (He (7 * c + 6)) mo)) (by rw [← f_tie_oq hQ]; unfold f_oq; rw [if_pos (by omega)]; split <;> omega) ?_
            refine jj_lv [1, 2, 3, 4, 5, 6, 7, 8, 9, 10, 11, 12, 13, 14, 15, 16, 17, 18, 19, 20, 21, 22, 23] rfl ?_
            exact j1101 () trivial
        · refine jj_iload C0 0 rfl dL_law_1085 ?_
          refine jj_goto C0 (tgt := 1101) dL_law_1087 (by decide) ?_
          refine jj_topi (b := (f_oq (1 + x1) lm (Bi c) (As c) (BL c) (AL c) (He (7 * c + 6)) mo)) (by rw [← f_tie_oq hQ]; unfold f_oq; rw [if_pos (by omega)]; split <;> omega) ?_
          refine jj_lv [1, 2, 3, 4, 5, 6, 7, 8, 9, 10, 11, 12, 13, 14, 15, 16, 17, 18, 19, 20, 21, 22, 23] rfl ?_
          exact j1101 () trivial
      · refine jj_iload C0 0 rfl dL_law_1069 ?_
        refine jj_goto C0 (tgt := 1076) dL_law_1071 (by decide) ?_
        refine jj_istore C0 (lv' := [(34, .int (iI 0)), (33, .int (iI (AL c))), (32, .int (iI ((He (7 * c + 6)) + mo))), (31, .int (iI lm)), (30, .int (iI 1)), (29, .int (iI (1 + x1))), (18, .int (iI (-1))), (17, .int (iI 1)), (16, .int (iI 0)), (14, .long (lI (f_W up dn dv td n K St Ex Am He Ca sh pr))), (13, .int (iI (w9 : Int))), (12, .int (iI (c : Int))), (11, .int (iI u9)), (10, .int (iI v9)), (9, .int (iI (t : Int))), (8, .ref (ka 6)), (7, .ref (ka 5)), (6, .ref (ka 4)), (5, .ref (ka 3)), (4, .ref (ka 2)), (3, .ref (ka 1)), (2, .ref (ka 0)), (1, .ref (ha 0)), (0, .ref b)]) (by decide) rfl dL_law_1076 ?_
        refine jj_iload C0 0 rfl dL_law_1078 ?_
        refine jj_iload C0 2 rfl dL_law_1080 ?_
        refine jj_icmp_ge C0 (by omega) (by omega) dL_law_1082 (tgt := 1090) (by decide) (fun c_22 => ?_) (fun c_22 => ?_)
        · refine jj_iload C0 2 rfl dL_law_1090 ?_
          refine jj_if_ge C0 (by omega) dL_law_1092 (tgt := 1099) (by decide) (fun c_23 => ?_) (fun c_23 => ?_)
          · refine jj_iload C0 2 rfl dL_law_1099 ?_
            refine jj_topi (b := (f_oq (1 + x1) lm (Bi c) (As c) (BL c) (AL c) (He (7 * c + 6)) mo)) (by rw [← f_tie_oq hQ]; unfold f_oq; rw [if_pos (by omega)]; split <;> omega) ?_
            refine jj_lv [1, 2, 3, 4, 5, 6, 7, 8, 9, 10, 11, 12, 13, 14, 15, 16, 17, 18, 19, 20, 21, 22, 23] rfl ?_
            exact j1101 () trivial
          · refine jj_iconst C0 dL_law_1095 ?_
            refine jj_goto C0 (tgt := 1101) dL_law_1096 (by decide) ?_
            refine jj_topi (b := (f_oq (1 + x1) lm (Bi c) (As c) (BL c) (AL c) (He (7 * c + 6)) mo)) (by rw [← f_tie_oq hQ]; unfold f_oq; rw [if_pos (by omega)]; split <;> omega) ?_
            refine jj_lv [1, 2, 3, 4, 5, 6, 7, 8, 9, 10, 11, 12, 13, 14, 15, 16, 17, 18, 19, 20, 21, 22, 23] rfl ?_
            exact j1101 () trivial
        · refine jj_iload C0 0 rfl dL_law_1085 ?_
          refine jj_goto C0 (tgt := 1101) dL_law_1087 (by decide) ?_
          refine jj_topi (b := (f_oq (1 + x1) lm (Bi c) (As c) (BL c) (AL c) (He (7 * c + 6)) mo)) (by rw [← f_tie_oq hQ]; unfold f_oq; rw [if_pos (by omega)]; split <;> omega) ?_
          refine jj_lv [1, 2, 3, 4, 5, 6, 7, 8, 9, 10, 11, 12, 13, 14, 15, 16, 17, 18, 19, 20, 21, 22, 23] rfl ?_
          exact j1101 () trivial
  intro j949
  refine jj_iload C0 0 rfl dL_law_938 ?_
  refine jj_if_ge C0 (by omega) dL_law_940 (tgt := 947) (by decide) (fun c_24 => ?_) (fun c_24 => ?_)
  · refine jj_iload C0 0 rfl dL_law_947 ?_
    exact j949 lm0 (by omega)
  · refine jj_iconst C0 dL_law_943 ?_
    refine jj_goto C0 (tgt := 949) dL_law_944 (by decide) ?_
    exact j949 0 (by omega)
set_option maxHeartbeats 4000000 in
set_option maxRecDepth 100000 in
theorem lq_orBS (hC9 : f_C9 p l s m args meth c9 dC dI A cI cJ cZ cO es mi sa b L xs) (hcs : cells + 100 ≤ 600104 ∧ slots + 4000 ≤ 7301314) (hk9 : k9 ≤ 89) (ht9 : t ≤ 89) (hI : f_IV k9 td n pr up dn dv sd mo sh Ca K St Ex Am Ov Bi As Bj Aj BL AL He Co) (hJ : f_JV t td n pr dv sh St Ex Bj Aj) (hcc : f_JC Ov Co Cj) (hG : f_LG cO es n ed cA GG) (hu9 : iR u9) (hv9 : iR v9) (kK : f_K9 p l e s m args below meth c9 dC dI A Q ha ka cI cJ cZ cO es b k9 t u9 cells slots) {x1 : Int} (hcn : c < n) (hww : w9 ≤ 5) (hov0 : Ov c = 1) (hx4 : 0 ≤ x1 ∧ x1 < 40) : jj_W p l e room_1 s m args below meth c9 (dC, dI) vwCl A 46 cells slots Q 896 [(29, .int (iI (1 + x1))), (18, .int (iI (-1))), (17, .int (iI 1)), (16, .int (iI 1)), (14, .long (lI (f_W up dn dv td n K St Ex Am He Ca sh pr))), (13, .int (iI (w9 : Int))), (12, .int (iI (c : Int))), (11, .int (iI u9)), (10, .int (iI v9)), (9, .int (iI (t : Int))), (8, .ref (ka 6)), (7, .ref (ka 5)), (6, .ref (ka 4)), (5, .ref (ka 3)), (4, .ref (ka 2)), (3, .ref (ka 1)), (2, .ref (ka 0)), (1, .ref (ha 0)), (0, .ref b)] [] (wH ha cA hA nA ed cI cJ cZ td pr up dn dv rw sd mc n mo sh co Ca Cz K St Ex Am Bi As BL AL He Co ++ (GG ++ wL ka cI cJ td pr up dn mo sh co n K St Ex Am Ov Bj Aj BL AL He Cj dv Ca sd Cz)) := by
  obtain ⟨C0, hl, hL⟩ := hC9
  have hw := C0.2.2.2.2.1
  have hEV := hEVS es mi sa b L xs
  have hED0 : 0 < n → f_ED cA n ed cO GG := fun h9 => by have h8 := f_LG_ED (M := []) hG h9; rwa [List.append_nil] at h8
  have hCj9 := hcc.1
  have hV := hI
  obtain ⟨⟨htd, hn, hpr, hup, hdn, hdv, hsd, hmo, hsh⟩, ⟨hK, hSt, hEx, hAm, hOv, hovs, hexs, hovn⟩, hQ9, ⟨hHe, hsums, hHz⟩, ⟨hCo, hCz⟩, hCa⟩ := hI
  have hQ := hQ9
  obtain ⟨hBi, hAs, hBj, hAj, hBL, hAL, hQt, hQ0, hQn, hQo⟩ := hQ9
  have hW9 := hJ
  obtain ⟨hn6, htd5, hex5, hSp, hdv9, hBA, hsh9⟩ := hJ
  have hexs1 : ∀ c, c < n → Ex c ≤ (td : Int) + 10 := fun c hc => (hexs c hc).1
  have hHe9 : ∀ j, -999000 ≤ He j ∧ He j ≤ 999000 := fun j => by have := hHe j; omega
  have hHe6 : ∀ j, -1000000 ≤ He j ∧ He j ≤ 1000000 := fun j => by have := hHe j; omega
  have hCa9 : ∀ j, -100000000000000000 ≤ Ca j ∧ Ca j ≤ 100000000000000000 := fun j => by have := hCa j; omega
  have hov5 : ∀ c, c < n → (Ov c = 1 ∧ Ex c < (td : Int)) ∨ (Ov c = 0 ∧ (td : Int) ≤ Ex c ∧ Ex c ≤ (td : Int) + 5) := fun c hc => by have h1 := hovs c hc; have h2 := hex5 c hc; omega
  have hovw : ∀ c, c < n → He (7 * c + 6) = 0 ∨ (Ov c = 1 ∧ Ex c < (td : Int)) ∨ (Ov c = 0 ∧ (td : Int) ≤ Ex c ∧ Ex c ≤ (td : Int) + 5) := fun c hc => Or.inr (hov5 c hc)
  have hov1 := hovs c hcn
  refine jj_iconst C0 dL_law_896 ?_
  refine jj_goto C0 (tgt := 901) dL_law_897 (by decide) ?_
  refine jj_istore C0 (lv' := [(30, .int (iI 1)), (29, .int (iI (1 + x1))), (18, .int (iI (-1))), (17, .int (iI 1)), (16, .int (iI 1)), (14, .long (lI (f_W up dn dv td n K St Ex Am He Ca sh pr))), (13, .int (iI (w9 : Int))), (12, .int (iI (c : Int))), (11, .int (iI u9)), (10, .int (iI v9)), (9, .int (iI (t : Int))), (8, .ref (ka 6)), (7, .ref (ka 5)), (6, .ref (ka 4)), (5, .ref (ka 3)), (4, .ref (ka 2)), (3, .ref (ka 1)), (2, .ref (ka 0)), (1, .ref (ha 0)), (0, .ref b)]) (by decide) rfl dL_law_901 ?_
  refine jj_iload C0 0 rfl dL_law_903 ?_
  refine jj_if_eq C0 (by omega) dL_law_905 (tgt := 919) (by decide) (fun c_1 => absurd c_1 (by omega)) (fun c_1 => ?_)
  refine jj_aload C0 14 rfl dL_law_908 ?_
  refine jj_bipush C0 dL_law_910 (by decide) ?_
  refine jj_iload C0 7 rfl dL_law_912 ?_
  refine jj_iadd C0 dL_law_914 ?_
  refine jj_toLw ?_
  refine jj_iald C0 (q0 := 3) (t0 := 0) (f := (f_lq Bj Aj BL AL)) (rfl) rfl (k := (6 + c)) (by omega) (by omega) (by decide) dL_law_915 ?_
  refine jj_topi (b := (Aj c)) (f_lq_As (by omega)) ?_
  refine jj_goto C0 (tgt := 924) dL_law_916 (by decide) ?_
  refine jj_iload C0 8 rfl dL_law_924 ?_
  refine jj_bipush C0 dL_law_926 (by decide) ?_
  refine jj_ishrX C0 dL_law_928 ?_
  have hR928 := f_sr_R u9 12
  refine jj_iconst C0 dL_law_929 ?_
  refine jj_callSi C0 (cells' := cells) (slots' := slots) (cc_L_low hEV (v := (f_sr u9 12)) (m := 5) (by omega)) (cwS 2 hw (lw_gS hU_167 hU_168 hU_42 hU_169) rfl rfl rfl (by decide +kernel) ⟨Nat.le_of_ble_eq_true rfl, Nat.le_of_ble_eq_true rfl⟩) rfl rfl (Nat.le_of_ble_eq_true rfl) ⟨by show cells + 0 ≤ 600104; omega, by show slots + 0 ≤ 7301314; omega⟩ rfl rfl dL_law_930 ?_
  intro _ hu
  show jj_W _ _ _ _ _ _ _ _ _ _ _ _ _ _ _ _ _ 933 _ [.int (iI (f_lo (f_sr u9 12) 5)), .int (iI (Aj c))] (wL ka cI cJ td pr up dn mo sh co n K St Ex Am Ov Bj Aj BL AL He Cj dv Ca sd Cz ++ (wH ha cA hA nA ed cI cJ cZ td pr up dn dv rw sd mc n mo sh co Ca Cz K St Ex Am Bi As BL AL He Co ++ GG))
  obtain ⟨x2, hx2⟩ : ∃ z : Int, z = (f_lo (f_sr u9 12) 5) := ⟨_, rfl⟩
  have hbx2 : 0 ≤ x2 ∧ x2 < 5 := by rw [hx2]; exact f_lo_bd _ (by omega)
  refine jj_topi (b := x2) (hx2.symm) ?_
  refine jj_iadd C0 dL_law_933 ?_
  refine jj_iconst C0 dL_law_934 ?_
  refine jj_isub C0 dL_law_935 ?_
  obtain ⟨lm0, hlm0⟩ : ∃ z : Int, z = (((Aj c) + x2) - 2) := ⟨_, rfl⟩
  have hba := hBA c
  have hbb := hBj c
  have hbc := hAj c
  have hbd := hBL c
  have hbe := hAL c
  have hbf := hHe9 (7 * c + 6)
  have hbg := hHe9 (7 * c + w9)
  refine jj_topi (b := lm0) (hlm0.symm) ?_
  refine jj_istore C0 (lv' := [(31, .int (iI lm0)), (30, .int (iI 1)), (29, .int (iI (1 + x1))), (18, .int (iI (-1))), (17, .int (iI 1)), (16, .int (iI 1)), (14, .long (lI (f_W up dn dv td n K St Ex Am He Ca sh pr))), (13, .int (iI (w9 : Int))), (12, .int (iI (c : Int))), (11, .int (iI u9)), (10, .int (iI v9)), (9, .int (iI (t : Int))), (8, .ref (ka 6)), (7, .ref (ka 5)), (6, .ref (ka 4)), (5, .ref (ka 3)), (4, .ref (ka 2)), (3, .ref (ka 1)), (2, .ref (ka 0)), (1, .ref (ha 0)), (0, .ref b)]) (by decide) rfl dL_law_936 ?_
  refine jj_join (X := Int) (pcj := 949) (fun q9 => match q9 with | lm => [(31, .int (iI lm0)), (30, .int (iI 1)), (29, .int (iI (1 + x1))), (18, .int (iI (-1))), (17, .int (iI 1)), (16, .int (iI 1)), (14, .long (lI (f_W up dn dv td n K St Ex Am He Ca sh pr))), (13, .int (iI (w9 : Int))), (12, .int (iI (c : Int))), (11, .int (iI u9)), (10, .int (iI v9)), (9, .int (iI (t : Int))), (8, .ref (ka 6)), (7, .ref (ka 5)), (6, .ref (ka 4)), (5, .ref (ka 3)), (4, .ref (ka 2)), (3, .ref (ka 1)), (2, .ref (ka 0)), (1, .ref (ha 0)), (0, .ref b)]) (fun q9 => match q9 with | lm => [.int (iI lm)]) (fun q9 => match q9 with | lm => wL ka cI cJ td pr up dn mo sh co n K St Ex Am Ov Bj Aj BL AL He Cj dv Ca sd Cz ++ (wH ha cA hA nA ed cI cJ cZ td pr up dn dv rw sd mc n mo sh co Ca Cz K St Ex Am Bi As BL AL He Co ++ GG)) (fun q9 => match q9 with | lm => 0 ≤ lm ∧ lm ≤ 20000) ?_ ?_
  · intro q9 hq9
    obtain ⟨lm, rfl⟩ : ∃ z, z = q9 := ⟨_, rfl⟩
    have hlm : 0 ≤ lm ∧ lm ≤ 20000 := hq9
    refine jj_istore C0 (lv' := [(31, .int (iI lm)), (30, .int (iI 1)), (29, .int (iI (1 + x1))), (18, .int (iI (-1))), (17, .int (iI 1)), (16, .int (iI 1)), (14, .long (lI (f_W up dn dv td n K St Ex Am He Ca sh pr))), (13, .int (iI (w9 : Int))), (12, .int (iI (c : Int))), (11, .int (iI u9)), (10, .int (iI v9)), (9, .int (iI (t : Int))), (8, .ref (ka 6)), (7, .ref (ka 5)), (6, .ref (ka 4)), (5, .ref (ka 3)), (4, .ref (ka 2)), (3, .ref (ka 1)), (2, .ref (ka 0)), (1, .ref (ha 0)), (0, .ref b)]) (by decide) rfl dL_law_949 ?_
    refine jj_iload C0 1 rfl dL_law_951 ?_
    refine jj_if_eq C0 (by omega) dL_law_953 (tgt := 974) (by decide) (fun c_2 => absurd c_2 (by omega)) (fun c_2 => ?_)
    refine jj_aload_n C0 17 rfl dL_law_956 ?_
    refine jj_bipush C0 dL_law_957 (by decide) ?_
    refine jj_iload C0 8 rfl dL_law_959 ?_
    refine jj_imul C0 dL_law_961 ?_
    refine jj_bipush C0 dL_law_962 (by decide) ?_
    refine jj_iadd C0 dL_law_964 ?_
    refine jj_iald C0 (q0 := 1) (t0 := 0) (f := (f_lh He)) (rfl) rfl (k := ((10 * c) + 6)) (by omega) (by omega) (by decide) dL_law_965 ?_
    refine jj_topi (b := (He (7 * c + 6))) (f_lh_at (by omega)) ?_
    refine jj_aload C0 14 rfl dL_law_966 ?_
    refine jj_iconst C0 dL_law_968 ?_
    refine jj_iald C0 (q0 := 4) (t0 := 0) (f := (f_lg td pr up dn mo sh co n)) (rfl) rfl (k := 4) (by omega) (by omega) (by decide) dL_law_969 ?_
    refine jj_topi (b := mo) (rfl) ?_
    refine jj_iadd C0 dL_law_970 ?_
    refine jj_goto C0 (tgt := 989) dL_law_971 (by decide) ?_
    refine jj_istore C0 (lv' := [(32, .int (iI ((He (7 * c + 6)) + mo))), (31, .int (iI lm)), (30, .int (iI 1)), (29, .int (iI (1 + x1))), (18, .int (iI (-1))), (17, .int (iI 1)), (16, .int (iI 1)), (14, .long (lI (f_W up dn dv td n K St Ex Am He Ca sh pr))), (13, .int (iI (w9 : Int))), (12, .int (iI (c : Int))), (11, .int (iI u9)), (10, .int (iI v9)), (9, .int (iI (t : Int))), (8, .ref (ka 6)), (7, .ref (ka 5)), (6, .ref (ka 4)), (5, .ref (ka 3)), (4, .ref (ka 2)), (3, .ref (ka 1)), (2, .ref (ka 0)), (1, .ref (ha 0)), (0, .ref b)]) (by decide) rfl dL_law_989 ?_
    refine jj_iload C0 2 rfl dL_law_991 ?_
    refine jj_if_eq C0 (by omega) dL_law_993 (tgt := 1007) (by decide) (fun c_3 => absurd c_3 (by omega)) (fun c_3 => ?_)
    refine jj_aload C0 16 rfl dL_law_996 ?_
    refine jj_bipush C0 dL_law_998 (by decide) ?_
    refine jj_iload C0 9 rfl dL_law_1000 ?_
    refine jj_iadd C0 dL_law_1002 ?_
    refine jj_iald C0 (q0 := 3) (t0 := 0) (f := (f_lq Bj Aj BL AL)) (rfl) rfl (k := (18 + c)) (by omega) (by omega) (by decide) dL_law_1003 ?_
    refine jj_topi (b := (AL c)) (f_lq_AL) ?_
    refine jj_goto C0 (tgt := 1015) dL_law_1004 (by decide) ?_
    refine jj_istore C0 (lv' := [(33, .int (iI (AL c))), (32, .int (iI ((He (7 * c + 6)) + mo))), (31, .int (iI lm)), (30, .int (iI 1)), (29, .int (iI (1 + x1))), (18, .int (iI (-1))), (17, .int (iI 1)), (16, .int (iI 1)), (14, .long (lI (f_W up dn dv td n K St Ex Am He Ca sh pr))), (13, .int (iI (w9 : Int))), (12, .int (iI (c : Int))), (11, .int (iI u9)), (10, .int (iI v9)), (9, .int (iI (t : Int))), (8, .ref (ka 6)), (7, .ref (ka 5)), (6, .ref (ka 4)), (5, .ref (ka 3)), (4, .ref (ka 2)), (3, .ref (ka 1)), (2, .ref (ka 0)), (1, .ref (ha 0)), (0, .ref b)]) (by decide) rfl dL_law_1015 ?_
    refine jj_join (X := Unit) (pcj := 1101) (fun q9 => match q9 with | () => [(33, .int (iI (AL c))), (32, .int (iI ((He (7 * c + 6)) + mo))), (31, .int (iI lm)), (30, .int (iI 1)), (29, .int (iI (1 + x1))), (18, .int (iI (-1))), (17, .int (iI 1)), (16, .int (iI 1)), (14, .long (lI (f_W up dn dv td n K St Ex Am He Ca sh pr))), (13, .int (iI (w9 : Int))), (12, .int (iI (c : Int))), (11, .int (iI u9)), (10, .int (iI v9)), (9, .int (iI (t : Int))), (8, .ref (ka 6)), (7, .ref (ka 5)), (6, .ref (ka 4)), (5, .ref (ka 3)), (4, .ref (ka 2)), (3, .ref (ka 1)), (2, .ref (ka 0)), (1, .ref (ha 0)), (0, .ref b)]) (fun q9 => match q9 with | () => [.int (iI (f_oq (1 + x1) lm (Bi c) (As c) (BL c) (AL c) (He (7 * c + 6)) mo))]) (fun q9 => match q9 with | () => wL ka cI cJ td pr up dn mo sh co n K St Ex Am Ov Bj Aj BL AL He Cj dv Ca sd Cz ++ (wH ha cA hA nA ed cI cJ cZ td pr up dn dv rw sd mc n mo sh co Ca Cz K St Ex Am Bi As BL AL He Co ++ GG)) (fun q9 => match q9 with | () => True) ?_ ?_
    · intro q9 hq9
      obtain ⟨⟩ := q9
      have _ : True := hq9
      refine jj_istore C0 (lv' := [(34, .int (iI (f_oq (1 + x1) lm (Bi c) (As c) (BL c) (AL c) (He (7 * c + 6)) mo))), (33, .int (iI (AL c))), (32, .int (iI ((He (7 * c + 6)) + mo))), (31, .int (iI lm)), (30, .int (iI 1)), (29, .int (iI (1 + x1))), (18, .int (iI (-1))), (17, .int (iI 1)), (16, .int (iI 1)), (14, .long (lI (f_W up dn dv td n K St Ex Am He Ca sh pr))), (13, .int (iI (w9 : Int))), (12, .int (iI (c : Int))), (11, .int (iI u9)), (10, .int (iI v9)), (9, .int (iI (t : Int))), (8, .ref (ka 6)), (7, .ref (ka 5)), (6, .ref (ka 4)), (5, .ref (ka 3)), (4, .ref (ka 2)), (3, .ref (ka 1)), (2, .ref (ka 0)), (1, .ref (ha 0)), (0, .ref b)]) (by decide) rfl dL_law_1101 ?_
      have hx0 : 0 < (1 + x1) := by omega
      have hb9 := f_oq_bd (x := (1 + x1)) (y := lm) (bi := Bi c) (ak := As c) (bl := BL c) (al := AL c) (he := He (7 * c + 6)) (mo := mo) (by omega) (hBL c).1 (hAL c).1
      refine jj_aload_n C0 22 rfl dL_law_1103 ?_
      refine jj_iload C0 10 rfl dL_law_1104 ?_
      refine jj_iload C0 11 rfl dL_law_1106 ?_
      refine jj_iload C0 4 rfl dL_law_1108 ?_
      refine jj_if_eq C0 (by omega) dL_law_1110 (tgt := 1118) (by decide) (fun c_4 => absurd c_4 (by omega)) (fun c_4 => ?_)
      refine jj_iload C0 5 rfl dL_law_1113 ?_
      refine jj_goto C0 (tgt := 1121) dL_law_1115 (by decide) ?_
      refine jj_iload C0 3 rfl dL_law_1121 ?_
      refine jj_toHw ?_
      refine jj_callSWi C0 (cells' := (cells + 1)) (slots' := (slots + 6)) (jj_weaki (fun A U H h => h.1.1) (cr_L_order_S hl (w := (w9 : Int)) (c := c) (x := (1 + x1)) (y := lm) (by omega) (by omega) (by omega) (by omega) hn (fun h9 => f_ED_app (hED0 h9)) hEx htd)) (vx_cwSW 5 hw (lw_gW hU_558 hU_559 hU_42 hU_560) rfl rfl rfl (by decide +kernel) ⟨Nat.le_of_ble_eq_true rfl, Nat.le_of_ble_eq_true rfl⟩) rfl rfl (Nat.le_of_ble_eq_true rfl) ⟨by show cells + 1 ≤ 600104; omega, by show slots + 6 ≤ 7301314; omega⟩ rfl rfl dL_law_1123 ?_
      intro _ hu
      show jj_W _ _ _ _ _ _ _ _ _ _ _ _ _ _ _ _ _ 1126 _ [.int (iI (-2000000003))] (wH ha cA hA nA ed cI cJ cZ td pr up dn dv rw sd mc n mo sh co Ca Cz K St Ex Am Bi As BL AL He Co ++ (GG ++ wL ka cI cJ td pr up dn mo sh co n K St Ex Am Ov Bj Aj BL AL He Cj dv Ca sd Cz))
      refine jj_iload C0 8 rfl dL_law_1126 ?_
      refine jj_if_eq C0 (by omega) dL_law_1128 (tgt := 1136) (by decide) (fun c_5 => absurd c_5 (by omega)) (fun c_5 => ?_)
      refine jj_ldc C0 (z := -2000000003) (by decide) (hw _ hU_472) dL_law_1131 ?_
      refine jj_goto C0 (tgt := 1138) dL_law_1133 (by decide) ?_
      refine jj_icmp_ne C0 (by omega) (by omega) dL_law_1138 (tgt := 1145) (by decide) (fun c_6 => absurd c_6 (by omega)) (fun c_6 => ?_)
      refine jj_iconst C0 dL_law_1141 ?_
      refine jj_goto C0 (tgt := 1146) dL_law_1142 (by decide) ?_
      refine jj_istore C0 (lv' := [(17, .int (iI 1)), (34, .int (iI (f_oq (1 + x1) lm (Bi c) (As c) (BL c) (AL c) (He (7 * c + 6)) mo))), (33, .int (iI (AL c))), (32, .int (iI ((He (7 * c + 6)) + mo))), (31, .int (iI lm)), (30, .int (iI 1)), (29, .int (iI (1 + x1))), (18, .int (iI (-1))), (16, .int (iI 1)), (14, .long (lI (f_W up dn dv td n K St Ex Am He Ca sh pr))), (13, .int (iI (w9 : Int))), (12, .int (iI (c : Int))), (11, .int (iI u9)), (10, .int (iI v9)), (9, .int (iI (t : Int))), (8, .ref (ka 6)), (7, .ref (ka 5)), (6, .ref (ka 4)), (5, .ref (ka 3)), (4, .ref (ka 2)), (3, .ref (ka 1)), (2, .ref (ka 0)), (1, .ref (ha 0)), (0, .ref b)]) (by decide) rfl dL_law_1146 ?_
      refine jj_iload C0 8 rfl dL_law_1148 ?_
      refine jj_if_eq C0 (by omega) dL_law_1150 (tgt := 1156) (by decide) (fun c_7 => absurd c_7 (by omega)) (fun c_7 => ?_)
      refine jj_goto C0 (tgt := 2039) dL_law_1153 (by decide) ?_
      refine jj_lv [7, 0, 9, 12, 14, 15, 16, 17, 18, 19, 20, 21, 22, 23] rfl ?_
      exact kK cA hA nA ed rw mc GG td pr up dn dv sd n mo sh co Ca Cz Cz K St Ex Am Ov Bi As Bj Aj BL AL He Co Cj (f_W up dn dv td n K St Ex Am He Ca sh pr) (-1) _ _ (f_IV_k hV) (f_JV_t hW9) (hcc) (hG) (Or.inl ⟨rfl, rfl⟩) (by omega) (by omega)
    intro j1101
    refine jj_iload C0 3 rfl dL_law_1017 ?_
    refine jj_if_eq C0 (by omega) dL_law_1019 (tgt := 1044) (by decide) (fun c_8 => absurd c_8 (by omega)) (fun c_8 => ?_)
    refine jj_iload C0 2 rfl dL_law_1022 ?_
    refine jj_aload C0 17 rfl dL_law_1024 ?_
    refine jj_bipush C0 dL_law_1026 (by decide) ?_
    refine jj_iload C0 10 rfl dL_law_1028 ?_
    refine jj_iadd C0 dL_law_1030 ?_
    refine jj_iald C0 (q0 := 3) (t0 := 0) (f := (f_lq Bj Aj BL AL)) (rfl) rfl (k := (6 + c)) (by omega) (by omega) (by decide) dL_law_1031 ?_
    refine jj_topi (b := (Aj c)) (f_lq_As (by omega)) ?_
    refine jj_icmp_ge C0 (by omega) (by omega) dL_law_1032 (tgt := 1039) (by decide) (fun c_9 => ?_) (fun c_9 => ?_)
    · refine jj_iload C0 0 rfl dL_law_1039 ?_
      refine jj_goto C0 (tgt := 1060) dL_law_1041 (by decide) ?_
      refine jj_istore C0 (lv' := [(34, .int (iI (AL c))), (33, .int (iI (AL c))), (32, .int (iI ((He (7 * c + 6)) + mo))), (31, .int (iI lm)), (30, .int (iI 1)), (29, .int (iI (1 + x1))), (18, .int (iI (-1))), (17, .int (iI 1)), (16, .int (iI 1)), (14, .long (lI (f_W up dn dv td n K St Ex Am He Ca sh pr))), (13, .int (iI (w9 : Int))), (12, .int (iI (c : Int))), (11, .int (iI u9)), (10, .int (iI v9)), (9, .int (iI (t : Int))), (8, .ref (ka 6)), (7, .ref (ka 5)), (6, .ref (ka 4)), (5, .ref (ka 3)), (4, .ref (ka 2)), (3, .ref (ka 1)), (2, .ref (ka 0)), (1, .ref (ha 0)), (0, .ref b)]) (by decide) rfl dL_law_1060 ?_
      refine jj_iload C0 0 rfl dL_law_1062 ?_
      refine jj_iload C0 5 rfl dL_law_1064 ?_
      refine jj_icmp_ge C0 (by omega) (by omega) dL_law_1066 (tgt := 1074) (by decide) (fun c_10 => ?_) (fun c_10 => ?_)
      · refine jj_iload C0 5 rfl dL_law_1074 ?_
        refine jj_istore C0 (lv' := [(34, .int (iI (1 + x1))), (33, .int (iI (AL c))), (32, .int (iI ((He (7 * c + 6)) + mo))), (31, .int (iI lm)), (30, .int (iI 1)), (29, .int (iI (1 + x1))), (18, .int (iI (-1))), (17, .int (iI 1)), (16, .int (iI 1)), (14, .long (lI (f_W up dn dv td n K St Ex Am He Ca sh pr))), (13, .int (iI (w9 : Int))), (12, .int (iI (c : Int))), (11, .int (iI u9)), (10, .int (iI v9)), (9, .int (iI (t : Int))), (8, .ref (ka 6)), (7, .ref (ka 5)), (6, .ref (ka 4)), (5, .ref (ka 3)), (4, .ref (ka 2)), (3, .ref (ka 1)), (2, .ref (ka 0)), (1, .ref (ha 0)), (0, .ref b)]) (by decide) rfl dL_law_1076 ?_
        refine jj_iload C0 0 rfl dL_law_1078 ?_
        refine jj_iload C0 2 rfl dL_law_1080 ?_
        refine jj_icmp_ge C0 (by omega) (by omega) dL_law_1082 (tgt := 1090) (by decide) (fun c_11 => ?_) (fun c_11 => ?_)
        · refine jj_iload C0 2 rfl dL_law_1090 ?_
          refine jj_if_ge C0 (by omega) dL_law_1092 (tgt := 1099) (by decide) (fun c_12 => ?_) (fun c_12 => ?_)
          · refine jj_iload C0 2 rfl dL_law_1099 ?_
            refine jj_topi (b := (f_oq (1 + x1) lm (Bi c) (As c) (BL c) (AL c) (He (7 * c + 6)) mo)) (by rw [← f_tie_oq hQ]; unfold f_oq; rw [if_pos (by omega)]; split <;> omega) ?_
            refine jj_lv [1, 2, 3, 4, 5, 6, 7, 8, 9, 10, 11, 12, 13, 14, 15, 16, 17, 18, 19, 20, 21, 22, 23] rfl ?_
            exact j1101 () trivial
          · refine jj_iconst C0 dL_law_1095 ?_
            refine jj_goto C0 (tgt := 1101) dL_law_1096 (by decide) ?_
            refine jj_topi (b := (f_oq (1 + x1) lm (Bi c) (As c) (BL c) (AL c) (He (7 * c + 6)) mo)) (by rw [← f_tie_oq hQ]; unfold f_oq; rw [if_pos (by omega)]; split <;> omega) ?_
            refine jj_lv [1, 2, 3, 4, 5, 6, 7, 8, 9, 10, 11, 12, 13, 14, 15, 16, 17, 18, 19, 20, 21, 22, 23] rfl ?_
            exact j1101 () trivial
        · refine jj_iload C0 0 rfl dL_law_1085 ?_
          refine jj_goto C0 (tgt := 1101) dL_law_1087 (by decide) ?_
          refine jj_topi (b := (f_oq (1 + x1) lm (Bi c) (As c) (BL c) (AL c) (He (7 * c + 6)) mo)) (by rw [← f_tie_oq hQ]; unfold f_oq; rw [if_pos (by omega)]; split <;> omega) ?_
          refine jj_lv [1, 2, 3, 4, 5, 6, 7, 8, 9, 10, 11, 12, 13, 14, 15, 16, 17, 18, 19, 20, 21, 22, 23] rfl ?_
          exact j1101 () trivial
      · refine jj_iload C0 0 rfl dL_law_1069 ?_
        refine jj_goto C0 (tgt := 1076) dL_law_1071 (by decide) ?_
        refine jj_istore C0 (lv' := [(34, .int (iI (AL c))), (33, .int (iI (AL c))), (32, .int (iI ((He (7 * c + 6)) + mo))), (31, .int (iI lm)), (30, .int (iI 1)), (29, .int (iI (1 + x1))), (18, .int (iI (-1))), (17, .int (iI 1)), (16, .int (iI 1)), (14, .long (lI (f_W up dn dv td n K St Ex Am He Ca sh pr))), (13, .int (iI (w9 : Int))), (12, .int (iI (c : Int))), (11, .int (iI u9)), (10, .int (iI v9)), (9, .int (iI (t : Int))), (8, .ref (ka 6)), (7, .ref (ka 5)), (6, .ref (ka 4)), (5, .ref (ka 3)), (4, .ref (ka 2)), (3, .ref (ka 1)), (2, .ref (ka 0)), (1, .ref (ha 0)), (0, .ref b)]) (by decide) rfl dL_law_1076 ?_
        refine jj_iload C0 0 rfl dL_law_1078 ?_
        refine jj_iload C0 2 rfl dL_law_1080 ?_
        refine jj_icmp_ge C0 (by omega) (by omega) dL_law_1082 (tgt := 1090) (by decide) (fun c_13 => ?_) (fun c_13 => ?_)
        · refine jj_iload C0 2 rfl dL_law_1090 ?_
          refine jj_if_ge C0 (by omega) dL_law_1092 (tgt := 1099) (by decide) (fun c_14 => ?_) (fun c_14 => ?_)
          · refine jj_iload C0 2 rfl dL_law_1099 ?_
            refine jj_topi (b := (f_oq (1 + x1) lm (Bi c) (As c) (BL c) (AL c) (He (7 * c + 6)) mo)) (by rw [← f_tie_oq hQ]; unfold f_oq; rw [if_pos (by omega)]; split <;> omega) ?_
            refine jj_lv [1, 2, 3, 4, 5, 6, 7, 8, 9, 10, 11, 12, 13, 14, 15, 16, 17, 18, 19, 20, 21, 22, 23] rfl ?_
            exact j1101 () trivial
          · refine jj_iconst C0 dL_law_1095 ?_
            refine jj_goto C0 (tgt := 1101) dL_law_1096 (by decide) ?_
            refine jj_topi (b := (f_oq (1 + x1) lm (Bi c) (As c) (BL c) (AL c) (He (7 * c + 6)) mo)) (by rw [← f_tie_oq hQ]; unfold f_oq; rw [if_pos (by omega)]; split <;> omega) ?_
            refine jj_lv [1, 2, 3, 4, 5, 6, 7, 8, 9, 10, 11, 12, 13, 14, 15, 16, 17, 18, 19, 20, 21, 22, 23] rfl ?_
            exact j1101 () trivial
        · refine jj_iload C0 0 rfl dL_law_1085 ?_
          refine jj_goto C0 (tgt := 1101) dL_law_1087 (by decide) ?_
          refine jj_topi (b := (f_oq (1 + x1) lm (Bi c) (As c) (BL c) (AL c) (He (7 * c + 6)) mo)) (by rw [← f_tie_oq hQ]; unfold f_oq; rw [if_pos (by omega)]; split <;> omega) ?_
          refine jj_lv [1, 2, 3, 4, 5, 6, 7, 8, 9, 10, 11, 12, 13, 14, 15, 16, 17, 18, 19, 20, 21, 22, 23] rfl ?_
          exact j1101 () trivial
    · refine jj_iconst C0 dL_law_1035 ?_
      refine jj_goto C0 (tgt := 1060) dL_law_1036 (by decide) ?_
      refine jj_istore C0 (lv' := [(34, .int (iI 0)), (33, .int (iI (AL c))), (32, .int (iI ((He (7 * c + 6)) + mo))), (31, .int (iI lm)), (30, .int (iI 1)), (29, .int (iI (1 + x1))), (18, .int (iI (-1))), (17, .int (iI 1)), (16, .int (iI 1)), (14, .long (lI (f_W up dn dv td n K St Ex Am He Ca sh pr))), (13, .int (iI (w9 : Int))), (12, .int (iI (c : Int))), (11, .int (iI u9)), (10, .int (iI v9)), (9, .int (iI (t : Int))), (8, .ref (ka 6)), (7, .ref (ka 5)), (6, .ref (ka 4)), (5, .ref (ka 3)), (4, .ref (ka 2)), (3, .ref (ka 1)), (2, .ref (ka 0)), (1, .ref (ha 0)), (0, .ref b)]) (by decide) rfl dL_law_1060 ?_
      refine jj_iload C0 0 rfl dL_law_1062 ?_
      refine jj_iload C0 5 rfl dL_law_1064 ?_
      refine jj_icmp_ge C0 (by omega) (by omega) dL_law_1066 (tgt := 1074) (by decide) (fun c_15 => ?_) (fun c_15 => ?_)
      · refine jj_iload C0 5 rfl dL_law_1074 ?_
        refine jj_istore C0 (lv' := [(34, .int (iI (1 + x1))), (33, .int (iI (AL c))), (32, .int (iI ((He (7 * c + 6)) + mo))), (31, .int (iI lm)), (30, .int (iI 1)), (29, .int (iI (1 + x1))), (18, .int (iI (-1))), (17, .int (iI 1)), (16, .int (iI 1)), (14, .long (lI (f_W up dn dv td n K St Ex Am He Ca sh pr))), (13, .int (iI (w9 : Int))), (12, .int (iI (c : Int))), (11, .int (iI u9)), (10, .int (iI v9)), (9, .int (iI (t : Int))), (8, .ref (ka 6)), (7, .ref (ka 5)), (6, .ref (ka 4)), (5, .ref (ka 3)), (4, .ref (ka 2)), (3, .ref (ka 1)), (2, .ref (ka 0)), (1, .ref (ha 0)), (0, .ref b)]) (by decide) rfl dL_law_1076 ?_
        refine jj_iload C0 0 rfl dL_law_1078 ?_
        refine jj_iload C0 2 rfl dL_law_1080 ?_
        refine jj_icmp_ge C0 (by omega) (by omega) dL_law_1082 (tgt := 1090) (by decide) (fun c_16 => ?_) (fun c_16 => ?_)
        · refine jj_iload C0 2 rfl dL_law_1090 ?_
          refine jj_if_ge C0 (by omega) dL_law_1092 (tgt := 1099) (by decide) (fun c_17 => ?_) (fun c_17 => ?_)
          · refine jj_iload C0 2 rfl dL_law_1099 ?_
            refine jj_topi (b := (f_oq (1 + x1) lm (Bi c) (As c) (BL c) (AL c) (He (7 * c + 6)) mo)) (by rw [← f_tie_oq hQ]; unfold f_oq; rw [if_pos (by omega)]; split <;> omega) ?_
            refine jj_lv [1, 2, 3, 4, 5, 6, 7, 8, 9, 10, 11, 12, 13, 14, 15, 16, 17, 18, 19, 20, 21, 22, 23] rfl ?_
            exact j1101 () trivial
          · refine jj_iconst C0 dL_law_1095 ?_
            refine jj_goto C0 (tgt := 1101) dL_law_1096 (by decide) ?_
            refine jj_topi (b := (f_oq (1 + x1) lm (Bi c) (As c) (BL c) (AL c) (He (7 * c + 6)) mo)) (by rw [← f_tie_oq hQ]; unfold f_oq; rw [if_pos (by omega)]; split <;> omega) ?_
            refine jj_lv [1, 2, 3, 4, 5, 6, 7, 8, 9, 10, 11, 12, 13, 14, 15, 16, 17, 18, 19, 20, 21, 22, 23] rfl ?_
            exact j1101 () trivial
        · refine jj_iload C0 0 rfl dL_law_1085 ?_
          refine jj_goto C0 (tgt := 1101) dL_law_1087 (by decide) ?_
          refine jj_topi (b := (f_oq (1 + x1) lm (Bi c) (As c) (BL c) (AL c) (He (7 * c + 6)) mo)) (by rw [← f_tie_oq hQ]; unfold f_oq; rw [if_pos (by omega)]; split <;> omega) ?_
          refine jj_lv [1, 2, 3, 4, 5, 6, 7, 8, 9, 10, 11, 12, 13, 14, 15, 16, 17, 18, 19, 20, 21, 22, 23] rfl ?_
          exact j1101 () trivial
      · refine jj_iload C0 0 rfl dL_law_1069 ?_
        refine jj_goto C0 (tgt := 1076) dL_law_1071 (by decide) ?_
        refine jj_istore C0 (lv' := [(34, .int (iI 0)), (33, .int (iI (AL c))), (32, .int (iI ((He (7 * c + 6)) + mo))), (31, .int (iI lm)), (30, .int (iI 1)), (29, .int (iI (1 + x1))), (18, .int (iI (-1))), (17, .int (iI 1)), (16, .int (iI 1)), (14, .long (lI (f_W up dn dv td n K St Ex Am He Ca sh pr))), (13, .int (iI (w9 : Int))), (12, .int (iI (c : Int))), (11, .int (iI u9)), (10, .int (iI v9)), (9, .int (iI (t : Int))), (8, .ref (ka 6)), (7, .ref (ka 5)), (6, .ref (ka 4)), (5, .ref (ka 3)), (4, .ref (ka 2)), (3, .ref (ka 1)), (2, .ref (ka 0)), (1, .ref (ha 0)), (0, .ref b)]) (by decide) rfl dL_law_1076 ?_
        refine jj_iload C0 0 rfl dL_law_1078 ?_
        refine jj_iload C0 2 rfl dL_law_1080 ?_
        refine jj_icmp_ge C0 (by omega) (by omega) dL_law_1082 (tgt := 1090) (by decide) (fun c_18 => ?_) (fun c_18 => ?_)
        · refine jj_iload C0 2 rfl dL_law_1090 ?_
          refine jj_if_ge C0 (by omega) dL_law_1092 (tgt := 1099) (by decide) (fun c_19 => ?_) (fun c_19 => ?_)
          · refine jj_iload C0 2 rfl dL_law_1099 ?_
            refine jj_topi (b := (f_oq (1 + x1) lm (Bi c) (As c) (BL c) (AL c) (He (7 * c + 6)) mo)) (by rw [← f_tie_oq hQ]; unfold f_oq; rw [if_pos (by omega)]; split <;> omega) ?_
            refine jj_lv [1, 2, 3, 4, 5, 6, 7, 8, 9, 10, 11, 12, 13, 14, 15, 16, 17, 18, 19, 20, 21, 22, 23] rfl ?_
            exact j1101 () trivial
          · refine jj_iconst C0 dL_law_1095 ?_
            refine jj_goto C0 (tgt := 1101) dL_law_1096 (by decide) ?_
            refine jj_topi (b := (f_oq (1 + x1) lm (Bi c) (As c) (BL c) (AL c) (He (7 * c + 6)) mo)) (by rw [← f_tie_oq hQ]; unfold f_oq; rw [if_pos (by omega)]; split <;> omega) ?_
            refine jj_lv [1, 2, 3, 4, 5, 6, 7, 8, 9, 10, 11, 12, 13, 14, 15, 16, 17, 18, 19, 20, 21, 22, 23] rfl ?_
            exact j1101 () trivial
        · refine jj_iload C0 0 rfl dL_law_1085 ?_
          refine jj_goto C0 (tgt := 1101) dL_law_1087 (by decide) ?_
          refine jj_topi (b := (f_oq (1 + x1) lm (Bi c) (As c) (BL c) (AL c) (He (7 * c + 6)) mo)) (by rw [← f_tie_oq hQ]; unfold f_oq; rw [if_pos (by omega)]; split <;> omega) ?_
          refine jj_lv [1, 2, 3, 4, 5, 6, 7, 8, 9, 10, 11, 12, 13, 14, 15, 16, 17, 18, 19, 20, 21, 22, 23] rfl ?_
          exact j1101 () trivial
  intro j949
  refine jj_iload C0 0 rfl dL_law_938 ?_
  refine jj_if_ge C0 (by omega) dL_law_940 (tgt := 947) (by decide) (fun c_20 => ?_) (fun c_20 => ?_)
  · refine jj_iload C0 0 rfl dL_law_947 ?_
    exact j949 lm0 (by omega)
  · refine jj_iconst C0 dL_law_943 ?_
    refine jj_goto C0 (tgt := 949) dL_law_944 (by decide) ?_
    exact j949 0 (by omega)
set_option maxHeartbeats 4000000 in
set_option maxRecDepth 100000 in
theorem lq_orE (hC9 : f_C9 p l s m args meth c9 dC dI A cI cJ cZ cO es mi sa b L xs) (hcs : cells + 100 ≤ 600104 ∧ slots + 4000 ≤ 7301314) (hk9 : k9 ≤ 89) (ht9 : t ≤ 89) (hI : f_IV k9 td n pr up dn dv sd mo sh Ca K St Ex Am Ov Bi As Bj Aj BL AL He Co) (hJ : f_JV t td n pr dv sh St Ex Bj Aj) (hcc : f_JC Ov Co Cj) (hG : f_LG cO es n ed cA GG) (hu9 : iR u9) (hv9 : iR v9) (kK : f_K9 p l e s m args below meth c9 dC dI A Q ha ka cI cJ cZ cO es b k9 t u9 cells slots) {x1 : Int} (hcn : c < n) (hww : w9 ≤ 5) (hov0 : Ov c = 0) (hx4 : 0 ≤ x1 ∧ x1 < 40) : jj_W p l e room_1 s m args below meth c9 (dC, dI) vwCl A 46 cells slots Q 900 [(29, .int (iI (1 + x1))), (18, .int (iI (-1))), (17, .int (iI 1)), (16, .int (iI 0)), (14, .long (lI (f_W up dn dv td n K St Ex Am He Ca sh pr))), (13, .int (iI (w9 : Int))), (12, .int (iI (c : Int))), (11, .int (iI u9)), (10, .int (iI v9)), (9, .int (iI (t : Int))), (8, .ref (ka 6)), (7, .ref (ka 5)), (6, .ref (ka 4)), (5, .ref (ka 3)), (4, .ref (ka 2)), (3, .ref (ka 1)), (2, .ref (ka 0)), (1, .ref (ha 0)), (0, .ref b)] [] (wH ha cA hA nA ed cI cJ cZ td pr up dn dv rw sd mc n mo sh co Ca Cz K St Ex Am Bi As BL AL He Co ++ (GG ++ wL ka cI cJ td pr up dn mo sh co n K St Ex Am Ov Bj Aj BL AL He Cj dv Ca sd Cz)) := by
  obtain ⟨C0, hl, hL⟩ := hC9
  have hw := C0.2.2.2.2.1
  have hEV := hEVS es mi sa b L xs
  have hED0 : 0 < n → f_ED cA n ed cO GG := fun h9 => by have h8 := f_LG_ED (M := []) hG h9; rwa [List.append_nil] at h8
  have hCj9 := hcc.1
  have hV := hI
  obtain ⟨⟨htd, hn, hpr, hup, hdn, hdv, hsd, hmo, hsh⟩, ⟨hK, hSt, hEx, hAm, hOv, hovs, hexs, hovn⟩, hQ9, ⟨hHe, hsums, hHz⟩, ⟨hCo, hCz⟩, hCa⟩ := hI
  have hQ := hQ9
  obtain ⟨hBi, hAs, hBj, hAj, hBL, hAL, hQt, hQ0, hQn, hQo⟩ := hQ9
  have hW9 := hJ
  obtain ⟨hn6, htd5, hex5, hSp, hdv9, hBA, hsh9⟩ := hJ
  have hexs1 : ∀ c, c < n → Ex c ≤ (td : Int) + 10 := fun c hc => (hexs c hc).1
  have hHe9 : ∀ j, -999000 ≤ He j ∧ He j ≤ 999000 := fun j => by have := hHe j; omega
  have hHe6 : ∀ j, -1000000 ≤ He j ∧ He j ≤ 1000000 := fun j => by have := hHe j; omega
  have hCa9 : ∀ j, -100000000000000000 ≤ Ca j ∧ Ca j ≤ 100000000000000000 := fun j => by have := hCa j; omega
  have hov5 : ∀ c, c < n → (Ov c = 1 ∧ Ex c < (td : Int)) ∨ (Ov c = 0 ∧ (td : Int) ≤ Ex c ∧ Ex c ≤ (td : Int) + 5) := fun c hc => by have h1 := hovs c hc; have h2 := hex5 c hc; omega
  have hovw : ∀ c, c < n → He (7 * c + 6) = 0 ∨ (Ov c = 1 ∧ Ex c < (td : Int)) ∨ (Ov c = 0 ∧ (td : Int) ≤ Ex c ∧ Ex c ≤ (td : Int) + 5) := fun c hc => Or.inr (hov5 c hc)
  have hov1 := hovs c hcn
  refine jj_iconst C0 dL_law_900 ?_
  refine jj_istore C0 (lv' := [(30, .int (iI 0)), (29, .int (iI (1 + x1))), (18, .int (iI (-1))), (17, .int (iI 1)), (16, .int (iI 0)), (14, .long (lI (f_W up dn dv td n K St Ex Am He Ca sh pr))), (13, .int (iI (w9 : Int))), (12, .int (iI (c : Int))), (11, .int (iI u9)), (10, .int (iI v9)), (9, .int (iI (t : Int))), (8, .ref (ka 6)), (7, .ref (ka 5)), (6, .ref (ka 4)), (5, .ref (ka 3)), (4, .ref (ka 2)), (3, .ref (ka 1)), (2, .ref (ka 0)), (1, .ref (ha 0)), (0, .ref b)]) (by decide) rfl dL_law_901 ?_
  refine jj_iload C0 0 rfl dL_law_903 ?_
  refine jj_if_eq C0 (by omega) dL_law_905 (tgt := 919) (by decide) (fun c_1 => ?_) (fun c_1 => absurd c_1 (by omega))
  refine jj_aload C0 14 rfl dL_law_919 ?_
  refine jj_iload C0 7 rfl dL_law_921 ?_
  refine jj_toLw ?_
  refine jj_iald C0 (q0 := 3) (t0 := 0) (f := (f_lq Bj Aj BL AL)) (rfl) rfl (k := c) (by omega) (by omega) (by decide) dL_law_923 ?_
  refine jj_topi (b := (Bj c)) (f_lq_Bi (by omega)) ?_
  refine jj_iload C0 8 rfl dL_law_924 ?_
  refine jj_bipush C0 dL_law_926 (by decide) ?_
  refine jj_ishrX C0 dL_law_928 ?_
  have hR928 := f_sr_R u9 12
  refine jj_iconst C0 dL_law_929 ?_
  refine jj_callSi C0 (cells' := cells) (slots' := slots) (cc_L_low hEV (v := (f_sr u9 12)) (m := 5) (by omega)) (cwS 2 hw (lw_gS hU_167 hU_168 hU_42 hU_169) rfl rfl rfl (by decide +kernel) ⟨Nat.le_of_ble_eq_true rfl, Nat.le_of_ble_eq_true rfl⟩) rfl rfl (Nat.le_of_ble_eq_true rfl) ⟨by show cells + 0 ≤ 600104; omega, by show slots + 0 ≤ 7301314; omega⟩ rfl rfl dL_law_930 ?_
  intro _ hu
  show jj_W _ _ _ _ _ _ _ _ _ _ _ _ _ _ _ _ _ 933 _ [.int (iI (f_lo (f_sr u9 12) 5)), .int (iI (Bj c))] (wL ka cI cJ td pr up dn mo sh co n K St Ex Am Ov Bj Aj BL AL He Cj dv Ca sd Cz ++ (wH ha cA hA nA ed cI cJ cZ td pr up dn dv rw sd mc n mo sh co Ca Cz K St Ex Am Bi As BL AL He Co ++ GG))
  obtain ⟨x2, hx2⟩ : ∃ z : Int, z = (f_lo (f_sr u9 12) 5) := ⟨_, rfl⟩
  have hbx2 : 0 ≤ x2 ∧ x2 < 5 := by rw [hx2]; exact f_lo_bd _ (by omega)
  refine jj_topi (b := x2) (hx2.symm) ?_
  refine jj_iadd C0 dL_law_933 ?_
  refine jj_iconst C0 dL_law_934 ?_
  refine jj_isub C0 dL_law_935 ?_
  obtain ⟨lm0, hlm0⟩ : ∃ z : Int, z = (((Bj c) + x2) - 2) := ⟨_, rfl⟩
  have hba := hBA c
  have hbb := hBj c
  have hbc := hAj c
  have hbd := hBL c
  have hbe := hAL c
  have hbf := hHe9 (7 * c + 6)
  have hbg := hHe9 (7 * c + w9)
  refine jj_topi (b := lm0) (hlm0.symm) ?_
  refine jj_istore C0 (lv' := [(31, .int (iI lm0)), (30, .int (iI 0)), (29, .int (iI (1 + x1))), (18, .int (iI (-1))), (17, .int (iI 1)), (16, .int (iI 0)), (14, .long (lI (f_W up dn dv td n K St Ex Am He Ca sh pr))), (13, .int (iI (w9 : Int))), (12, .int (iI (c : Int))), (11, .int (iI u9)), (10, .int (iI v9)), (9, .int (iI (t : Int))), (8, .ref (ka 6)), (7, .ref (ka 5)), (6, .ref (ka 4)), (5, .ref (ka 3)), (4, .ref (ka 2)), (3, .ref (ka 1)), (2, .ref (ka 0)), (1, .ref (ha 0)), (0, .ref b)]) (by decide) rfl dL_law_936 ?_
  refine jj_join (X := Int) (pcj := 949) (fun q9 => match q9 with | lm => [(31, .int (iI lm0)), (30, .int (iI 0)), (29, .int (iI (1 + x1))), (18, .int (iI (-1))), (17, .int (iI 1)), (16, .int (iI 0)), (14, .long (lI (f_W up dn dv td n K St Ex Am He Ca sh pr))), (13, .int (iI (w9 : Int))), (12, .int (iI (c : Int))), (11, .int (iI u9)), (10, .int (iI v9)), (9, .int (iI (t : Int))), (8, .ref (ka 6)), (7, .ref (ka 5)), (6, .ref (ka 4)), (5, .ref (ka 3)), (4, .ref (ka 2)), (3, .ref (ka 1)), (2, .ref (ka 0)), (1, .ref (ha 0)), (0, .ref b)]) (fun q9 => match q9 with | lm => [.int (iI lm)]) (fun q9 => match q9 with | lm => wL ka cI cJ td pr up dn mo sh co n K St Ex Am Ov Bj Aj BL AL He Cj dv Ca sd Cz ++ (wH ha cA hA nA ed cI cJ cZ td pr up dn dv rw sd mc n mo sh co Ca Cz K St Ex Am Bi As BL AL He Co ++ GG)) (fun q9 => match q9 with | lm => 0 ≤ lm ∧ lm ≤ 20000) ?_ ?_
  · intro q9 hq9
    obtain ⟨lm, rfl⟩ : ∃ z, z = q9 := ⟨_, rfl⟩
    have hlm : 0 ≤ lm ∧ lm ≤ 20000 := hq9
    refine jj_istore C0 (lv' := [(31, .int (iI lm)), (30, .int (iI 0)), (29, .int (iI (1 + x1))), (18, .int (iI (-1))), (17, .int (iI 1)), (16, .int (iI 0)), (14, .long (lI (f_W up dn dv td n K St Ex Am He Ca sh pr))), (13, .int (iI (w9 : Int))), (12, .int (iI (c : Int))), (11, .int (iI u9)), (10, .int (iI v9)), (9, .int (iI (t : Int))), (8, .ref (ka 6)), (7, .ref (ka 5)), (6, .ref (ka 4)), (5, .ref (ka 3)), (4, .ref (ka 2)), (3, .ref (ka 1)), (2, .ref (ka 0)), (1, .ref (ha 0)), (0, .ref b)]) (by decide) rfl dL_law_949 ?_
    refine jj_iload C0 1 rfl dL_law_951 ?_
    refine jj_if_eq C0 (by omega) dL_law_953 (tgt := 974) (by decide) (fun c_2 => ?_) (fun c_2 => absurd c_2 (by omega))
    refine jj_aload C0 14 rfl dL_law_974 ?_
    refine jj_iconst C0 dL_law_976 ?_
    refine jj_iald C0 (q0 := 4) (t0 := 0) (f := (f_lg td pr up dn mo sh co n)) (rfl) rfl (k := 4) (by omega) (by omega) (by decide) dL_law_977 ?_
    refine jj_topi (b := mo) (rfl) ?_
    refine jj_aload_n C0 17 rfl dL_law_978 ?_
    refine jj_bipush C0 dL_law_979 (by decide) ?_
    refine jj_iload C0 8 rfl dL_law_981 ?_
    refine jj_imul C0 dL_law_983 ?_
    refine jj_bipush C0 dL_law_984 (by decide) ?_
    refine jj_iadd C0 dL_law_986 ?_
    refine jj_iald C0 (q0 := 1) (t0 := 0) (f := (f_lh He)) (rfl) rfl (k := ((10 * c) + 6)) (by omega) (by omega) (by decide) dL_law_987 ?_
    refine jj_topi (b := (He (7 * c + 6))) (f_lh_at (by omega)) ?_
    refine jj_isub C0 dL_law_988 ?_
    refine jj_istore C0 (lv' := [(32, .int (iI (mo - (He (7 * c + 6))))), (31, .int (iI lm)), (30, .int (iI 0)), (29, .int (iI (1 + x1))), (18, .int (iI (-1))), (17, .int (iI 1)), (16, .int (iI 0)), (14, .long (lI (f_W up dn dv td n K St Ex Am He Ca sh pr))), (13, .int (iI (w9 : Int))), (12, .int (iI (c : Int))), (11, .int (iI u9)), (10, .int (iI v9)), (9, .int (iI (t : Int))), (8, .ref (ka 6)), (7, .ref (ka 5)), (6, .ref (ka 4)), (5, .ref (ka 3)), (4, .ref (ka 2)), (3, .ref (ka 1)), (2, .ref (ka 0)), (1, .ref (ha 0)), (0, .ref b)]) (by decide) rfl dL_law_989 ?_
    refine jj_iload C0 2 rfl dL_law_991 ?_
    refine jj_if_eq C0 (by omega) dL_law_993 (tgt := 1007) (by decide) (fun c_3 => ?_) (fun c_3 => absurd c_3 (by omega))
    refine jj_aload C0 16 rfl dL_law_1007 ?_
    refine jj_bipush C0 dL_law_1009 (by decide) ?_
    refine jj_iload C0 9 rfl dL_law_1011 ?_
    refine jj_iadd C0 dL_law_1013 ?_
    refine jj_iald C0 (q0 := 3) (t0 := 0) (f := (f_lq Bj Aj BL AL)) (rfl) rfl (k := (12 + c)) (by omega) (by omega) (by decide) dL_law_1014 ?_
    refine jj_topi (b := (BL c)) (f_lq_BL (by omega)) ?_
    refine jj_istore C0 (lv' := [(33, .int (iI (BL c))), (32, .int (iI (mo - (He (7 * c + 6))))), (31, .int (iI lm)), (30, .int (iI 0)), (29, .int (iI (1 + x1))), (18, .int (iI (-1))), (17, .int (iI 1)), (16, .int (iI 0)), (14, .long (lI (f_W up dn dv td n K St Ex Am He Ca sh pr))), (13, .int (iI (w9 : Int))), (12, .int (iI (c : Int))), (11, .int (iI u9)), (10, .int (iI v9)), (9, .int (iI (t : Int))), (8, .ref (ka 6)), (7, .ref (ka 5)), (6, .ref (ka 4)), (5, .ref (ka 3)), (4, .ref (ka 2)), (3, .ref (ka 1)), (2, .ref (ka 0)), (1, .ref (ha 0)), (0, .ref b)]) (by decide) rfl dL_law_1015 ?_
    refine jj_join (X := Unit) (pcj := 1101) (fun q9 => match q9 with | () => [(33, .int (iI (BL c))), (32, .int (iI (mo - (He (7 * c + 6))))), (31, .int (iI lm)), (30, .int (iI 0)), (29, .int (iI (1 + x1))), (18, .int (iI (-1))), (17, .int (iI 1)), (16, .int (iI 0)), (14, .long (lI (f_W up dn dv td n K St Ex Am He Ca sh pr))), (13, .int (iI (w9 : Int))), (12, .int (iI (c : Int))), (11, .int (iI u9)), (10, .int (iI v9)), (9, .int (iI (t : Int))), (8, .ref (ka 6)), (7, .ref (ka 5)), (6, .ref (ka 4)), (5, .ref (ka 3)), (4, .ref (ka 2)), (3, .ref (ka 1)), (2, .ref (ka 0)), (1, .ref (ha 0)), (0, .ref b)]) (fun q9 => match q9 with | () => [.int (iI (-(f_oq (-(1 + x1)) lm (Bi c) (As c) (BL c) (AL c) (He (7 * c + 6)) mo)))]) (fun q9 => match q9 with | () => wL ka cI cJ td pr up dn mo sh co n K St Ex Am Ov Bj Aj BL AL He Cj dv Ca sd Cz ++ (wH ha cA hA nA ed cI cJ cZ td pr up dn dv rw sd mc n mo sh co Ca Cz K St Ex Am Bi As BL AL He Co ++ GG)) (fun q9 => match q9 with | () => True) ?_ ?_
    · intro q9 hq9
      obtain ⟨⟩ := q9
      have _ : True := hq9
      refine jj_istore C0 (lv' := [(34, .int (iI (-(f_oq (-(1 + x1)) lm (Bi c) (As c) (BL c) (AL c) (He (7 * c + 6)) mo)))), (33, .int (iI (BL c))), (32, .int (iI (mo - (He (7 * c + 6))))), (31, .int (iI lm)), (30, .int (iI 0)), (29, .int (iI (1 + x1))), (18, .int (iI (-1))), (17, .int (iI 1)), (16, .int (iI 0)), (14, .long (lI (f_W up dn dv td n K St Ex Am He Ca sh pr))), (13, .int (iI (w9 : Int))), (12, .int (iI (c : Int))), (11, .int (iI u9)), (10, .int (iI v9)), (9, .int (iI (t : Int))), (8, .ref (ka 6)), (7, .ref (ka 5)), (6, .ref (ka 4)), (5, .ref (ka 3)), (4, .ref (ka 2)), (3, .ref (ka 1)), (2, .ref (ka 0)), (1, .ref (ha 0)), (0, .ref b)]) (by decide) rfl dL_law_1101 ?_
      have hx0 : ¬ 0 < (-(1 + x1)) := by omega
      have hb9 := f_oq_bd (x := (-(1 + x1))) (y := lm) (bi := Bi c) (ak := As c) (bl := BL c) (al := AL c) (he := He (7 * c + 6)) (mo := mo) (by omega) (hBL c).1 (hAL c).1
      refine jj_aload_n C0 22 rfl dL_law_1103 ?_
      refine jj_iload C0 10 rfl dL_law_1104 ?_
      refine jj_iload C0 11 rfl dL_law_1106 ?_
      refine jj_iload C0 4 rfl dL_law_1108 ?_
      refine jj_if_eq C0 (by omega) dL_law_1110 (tgt := 1118) (by decide) (fun c_4 => ?_) (fun c_4 => absurd c_4 (by omega))
      refine jj_iload C0 5 rfl dL_law_1118 ?_
      refine jj_ineg C0 dL_law_1120 ?_
      refine jj_iload C0 3 rfl dL_law_1121 ?_
      refine jj_toHw ?_
      refine jj_callSWi C0 (cells' := cells) (slots' := slots) (jj_weaki (fun A U H h => h.1.1) (cw_L_order hl (k := w9) (c := c) (x := (-(1 + x1))) (y := lm) (by omega) (by omega) (by omega) (by omega) (hQ0 c) (by omega) hHe9 hBi hAs hBL hAL hmo hpr hexs1 hn htd hup hdn hdv hK hSt hEx hAm hsh (fun h9 => f_ED_app (hED0 h9)))) (vx_cwSW 5 hw (lw_gW hU_558 hU_559 hU_42 hU_560) rfl rfl rfl (by decide +kernel) ⟨Nat.le_of_ble_eq_true rfl, Nat.le_of_ble_eq_true rfl⟩) rfl rfl (Nat.le_of_ble_eq_true rfl) ⟨by show cells + 0 ≤ 600104; omega, by show slots + 0 ≤ 7301314; omega⟩ rfl rfl dL_law_1123 ?_
      intro r8_5 hu
      show jj_W _ _ _ _ _ _ _ _ _ _ _ _ _ _ _ _ _ 1126 _ [.int (iI (if 0 < (-(1 + x1)) then (f_oq (-(1 + x1)) lm (Bi c) (As c) (BL c) (AL c) (He (7 * c + 6)) mo) else -(f_oq (-(1 + x1)) lm (Bi c) (As c) (BL c) (AL c) (He (7 * c + 6)) mo)))] (wH ha cA hA nA ed cI cJ cZ td pr up dn dv r8_5 sd mc n mo sh co (f_dCa Ca w9 (if 0 < (-(1 + x1)) then As c else Bi c) (f_oq (-(1 + x1)) lm (Bi c) (As c) (BL c) (AL c) (He (7 * c + 6)) mo)) (va_up Cz 0 ((Cz 0) + ((f_W up dn dv td n K St Ex Am (f_dHe He c w9 (f_oq (-(1 + x1)) lm (Bi c) (As c) (BL c) (AL c) (He (7 * c + 6)) mo)) (f_dCa Ca w9 (if 0 < (-(1 + x1)) then As c else Bi c) (f_oq (-(1 + x1)) lm (Bi c) (As c) (BL c) (AL c) (He (7 * c + 6)) mo)) sh pr) - (f_W up dn dv td n K St Ex Am He Ca sh pr)))) K St Ex Am (va_up Bi c (if 0 < (va_up BL c (BL c - (if 0 < (-(1 + x1)) then 0 else -(f_oq (-(1 + x1)) lm (Bi c) (As c) (BL c) (AL c) (He (7 * c + 6)) mo)))) c ∨ 0 < (va_up AL c (AL c - (if 0 < (-(1 + x1)) then (f_oq (-(1 + x1)) lm (Bi c) (As c) (BL c) (AL c) (He (7 * c + 6)) mo) else 0))) c then Bi c else 0)) (va_up As c (if 0 < (va_up BL c (BL c - (if 0 < (-(1 + x1)) then 0 else -(f_oq (-(1 + x1)) lm (Bi c) (As c) (BL c) (AL c) (He (7 * c + 6)) mo)))) c ∨ 0 < (va_up AL c (AL c - (if 0 < (-(1 + x1)) then (f_oq (-(1 + x1)) lm (Bi c) (As c) (BL c) (AL c) (He (7 * c + 6)) mo) else 0))) c then As c else 0)) (va_up BL c (BL c - (if 0 < (-(1 + x1)) then 0 else -(f_oq (-(1 + x1)) lm (Bi c) (As c) (BL c) (AL c) (He (7 * c + 6)) mo)))) (va_up AL c (AL c - (if 0 < (-(1 + x1)) then (f_oq (-(1 + x1)) lm (Bi c) (As c) (BL c) (AL c) (He (7 * c + 6)) mo) else 0))) (f_dHe He c w9 (f_oq (-(1 + x1)) lm (Bi c) (As c) (BL c) (AL c) (He (7 * c + 6)) mo)) Co ++ (GG ++ wL ka cI cJ td pr up dn mo sh co n K St Ex Am Ov Bj Aj BL AL He Cj dv Ca sd Cz))
      refine jj_iload C0 8 rfl dL_law_1126 ?_
      refine jj_if_eq C0 (by omega) dL_law_1128 (tgt := 1136) (by decide) (fun c_6 => ?_) (fun c_6 => absurd c_6 (by omega))
      refine jj_iload C0 0 rfl dL_law_1136 ?_
      refine jj_topi (b := (if 0 < (-(1 + x1)) then (f_oq (-(1 + x1)) lm (Bi c) (As c) (BL c) (AL c) (He (7 * c + 6)) mo) else -(f_oq (-(1 + x1)) lm (Bi c) (As c) (BL c) (AL c) (He (7 * c + 6)) mo))) ((by rw [if_neg hx0])) ?_
      refine jj_icmpN C0 dL_law_1138 (tgt := 1145) (by decide) ?_
      refine jj_iconst C0 dL_law_1141 ?_
      refine jj_goto C0 (tgt := 1146) dL_law_1142 (by decide) ?_
      refine jj_istore C0 (lv' := [(17, .int (iI 1)), (34, .int (iI (-(f_oq (-(1 + x1)) lm (Bi c) (As c) (BL c) (AL c) (He (7 * c + 6)) mo)))), (33, .int (iI (BL c))), (32, .int (iI (mo - (He (7 * c + 6))))), (31, .int (iI lm)), (30, .int (iI 0)), (29, .int (iI (1 + x1))), (18, .int (iI (-1))), (16, .int (iI 0)), (14, .long (lI (f_W up dn dv td n K St Ex Am He Ca sh pr))), (13, .int (iI (w9 : Int))), (12, .int (iI (c : Int))), (11, .int (iI u9)), (10, .int (iI v9)), (9, .int (iI (t : Int))), (8, .ref (ka 6)), (7, .ref (ka 5)), (6, .ref (ka 4)), (5, .ref (ka 3)), (4, .ref (ka 2)), (3, .ref (ka 1)), (2, .ref (ka 0)), (1, .ref (ha 0)), (0, .ref b)]) (by decide) rfl dL_law_1146 ?_
      refine jj_iload C0 8 rfl dL_law_1148 ?_
      refine jj_if_eq C0 (by omega) dL_law_1150 (tgt := 1156) (by decide) (fun c_7 => ?_) (fun c_7 => absurd c_7 (by omega))
      refine jj_aload C0 18 rfl dL_law_1156 ?_
      refine jj_iload C0 5 rfl dL_law_1158 ?_
      refine jj_if_eq C0 (by omega) dL_law_1160 (tgt := 1168) (by decide) (fun c_8 => ?_) (fun c_8 => absurd c_8 (by omega))
      refine jj_bipush C0 dL_law_1168 (by decide) ?_
      refine jj_iload C0 11 rfl dL_law_1170 ?_
      refine jj_iadd C0 dL_law_1172 ?_
      refine jj_dup2_11 C0 dL_law_1173 rfl rfl ?_
      refine jj_toLw ?_
      refine jj_iald C0 (q0 := 3) (t0 := 0) (f := (f_lq Bj Aj BL AL)) (rfl) rfl (k := (12 + c)) (by omega) (by omega) (by decide) dL_law_1174 ?_
      refine jj_topi (b := (BL c)) (f_lq_BL (by omega)) ?_
      refine jj_iload C0 1 rfl dL_law_1175 ?_
      refine jj_isub C0 dL_law_1177 ?_
      refine jj_iast C0 (q0 := 3) (t0 := 0) (f := (f_lq Bj Aj BL AL)) (rfl) rfl (k := (12 + c)) (by omega) (by omega) (by decide) (ws' := wL ka cI cJ td pr up dn mo sh co n K St Ex Am Ov Bj Aj (va_up BL c ((BL c) - (-(f_oq (-(1 + x1)) lm (Bi c) (As c) (BL c) (AL c) (He (7 * c + 6)) mo)))) AL He Cj dv Ca sd Cz ++ (wH ha cA hA nA ed cI cJ cZ td pr up dn dv r8_5 sd mc n mo sh co (f_dCa Ca w9 (if 0 < (-(1 + x1)) then As c else Bi c) (f_oq (-(1 + x1)) lm (Bi c) (As c) (BL c) (AL c) (He (7 * c + 6)) mo)) (va_up Cz 0 ((Cz 0) + ((f_W up dn dv td n K St Ex Am (f_dHe He c w9 (f_oq (-(1 + x1)) lm (Bi c) (As c) (BL c) (AL c) (He (7 * c + 6)) mo)) (f_dCa Ca w9 (if 0 < (-(1 + x1)) then As c else Bi c) (f_oq (-(1 + x1)) lm (Bi c) (As c) (BL c) (AL c) (He (7 * c + 6)) mo)) sh pr) - (f_W up dn dv td n K St Ex Am He Ca sh pr)))) K St Ex Am (va_up Bi c (if 0 < (va_up BL c (BL c - (if 0 < (-(1 + x1)) then 0 else -(f_oq (-(1 + x1)) lm (Bi c) (As c) (BL c) (AL c) (He (7 * c + 6)) mo)))) c ∨ 0 < (va_up AL c (AL c - (if 0 < (-(1 + x1)) then (f_oq (-(1 + x1)) lm (Bi c) (As c) (BL c) (AL c) (He (7 * c + 6)) mo) else 0))) c then Bi c else 0)) (va_up As c (if 0 < (va_up BL c (BL c - (if 0 < (-(1 + x1)) then 0 else -(f_oq (-(1 + x1)) lm (Bi c) (As c) (BL c) (AL c) (He (7 * c + 6)) mo)))) c ∨ 0 < (va_up AL c (AL c - (if 0 < (-(1 + x1)) then (f_oq (-(1 + x1)) lm (Bi c) (As c) (BL c) (AL c) (He (7 * c + 6)) mo) else 0))) c then As c else 0)) (va_up BL c (BL c - (if 0 < (-(1 + x1)) then 0 else -(f_oq (-(1 + x1)) lm (Bi c) (As c) (BL c) (AL c) (He (7 * c + 6)) mo)))) (va_up AL c (AL c - (if 0 < (-(1 + x1)) then (f_oq (-(1 + x1)) lm (Bi c) (As c) (BL c) (AL c) (He (7 * c + 6)) mo) else 0))) (f_dHe He c w9 (f_oq (-(1 + x1)) lm (Bi c) (As c) (BL c) (AL c) (He (7 * c + 6)) mo)) Co ++ GG)) (wL_BL (by omega)) dL_law_1178 ?_
      refine jj_iload C0 5 rfl dL_law_1179 ?_
      refine jj_if_eq C0 (by omega) dL_law_1181 (tgt := 1188) (by decide) (fun c_9 => ?_) (fun c_9 => absurd c_9 (by omega))
      refine jj_iconst C0 dL_law_1188 ?_
      refine jj_istore C0 (lv' := [(35, .int (iI (-1))), (17, .int (iI 1)), (34, .int (iI (-(f_oq (-(1 + x1)) lm (Bi c) (As c) (BL c) (AL c) (He (7 * c + 6)) mo)))), (33, .int (iI (BL c))), (32, .int (iI (mo - (He (7 * c + 6))))), (31, .int (iI lm)), (30, .int (iI 0)), (29, .int (iI (1 + x1))), (18, .int (iI (-1))), (16, .int (iI 0)), (14, .long (lI (f_W up dn dv td n K St Ex Am He Ca sh pr))), (13, .int (iI (w9 : Int))), (12, .int (iI (c : Int))), (11, .int (iI u9)), (10, .int (iI v9)), (9, .int (iI (t : Int))), (8, .ref (ka 6)), (7, .ref (ka 5)), (6, .ref (ka 4)), (5, .ref (ka 3)), (4, .ref (ka 2)), (3, .ref (ka 1)), (2, .ref (ka 0)), (1, .ref (ha 0)), (0, .ref b)]) (by decide) rfl dL_law_1189 ?_
      refine jj_aload_n C0 21 rfl dL_law_1191 ?_
      refine jj_bipush C0 dL_law_1192 (by decide) ?_
      refine jj_iload C0 12 rfl dL_law_1194 ?_
      refine jj_imul C0 dL_law_1196 ?_
      refine jj_iload C0 11 rfl dL_law_1197 ?_
      refine jj_iadd C0 dL_law_1199 ?_
      refine jj_dup2_11 C0 dL_law_1200 rfl rfl ?_
      refine jj_iald C0 (q0 := 1) (t0 := 0) (f := (f_lh He)) (rfl) rfl (k := ((10 * c) + w9)) (by omega) (by omega) (by decide) dL_law_1201 ?_
      refine jj_topi (b := (He (7 * c + w9))) (f_lh_at (by omega)) ?_
      refine jj_iload C0 0 rfl dL_law_1202 ?_
      refine jj_iload C0 2 rfl dL_law_1204 ?_
      refine jj_imul C0 dL_law_1206 ?_
      refine jj_iadd C0 dL_law_1207 ?_
      refine jj_topi (b := (He (7 * c + w9) + (f_oq (-(1 + x1)) lm (Bi c) (As c) (BL c) (AL c) (He (7 * c + 6)) mo))) (by omega) ?_
      refine jj_iast C0 (q0 := 1) (t0 := 0) (f := (f_lh He)) (rfl) rfl (k := ((10 * c) + w9)) (by omega) (by omega) (by decide) (ws' := wL ka cI cJ td pr up dn mo sh co n K St Ex Am Ov Bj Aj (va_up BL c ((BL c) - (-(f_oq (-(1 + x1)) lm (Bi c) (As c) (BL c) (AL c) (He (7 * c + 6)) mo)))) AL (va_up He (7 * c + w9) (He (7 * c + w9) + (f_oq (-(1 + x1)) lm (Bi c) (As c) (BL c) (AL c) (He (7 * c + 6)) mo))) Cj dv Ca sd Cz ++ (wH ha cA hA nA ed cI cJ cZ td pr up dn dv r8_5 sd mc n mo sh co (f_dCa Ca w9 (if 0 < (-(1 + x1)) then As c else Bi c) (f_oq (-(1 + x1)) lm (Bi c) (As c) (BL c) (AL c) (He (7 * c + 6)) mo)) (va_up Cz 0 ((Cz 0) + ((f_W up dn dv td n K St Ex Am (f_dHe He c w9 (f_oq (-(1 + x1)) lm (Bi c) (As c) (BL c) (AL c) (He (7 * c + 6)) mo)) (f_dCa Ca w9 (if 0 < (-(1 + x1)) then As c else Bi c) (f_oq (-(1 + x1)) lm (Bi c) (As c) (BL c) (AL c) (He (7 * c + 6)) mo)) sh pr) - (f_W up dn dv td n K St Ex Am He Ca sh pr)))) K St Ex Am (va_up Bi c (if 0 < (va_up BL c (BL c - (if 0 < (-(1 + x1)) then 0 else -(f_oq (-(1 + x1)) lm (Bi c) (As c) (BL c) (AL c) (He (7 * c + 6)) mo)))) c ∨ 0 < (va_up AL c (AL c - (if 0 < (-(1 + x1)) then (f_oq (-(1 + x1)) lm (Bi c) (As c) (BL c) (AL c) (He (7 * c + 6)) mo) else 0))) c then Bi c else 0)) (va_up As c (if 0 < (va_up BL c (BL c - (if 0 < (-(1 + x1)) then 0 else -(f_oq (-(1 + x1)) lm (Bi c) (As c) (BL c) (AL c) (He (7 * c + 6)) mo)))) c ∨ 0 < (va_up AL c (AL c - (if 0 < (-(1 + x1)) then (f_oq (-(1 + x1)) lm (Bi c) (As c) (BL c) (AL c) (He (7 * c + 6)) mo) else 0))) c then As c else 0)) (va_up BL c (BL c - (if 0 < (-(1 + x1)) then 0 else -(f_oq (-(1 + x1)) lm (Bi c) (As c) (BL c) (AL c) (He (7 * c + 6)) mo)))) (va_up AL c (AL c - (if 0 < (-(1 + x1)) then (f_oq (-(1 + x1)) lm (Bi c) (As c) (BL c) (AL c) (He (7 * c + 6)) mo) else 0))) (f_dHe He c w9 (f_oq (-(1 + x1)) lm (Bi c) (As c) (BL c) (AL c) (He (7 * c + 6)) mo)) Co ++ GG)) (wL_He (by omega)) dL_law_1208 ?_
      refine jj_aload_n C0 21 rfl dL_law_1209 ?_
      refine jj_bipush C0 dL_law_1210 (by decide) ?_
      refine jj_iload C0 12 rfl dL_law_1212 ?_
      refine jj_imul C0 dL_law_1214 ?_
      refine jj_bipush C0 dL_law_1215 (by decide) ?_
      refine jj_iadd C0 dL_law_1217 ?_
      refine jj_dup2_11 C0 dL_law_1218 rfl rfl ?_
      refine jj_iald C0 (q0 := 1) (t0 := 0) (f := (f_lh (va_up He (7 * c + w9) (He (7 * c + w9) + (f_oq (-(1 + x1)) lm (Bi c) (As c) (BL c) (AL c) (He (7 * c + 6)) mo))))) (rfl) rfl (k := ((10 * c) + 6)) (by omega) (by omega) (by decide) dL_law_1219 ?_
      refine jj_topi (b := ((va_up He (7 * c + w9) (He (7 * c + w9) + (f_oq (-(1 + x1)) lm (Bi c) (As c) (BL c) (AL c) (He (7 * c + 6)) mo))) (7 * c + 6))) (f_lh_at (by omega)) ?_
      refine jj_iload C0 0 rfl dL_law_1220 ?_
      refine jj_iload C0 2 rfl dL_law_1222 ?_
      refine jj_imul C0 dL_law_1224 ?_
      refine jj_isub C0 dL_law_1225 ?_
      refine jj_topi (b := ((va_up He (7 * c + w9) (He (7 * c + w9) + (f_oq (-(1 + x1)) lm (Bi c) (As c) (BL c) (AL c) (He (7 * c + 6)) mo))) (7 * c + 6) - (f_oq (-(1 + x1)) lm (Bi c) (As c) (BL c) (AL c) (He (7 * c + 6)) mo))) (by omega) ?_
      refine jj_iast C0 (q0 := 1) (t0 := 0) (f := (f_lh (va_up He (7 * c + w9) (He (7 * c + w9) + (f_oq (-(1 + x1)) lm (Bi c) (As c) (BL c) (AL c) (He (7 * c + 6)) mo))))) (rfl) rfl (k := ((10 * c) + 6)) (by omega) (by omega) (by decide) (ws' := wL ka cI cJ td pr up dn mo sh co n K St Ex Am Ov Bj Aj (va_up BL c ((BL c) - (-(f_oq (-(1 + x1)) lm (Bi c) (As c) (BL c) (AL c) (He (7 * c + 6)) mo)))) AL (va_up (va_up He (7 * c + w9) (He (7 * c + w9) + (f_oq (-(1 + x1)) lm (Bi c) (As c) (BL c) (AL c) (He (7 * c + 6)) mo))) (7 * c + 6) ((va_up He (7 * c + w9) (He (7 * c + w9) + (f_oq (-(1 + x1)) lm (Bi c) (As c) (BL c) (AL c) (He (7 * c + 6)) mo))) (7 * c + 6) - (f_oq (-(1 + x1)) lm (Bi c) (As c) (BL c) (AL c) (He (7 * c + 6)) mo))) Cj dv Ca sd Cz ++ (wH ha cA hA nA ed cI cJ cZ td pr up dn dv r8_5 sd mc n mo sh co (f_dCa Ca w9 (if 0 < (-(1 + x1)) then As c else Bi c) (f_oq (-(1 + x1)) lm (Bi c) (As c) (BL c) (AL c) (He (7 * c + 6)) mo)) (va_up Cz 0 ((Cz 0) + ((f_W up dn dv td n K St Ex Am (f_dHe He c w9 (f_oq (-(1 + x1)) lm (Bi c) (As c) (BL c) (AL c) (He (7 * c + 6)) mo)) (f_dCa Ca w9 (if 0 < (-(1 + x1)) then As c else Bi c) (f_oq (-(1 + x1)) lm (Bi c) (As c) (BL c) (AL c) (He (7 * c + 6)) mo)) sh pr) - (f_W up dn dv td n K St Ex Am He Ca sh pr)))) K St Ex Am (va_up Bi c (if 0 < (va_up BL c (BL c - (if 0 < (-(1 + x1)) then 0 else -(f_oq (-(1 + x1)) lm (Bi c) (As c) (BL c) (AL c) (He (7 * c + 6)) mo)))) c ∨ 0 < (va_up AL c (AL c - (if 0 < (-(1 + x1)) then (f_oq (-(1 + x1)) lm (Bi c) (As c) (BL c) (AL c) (He (7 * c + 6)) mo) else 0))) c then Bi c else 0)) (va_up As c (if 0 < (va_up BL c (BL c - (if 0 < (-(1 + x1)) then 0 else -(f_oq (-(1 + x1)) lm (Bi c) (As c) (BL c) (AL c) (He (7 * c + 6)) mo)))) c ∨ 0 < (va_up AL c (AL c - (if 0 < (-(1 + x1)) then (f_oq (-(1 + x1)) lm (Bi c) (As c) (BL c) (AL c) (He (7 * c + 6)) mo) else 0))) c then As c else 0)) (va_up BL c (BL c - (if 0 < (-(1 + x1)) then 0 else -(f_oq (-(1 + x1)) lm (Bi c) (As c) (BL c) (AL c) (He (7 * c + 6)) mo)))) (va_up AL c (AL c - (if 0 < (-(1 + x1)) then (f_oq (-(1 + x1)) lm (Bi c) (As c) (BL c) (AL c) (He (7 * c + 6)) mo) else 0))) (f_dHe He c w9 (f_oq (-(1 + x1)) lm (Bi c) (As c) (BL c) (AL c) (He (7 * c + 6)) mo)) Co ++ GG)) (wL_He (by omega)) dL_law_1226 ?_
      refine jj_aload C0 16 rfl dL_law_1227 ?_
      refine jj_iload C0 11 rfl dL_law_1229 ?_
      refine jj_dup2_11 C0 dL_law_1231 rfl rfl ?_
      refine jj_lald C0 (q0 := 6) (t0 := 1) (f := (f_lm Ca sd Cz)) (rfl) rfl (k := w9) (by omega) (by omega) (by decide) dL_law_1232 ?_
      refine jj_topl (b := (Ca w9)) (f_lm_Ca (by omega)) ?_
      refine jj_ldc2 C0 (z := 1000) (by decide) (hw _ hU_712) dL_law_1233 ?_
      refine jj_iload C0 0 rfl dL_law_1236 ?_
      refine jj_i2l C0 (by omega) dL_law_1238 ?_
      refine jj_lmul C0 dL_law_1239 ?_
      refine jj_iload C0 2 rfl dL_law_1240 ?_
      refine jj_i2l C0 (by omega) dL_law_1242 ?_
      refine jj_lmul C0 dL_law_1243 ?_
      refine jj_iload C0 6 rfl dL_law_1244 ?_
      refine jj_if_eq C0 (by omega) dL_law_1246 (tgt := 1260) (by decide) (fun c_10 => ?_) (fun c_10 => absurd c_10 (by omega))
      refine jj_aload C0 19 rfl dL_law_1260 ?_
      refine jj_iload C0 12 rfl dL_law_1262 ?_
      refine jj_iald C0 (q0 := 3) (t0 := 0) (f := (f_lq Bj Aj (va_up BL c ((BL c) - (-(f_oq (-(1 + x1)) lm (Bi c) (As c) (BL c) (AL c) (He (7 * c + 6)) mo)))) AL)) (rfl) rfl (k := c) (by omega) (by omega) (by decide) dL_law_1264 ?_
      refine jj_topi (b := (Bj c)) (f_lq_Bi (by omega)) ?_
      refine jj_i2l C0 (by omega) dL_law_1265 ?_
      refine jj_lmul C0 dL_law_1266 ?_
      refine jj_lsub C0 dL_law_1267 ?_
      refine jj_topl (b := (Ca w9 - 1000 * (Bj c) * (f_oq (-(1 + x1)) lm (Bi c) (As c) (BL c) (AL c) (He (7 * c + 6)) mo))) (by rw [f_m4 (q := (f_oq (-(1 + x1)) lm (Bi c) (As c) (BL c) (AL c) (He (7 * c + 6)) mo)) (by omega)]) ?_
      refine jj_last C0 (q0 := 6) (t0 := 1) (f := (f_lm Ca sd Cz)) (rfl) rfl (k := w9) (by omega) (by omega) (by decide) (ws' := wL ka cI cJ td pr up dn mo sh co n K St Ex Am Ov Bj Aj (va_up BL c ((BL c) - (-(f_oq (-(1 + x1)) lm (Bi c) (As c) (BL c) (AL c) (He (7 * c + 6)) mo)))) AL (va_up (va_up He (7 * c + w9) (He (7 * c + w9) + (f_oq (-(1 + x1)) lm (Bi c) (As c) (BL c) (AL c) (He (7 * c + 6)) mo))) (7 * c + 6) ((va_up He (7 * c + w9) (He (7 * c + w9) + (f_oq (-(1 + x1)) lm (Bi c) (As c) (BL c) (AL c) (He (7 * c + 6)) mo))) (7 * c + 6) - (f_oq (-(1 + x1)) lm (Bi c) (As c) (BL c) (AL c) (He (7 * c + 6)) mo))) Cj dv (va_up Ca w9 (Ca w9 - 1000 * (Bj c) * (f_oq (-(1 + x1)) lm (Bi c) (As c) (BL c) (AL c) (He (7 * c + 6)) mo))) sd Cz ++ (wH ha cA hA nA ed cI cJ cZ td pr up dn dv r8_5 sd mc n mo sh co (f_dCa Ca w9 (if 0 < (-(1 + x1)) then As c else Bi c) (f_oq (-(1 + x1)) lm (Bi c) (As c) (BL c) (AL c) (He (7 * c + 6)) mo)) (va_up Cz 0 ((Cz 0) + ((f_W up dn dv td n K St Ex Am (f_dHe He c w9 (f_oq (-(1 + x1)) lm (Bi c) (As c) (BL c) (AL c) (He (7 * c + 6)) mo)) (f_dCa Ca w9 (if 0 < (-(1 + x1)) then As c else Bi c) (f_oq (-(1 + x1)) lm (Bi c) (As c) (BL c) (AL c) (He (7 * c + 6)) mo)) sh pr) - (f_W up dn dv td n K St Ex Am He Ca sh pr)))) K St Ex Am (va_up Bi c (if 0 < (va_up BL c (BL c - (if 0 < (-(1 + x1)) then 0 else -(f_oq (-(1 + x1)) lm (Bi c) (As c) (BL c) (AL c) (He (7 * c + 6)) mo)))) c ∨ 0 < (va_up AL c (AL c - (if 0 < (-(1 + x1)) then (f_oq (-(1 + x1)) lm (Bi c) (As c) (BL c) (AL c) (He (7 * c + 6)) mo) else 0))) c then Bi c else 0)) (va_up As c (if 0 < (va_up BL c (BL c - (if 0 < (-(1 + x1)) then 0 else -(f_oq (-(1 + x1)) lm (Bi c) (As c) (BL c) (AL c) (He (7 * c + 6)) mo)))) c ∨ 0 < (va_up AL c (AL c - (if 0 < (-(1 + x1)) then (f_oq (-(1 + x1)) lm (Bi c) (As c) (BL c) (AL c) (He (7 * c + 6)) mo) else 0))) c then As c else 0)) (va_up BL c (BL c - (if 0 < (-(1 + x1)) then 0 else -(f_oq (-(1 + x1)) lm (Bi c) (As c) (BL c) (AL c) (He (7 * c + 6)) mo)))) (va_up AL c (AL c - (if 0 < (-(1 + x1)) then (f_oq (-(1 + x1)) lm (Bi c) (As c) (BL c) (AL c) (He (7 * c + 6)) mo) else 0))) (f_dHe He c w9 (f_oq (-(1 + x1)) lm (Bi c) (As c) (BL c) (AL c) (He (7 * c + 6)) mo)) Co ++ GG)) (wL_Ca (by omega)) dL_law_1268 ?_
      refine jj_aload C0 16 rfl dL_law_1269 ?_
      refine jj_bipush C0 dL_law_1271 (by decide) ?_
      refine jj_dup2_11 C0 dL_law_1273 rfl rfl ?_
      refine jj_lald C0 (q0 := 6) (t0 := 1) (f := (f_lm (va_up Ca w9 (Ca w9 - 1000 * (Bj c) * (f_oq (-(1 + x1)) lm (Bi c) (As c) (BL c) (AL c) (He (7 * c + 6)) mo))) sd Cz)) (rfl) rfl (k := 6) (by omega) (by omega) (by decide) dL_law_1274 ?_
      refine jj_topl (b := ((va_up Ca w9 (Ca w9 - 1000 * (Bj c) * (f_oq (-(1 + x1)) lm (Bi c) (As c) (BL c) (AL c) (He (7 * c + 6)) mo))) 6)) (f_lm_Ca (by omega)) ?_
      refine jj_ldc2 C0 (z := 1000) (by decide) (hw _ hU_712) dL_law_1275 ?_
      refine jj_iload C0 0 rfl dL_law_1278 ?_
      refine jj_i2l C0 (by omega) dL_law_1280 ?_
      refine jj_lmul C0 dL_law_1281 ?_
      refine jj_iload C0 2 rfl dL_law_1282 ?_
      refine jj_i2l C0 (by omega) dL_law_1284 ?_
      refine jj_lmul C0 dL_law_1285 ?_
      refine jj_iload C0 6 rfl dL_law_1286 ?_
      refine jj_if_eq C0 (by omega) dL_law_1288 (tgt := 1302) (by decide) (fun c_11 => ?_) (fun c_11 => absurd c_11 (by omega))
      refine jj_aload C0 19 rfl dL_law_1302 ?_
      refine jj_iload C0 12 rfl dL_law_1304 ?_
      refine jj_iald C0 (q0 := 3) (t0 := 0) (f := (f_lq Bj Aj (va_up BL c ((BL c) - (-(f_oq (-(1 + x1)) lm (Bi c) (As c) (BL c) (AL c) (He (7 * c + 6)) mo)))) AL)) (rfl) rfl (k := c) (by omega) (by omega) (by decide) dL_law_1306 ?_
      refine jj_topi (b := (Bj c)) (f_lq_Bi (by omega)) ?_
      refine jj_i2l C0 (by omega) dL_law_1307 ?_
      refine jj_lmul C0 dL_law_1308 ?_
      refine jj_ladd C0 dL_law_1309 ?_
      refine jj_topl (b := ((va_up Ca w9 (Ca w9 - 1000 * (Bj c) * (f_oq (-(1 + x1)) lm (Bi c) (As c) (BL c) (AL c) (He (7 * c + 6)) mo))) 6 + 1000 * (Bj c) * (f_oq (-(1 + x1)) lm (Bi c) (As c) (BL c) (AL c) (He (7 * c + 6)) mo))) (by rw [f_m4 (q := (f_oq (-(1 + x1)) lm (Bi c) (As c) (BL c) (AL c) (He (7 * c + 6)) mo)) (by omega)]) ?_
      refine jj_last C0 (q0 := 6) (t0 := 1) (f := (f_lm (va_up Ca w9 (Ca w9 - 1000 * (Bj c) * (f_oq (-(1 + x1)) lm (Bi c) (As c) (BL c) (AL c) (He (7 * c + 6)) mo))) sd Cz)) (rfl) rfl (k := 6) (by omega) (by omega) (by decide) (ws' := wL ka cI cJ td pr up dn mo sh co n K St Ex Am Ov Bj Aj (va_up BL c ((BL c) - (-(f_oq (-(1 + x1)) lm (Bi c) (As c) (BL c) (AL c) (He (7 * c + 6)) mo)))) AL (va_up (va_up He (7 * c + w9) (He (7 * c + w9) + (f_oq (-(1 + x1)) lm (Bi c) (As c) (BL c) (AL c) (He (7 * c + 6)) mo))) (7 * c + 6) ((va_up He (7 * c + w9) (He (7 * c + w9) + (f_oq (-(1 + x1)) lm (Bi c) (As c) (BL c) (AL c) (He (7 * c + 6)) mo))) (7 * c + 6) - (f_oq (-(1 + x1)) lm (Bi c) (As c) (BL c) (AL c) (He (7 * c + 6)) mo))) Cj dv (va_up (va_up Ca w9 (Ca w9 - 1000 * (Bj c) * (f_oq (-(1 + x1)) lm (Bi c) (As c) (BL c) (AL c) (He (7 * c + 6)) mo))) 6 ((va_up Ca w9 (Ca w9 - 1000 * (Bj c) * (f_oq (-(1 + x1)) lm (Bi c) (As c) (BL c) (AL c) (He (7 * c + 6)) mo))) 6 + 1000 * (Bj c) * (f_oq (-(1 + x1)) lm (Bi c) (As c) (BL c) (AL c) (He (7 * c + 6)) mo))) sd Cz ++ (wH ha cA hA nA ed cI cJ cZ td pr up dn dv r8_5 sd mc n mo sh co (f_dCa Ca w9 (if 0 < (-(1 + x1)) then As c else Bi c) (f_oq (-(1 + x1)) lm (Bi c) (As c) (BL c) (AL c) (He (7 * c + 6)) mo)) (va_up Cz 0 ((Cz 0) + ((f_W up dn dv td n K St Ex Am (f_dHe He c w9 (f_oq (-(1 + x1)) lm (Bi c) (As c) (BL c) (AL c) (He (7 * c + 6)) mo)) (f_dCa Ca w9 (if 0 < (-(1 + x1)) then As c else Bi c) (f_oq (-(1 + x1)) lm (Bi c) (As c) (BL c) (AL c) (He (7 * c + 6)) mo)) sh pr) - (f_W up dn dv td n K St Ex Am He Ca sh pr)))) K St Ex Am (va_up Bi c (if 0 < (va_up BL c (BL c - (if 0 < (-(1 + x1)) then 0 else -(f_oq (-(1 + x1)) lm (Bi c) (As c) (BL c) (AL c) (He (7 * c + 6)) mo)))) c ∨ 0 < (va_up AL c (AL c - (if 0 < (-(1 + x1)) then (f_oq (-(1 + x1)) lm (Bi c) (As c) (BL c) (AL c) (He (7 * c + 6)) mo) else 0))) c then Bi c else 0)) (va_up As c (if 0 < (va_up BL c (BL c - (if 0 < (-(1 + x1)) then 0 else -(f_oq (-(1 + x1)) lm (Bi c) (As c) (BL c) (AL c) (He (7 * c + 6)) mo)))) c ∨ 0 < (va_up AL c (AL c - (if 0 < (-(1 + x1)) then (f_oq (-(1 + x1)) lm (Bi c) (As c) (BL c) (AL c) (He (7 * c + 6)) mo) else 0))) c then As c else 0)) (va_up BL c (BL c - (if 0 < (-(1 + x1)) then 0 else -(f_oq (-(1 + x1)) lm (Bi c) (As c) (BL c) (AL c) (He (7 * c + 6)) mo)))) (va_up AL c (AL c - (if 0 < (-(1 + x1)) then (f_oq (-(1 + x1)) lm (Bi c) (As c) (BL c) (AL c) (He (7 * c + 6)) mo) else 0))) (f_dHe He c w9 (f_oq (-(1 + x1)) lm (Bi c) (As c) (BL c) (AL c) (He (7 * c + 6)) mo)) Co ++ GG)) (wL_Ca (by omega)) dL_law_1310 ?_
      refine jj_ws (ws' := wL ka cI cJ td pr up dn mo sh co n K St Ex Am Ov Bj Aj (va_up BL c (BL c - (if 0 < (-(1 + x1)) then 0 else -(f_oq (-(1 + x1)) lm (Bi c) (As c) (BL c) (AL c) (He (7 * c + 6)) mo)))) (va_up AL c (AL c - (if 0 < (-(1 + x1)) then (f_oq (-(1 + x1)) lm (Bi c) (As c) (BL c) (AL c) (He (7 * c + 6)) mo) else 0))) (f_dHe He c w9 (f_oq (-(1 + x1)) lm (Bi c) (As c) (BL c) (AL c) (He (7 * c + 6)) mo)) Cj dv (f_dCa Ca w9 (if 0 < (-(1 + x1)) then As c else Bi c) (f_oq (-(1 + x1)) lm (Bi c) (As c) (BL c) (AL c) (He (7 * c + 6)) mo)) sd Cz ++ (wH ha cA hA nA ed cI cJ cZ td pr up dn dv r8_5 sd mc n mo sh co (f_dCa Ca w9 (if 0 < (-(1 + x1)) then As c else Bi c) (f_oq (-(1 + x1)) lm (Bi c) (As c) (BL c) (AL c) (He (7 * c + 6)) mo)) (va_up Cz 0 ((Cz 0) + ((f_W up dn dv td n K St Ex Am (f_dHe He c w9 (f_oq (-(1 + x1)) lm (Bi c) (As c) (BL c) (AL c) (He (7 * c + 6)) mo)) (f_dCa Ca w9 (if 0 < (-(1 + x1)) then As c else Bi c) (f_oq (-(1 + x1)) lm (Bi c) (As c) (BL c) (AL c) (He (7 * c + 6)) mo)) sh pr) - (f_W up dn dv td n K St Ex Am He Ca sh pr)))) K St Ex Am (va_up Bi c (if 0 < (va_up BL c (BL c - (if 0 < (-(1 + x1)) then 0 else -(f_oq (-(1 + x1)) lm (Bi c) (As c) (BL c) (AL c) (He (7 * c + 6)) mo)))) c ∨ 0 < (va_up AL c (AL c - (if 0 < (-(1 + x1)) then (f_oq (-(1 + x1)) lm (Bi c) (As c) (BL c) (AL c) (He (7 * c + 6)) mo) else 0))) c then Bi c else 0)) (va_up As c (if 0 < (va_up BL c (BL c - (if 0 < (-(1 + x1)) then 0 else -(f_oq (-(1 + x1)) lm (Bi c) (As c) (BL c) (AL c) (He (7 * c + 6)) mo)))) c ∨ 0 < (va_up AL c (AL c - (if 0 < (-(1 + x1)) then (f_oq (-(1 + x1)) lm (Bi c) (As c) (BL c) (AL c) (He (7 * c + 6)) mo) else 0))) c then As c else 0)) (va_up BL c (BL c - (if 0 < (-(1 + x1)) then 0 else -(f_oq (-(1 + x1)) lm (Bi c) (As c) (BL c) (AL c) (He (7 * c + 6)) mo)))) (va_up AL c (AL c - (if 0 < (-(1 + x1)) then (f_oq (-(1 + x1)) lm (Bi c) (As c) (BL c) (AL c) (He (7 * c + 6)) mo) else 0))) (f_dHe He c w9 (f_oq (-(1 + x1)) lm (Bi c) (As c) (BL c) (AL c) (He (7 * c + 6)) mo)) Co ++ GG)) (by rw [← f_tie_dCa (by omega) hQ]; simp only [if_neg hx0, Int.sub_zero, up_id]; rfl) ?_
      refine jj_iconst C0 dL_law_1311 ?_
      refine jj_istore C0 (lv' := [(18, .int (iI 0)), (35, .int (iI (-1))), (17, .int (iI 1)), (34, .int (iI (-(f_oq (-(1 + x1)) lm (Bi c) (As c) (BL c) (AL c) (He (7 * c + 6)) mo)))), (33, .int (iI (BL c))), (32, .int (iI (mo - (He (7 * c + 6))))), (31, .int (iI lm)), (30, .int (iI 0)), (29, .int (iI (1 + x1))), (16, .int (iI 0)), (14, .long (lI (f_W up dn dv td n K St Ex Am He Ca sh pr))), (13, .int (iI (w9 : Int))), (12, .int (iI (c : Int))), (11, .int (iI u9)), (10, .int (iI v9)), (9, .int (iI (t : Int))), (8, .ref (ka 6)), (7, .ref (ka 5)), (6, .ref (ka 4)), (5, .ref (ka 3)), (4, .ref (ka 2)), (3, .ref (ka 1)), (2, .ref (ka 0)), (1, .ref (ha 0)), (0, .ref b)]) (by decide) rfl dL_law_1312 ?_
      refine jj_goto C0 (tgt := 2039) dL_law_1314 (by decide) ?_
      refine jj_toHw ?_
      refine jj_lv [0, 2, 10, 13, 15, 16, 17, 18, 19, 20, 21, 22, 23, 24] rfl ?_
      exact kK cA hA nA ed r8_5 mc GG td pr up dn dv sd n mo sh co (f_dCa Ca w9 (if 0 < (-(1 + x1)) then As c else Bi c) (f_oq (-(1 + x1)) lm (Bi c) (As c) (BL c) (AL c) (He (7 * c + 6)) mo)) (va_up Cz 0 ((Cz 0) + ((f_W up dn dv td n K St Ex Am (f_dHe He c w9 (f_oq (-(1 + x1)) lm (Bi c) (As c) (BL c) (AL c) (He (7 * c + 6)) mo)) (f_dCa Ca w9 (if 0 < (-(1 + x1)) then As c else Bi c) (f_oq (-(1 + x1)) lm (Bi c) (As c) (BL c) (AL c) (He (7 * c + 6)) mo)) sh pr) - (f_W up dn dv td n K St Ex Am He Ca sh pr)))) Cz K St Ex Am Ov (va_up Bi c (if 0 < (va_up BL c (BL c - (if 0 < (-(1 + x1)) then 0 else -(f_oq (-(1 + x1)) lm (Bi c) (As c) (BL c) (AL c) (He (7 * c + 6)) mo)))) c ∨ 0 < (va_up AL c (AL c - (if 0 < (-(1 + x1)) then (f_oq (-(1 + x1)) lm (Bi c) (As c) (BL c) (AL c) (He (7 * c + 6)) mo) else 0))) c then Bi c else 0)) (va_up As c (if 0 < (va_up BL c (BL c - (if 0 < (-(1 + x1)) then 0 else -(f_oq (-(1 + x1)) lm (Bi c) (As c) (BL c) (AL c) (He (7 * c + 6)) mo)))) c ∨ 0 < (va_up AL c (AL c - (if 0 < (-(1 + x1)) then (f_oq (-(1 + x1)) lm (Bi c) (As c) (BL c) (AL c) (He (7 * c + 6)) mo) else 0))) c then As c else 0)) Bj Aj (va_up BL c (BL c - (if 0 < (-(1 + x1)) then 0 else -(f_oq (-(1 + x1)) lm (Bi c) (As c) (BL c) (AL c) (He (7 * c + 6)) mo)))) (va_up AL c (AL c - (if 0 < (-(1 + x1)) then (f_oq (-(1 + x1)) lm (Bi c) (As c) (BL c) (AL c) (He (7 * c + 6)) mo) else 0))) (f_dHe He c w9 (f_oq (-(1 + x1)) lm (Bi c) (As c) (BL c) (AL c) (He (7 * c + 6)) mo)) Co Cj (f_W up dn dv td n K St Ex Am He Ca sh pr) 0 _ _ (f_IV_order (x := (-(1 + x1))) hV hcn hww hov0 ⟨hb9.1, hb9.2.1⟩ hb9.2.2.1 hb9.2.2.2) (⟨hn6, htd5, hex5, fun c hc => by have := hSp c hc; omega, hdv9, hBA, by omega⟩) (hcc) (hG) (Or.inr ⟨0, by omega, rfl, rfl⟩) (by omega) (by omega)
    intro j1101
    refine jj_iload C0 3 rfl dL_law_1017 ?_
    refine jj_if_eq C0 (by omega) dL_law_1019 (tgt := 1044) (by decide) (fun c_12 => ?_) (fun c_12 => absurd c_12 (by omega))
    refine jj_iload C0 2 rfl dL_law_1044 ?_
    refine jj_aload C0 17 rfl dL_law_1046 ?_
    refine jj_iload C0 10 rfl dL_law_1048 ?_
    refine jj_iald C0 (q0 := 3) (t0 := 0) (f := (f_lq Bj Aj BL AL)) (rfl) rfl (k := c) (by omega) (by omega) (by decide) dL_law_1050 ?_
    refine jj_topi (b := (Bj c)) (f_lq_Bi (by omega)) ?_
    refine jj_icmp_le C0 (by omega) (by omega) dL_law_1051 (tgt := 1058) (by decide) (fun c_13 => ?_) (fun c_13 => ?_)
    · refine jj_iload C0 0 rfl dL_law_1058 ?_
      refine jj_istore C0 (lv' := [(34, .int (iI (BL c))), (33, .int (iI (BL c))), (32, .int (iI (mo - (He (7 * c + 6))))), (31, .int (iI lm)), (30, .int (iI 0)), (29, .int (iI (1 + x1))), (18, .int (iI (-1))), (17, .int (iI 1)), (16, .int (iI 0)), (14, .long (lI (f_W up dn dv td n K St Ex Am He Ca sh pr))), (13, .int (iI (w9 : Int))), (12, .int (iI (c : Int))), (11, .int (iI u9)), (10, .int (iI v9)), (9, .int (iI (t : Int))), (8, .ref (ka 6)), (7, .ref (ka 5)), (6, .ref (ka 4)), (5, .ref (ka 3)), (4, .ref (ka 2)), (3, .ref (ka 1)), (2, .ref (ka 0)), (1, .ref (ha 0)), (0, .ref b)]) (by decide) rfl dL_law_1060 ?_
      refine jj_iload C0 0 rfl dL_law_1062 ?_
      refine jj_iload C0 5 rfl dL_law_1064 ?_
      refine jj_icmp_ge C0 (by omega) (by omega) dL_law_1066 (tgt := 1074) (by decide) (fun c_14 => ?_) (fun c_14 => ?_)
      · refine jj_iload C0 5 rfl dL_law_1074 ?_
        refine jj_istore C0 (lv' := [(34, .int (iI (1 + x1))), (33, .int (iI (BL c))), (32, .int (iI (mo - (He (7 * c + 6))))), (31, .int (iI lm)), (30, .int (iI 0)), (29, .int (iI (1 + x1))), (18, .int (iI (-1))), (17, .int (iI 1)), (16, .int (iI 0)), (14, .long (lI (f_W up dn dv td n K St Ex Am He Ca sh pr))), (13, .int (iI (w9 : Int))), (12, .int (iI (c : Int))), (11, .int (iI u9)), (10, .int (iI v9)), (9, .int (iI (t : Int))), (8, .ref (ka 6)), (7, .ref (ka 5)), (6, .ref (ka 4)), (5, .ref (ka 3)), (4, .ref (ka 2)), (3, .ref (ka 1)), (2, .ref (ka 0)), (1, .ref (ha 0)), (0, .ref b)]) (by decide) rfl dL_law_1076 ?_
        refine jj_iload C0 0 rfl dL_law_1078 ?_
        refine jj_iload C0 2 rfl dL_law_1080 ?_
        refine jj_icmp_ge C0 (by omega) (by omega) dL_law_1082 (tgt := 1090) (by decide) (fun c_15 => ?_) (fun c_15 => ?_)
        · refine jj_iload C0 2 rfl dL_law_1090 ?_
          refine jj_if_ge C0 (by omega) dL_law_1092 (tgt := 1099) (by decide) (fun c_16 => ?_) (fun c_16 => ?_)
          · refine jj_iload C0 2 rfl dL_law_1099 ?_
            refine jj_topi (b := (-(f_oq (-(1 + x1)) lm (Bi c) (As c) (BL c) (AL c) (He (7 * c + 6)) mo))) (by rw [← f_tie_oq hQ]; unfold f_oq; rw [if_neg (by omega)]; split <;> omega) ?_
            refine jj_lv [1, 2, 3, 4, 5, 6, 7, 8, 9, 10, 11, 12, 13, 14, 15, 16, 17, 18, 19, 20, 21, 22, 23] rfl ?_
            exact j1101 () trivial
          · refine jj_iconst C0 dL_law_1095 ?_
            refine jj_goto C0 (tgt := 1101) dL_law_1096 (by decide) ?_
            refine jj_topi (b := (-(f_oq (-(1 + x1)) lm (Bi c) (As c) (BL c) (AL c) (He (7 * c + 6)) mo))) (by rw [← f_tie_oq hQ]; unfold f_oq; rw [if_neg (by omega)]; split <;> omega) ?_
            refine jj_lv [1, 2, 3, 4, 5, 6, 7, 8, 9, 10, 11, 12, 13, 14, 15, 16, 17, 18, 19, 20, 21, 22, 23] rfl ?_
            exact j1101 () trivial
        · refine jj_iload C0 0 rfl dL_law_1085 ?_
          refine jj_goto C0 (tgt := 1101) dL_law_1087 (by decide) ?_
          refine jj_topi (b := (-(f_oq (-(1 + x1)) lm (Bi c) (As c) (BL c) (AL c) (He (7 * c + 6)) mo))) (by rw [← f_tie_oq hQ]; unfold f_oq; rw [if_neg (by omega)]; split <;> omega) ?_
          refine jj_lv [1, 2, 3, 4, 5, 6, 7, 8, 9, 10, 11, 12, 13, 14, 15, 16, 17, 18, 19, 20, 21, 22, 23] rfl ?_
          exact j1101 () trivial
      · refine jj_iload C0 0 rfl dL_law_1069 ?_
        refine jj_goto C0 (tgt := 1076) dL_law_1071 (by decide) ?_
        refine jj_istore C0 (lv' := [(34, .int (iI (BL c))), (33, .int (iI (BL c))), (32, .int (iI (mo - (He (7 * c + 6))))), (31, .int (iI lm)), (30, .int (iI 0)), (29, .int (iI (1 + x1))), (18, .int (iI (-1))), (17, .int (iI 1)), (16, .int (iI 0)), (14, .long (lI (f_W up dn dv td n K St Ex Am He Ca sh pr))), (13, .int (iI (w9 : Int))), (12, .int (iI (c : Int))), (11, .int (iI u9)), (10, .int (iI v9)), (9, .int (iI (t : Int))), (8, .ref (ka 6)), (7, .ref (ka 5)), (6, .ref (ka 4)), (5, .ref (ka 3)), (4, .ref (ka 2)), (3, .ref (ka 1)), (2, .ref (ka 0)), (1, .ref (ha 0)), (0, .ref b)]) (by decide) rfl dL_law_1076 ?_
        refine jj_iload C0 0 rfl dL_law_1078 ?_
        refine jj_iload C0 2 rfl dL_law_1080 ?_
        refine jj_icmp_ge C0 (by omega) (by omega) dL_law_1082 (tgt := 1090) (by decide) (fun c_17 => ?_) (fun c_17 => ?_)
        · refine jj_iload C0 2 rfl dL_law_1090 ?_
          refine jj_if_ge C0 (by omega) dL_law_1092 (tgt := 1099) (by decide) (fun c_18 => ?_) (fun c_18 => ?_)
          · refine jj_iload C0 2 rfl dL_law_1099 ?_
            refine jj_topi (b := (-(f_oq (-(1 + x1)) lm (Bi c) (As c) (BL c) (AL c) (He (7 * c + 6)) mo))) (by rw [← f_tie_oq hQ]; unfold f_oq; rw [if_neg (by omega)]; split <;> omega) ?_
            refine jj_lv [1, 2, 3, 4, 5, 6, 7, 8, 9, 10, 11, 12, 13, 14, 15, 16, 17, 18, 19, 20, 21, 22, 23] rfl ?_
            exact j1101 () trivial
          · refine jj_iconst C0 dL_law_1095 ?_
            refine jj_goto C0 (tgt := 1101) dL_law_1096 (by decide) ?_
            refine jj_topi (b := (-(f_oq (-(1 + x1)) lm (Bi c) (As c) (BL c) (AL c) (He (7 * c + 6)) mo))) (by rw [← f_tie_oq hQ]; unfold f_oq; rw [if_neg (by omega)]; split <;> omega) ?_
            refine jj_lv [1, 2, 3, 4, 5, 6, 7, 8, 9, 10, 11, 12, 13, 14, 15, 16, 17, 18, 19, 20, 21, 22, 23] rfl ?_
            exact j1101 () trivial
        · refine jj_iload C0 0 rfl dL_law_1085 ?_
          refine jj_goto C0 (tgt := 1101) dL_law_1087 (by decide) ?_
          refine jj_topi (b := (-(f_oq (-(1 + x1)) lm (Bi c) (As c) (BL c) (AL c) (He (7 * c + 6)) mo))) (by rw [← f_tie_oq hQ]; unfold f_oq; rw [if_neg (by omega)]; split <;> omega) ?_
          refine jj_lv [1, 2, 3, 4, 5, 6, 7, 8, 9, 10, 11, 12, 13, 14, 15, 16, 17, 18, 19, 20, 21, 22, 23] rfl ?_
          exact j1101 () trivial
    · refine jj_iconst C0 dL_law_1054 ?_
      refine jj_goto C0 (tgt := 1060) dL_law_1055 (by decide) ?_
      refine jj_istore C0 (lv' := [(34, .int (iI 0)), (33, .int (iI (BL c))), (32, .int (iI (mo - (He (7 * c + 6))))), (31, .int (iI lm)), (30, .int (iI 0)), (29, .int (iI (1 + x1))), (18, .int (iI (-1))), (17, .int (iI 1)), (16, .int (iI 0)), (14, .long (lI (f_W up dn dv td n K St Ex Am He Ca sh pr))), (13, .int (iI (w9 : Int))), (12, .int (iI (c : Int))), (11, .int (iI u9)), (10, .int (iI v9)), (9, .int (iI (t : Int))), (8, .ref (ka 6)), (7, .ref (ka 5)), (6, .ref (ka 4)), (5, .ref (ka 3)), (4, .ref (ka 2)), (3, .ref (ka 1)), (2, .ref (ka 0)), (1, .ref (ha 0)), (0, .ref b)]) (by decide) rfl dL_law_1060 ?_
      refine jj_iload C0 0 rfl dL_law_1062 ?_
      refine jj_iload C0 5 rfl dL_law_1064 ?_
      refine jj_icmp_ge C0 (by omega) (by omega) dL_law_1066 (tgt := 1074) (by decide) (fun c_19 => ?_) (fun c_19 => ?_)
      · refine jj_iload C0 5 rfl dL_law_1074 ?_
        refine jj_istore C0 (lv' := [(34, .int (iI (1 + x1))), (33, .int (iI (BL c))), (32, .int (iI (mo - (He (7 * c + 6))))), (31, .int (iI lm)), (30, .int (iI 0)), (29, .int (iI (1 + x1))), (18, .int (iI (-1))), (17, .int (iI 1)), (16, .int (iI 0)), (14, .long (lI (f_W up dn dv td n K St Ex Am He Ca sh pr))), (13, .int (iI (w9 : Int))), (12, .int (iI (c : Int))), (11, .int (iI u9)), (10, .int (iI v9)), (9, .int (iI (t : Int))), (8, .ref (ka 6)), (7, .ref (ka 5)), (6, .ref (ka 4)), (5, .ref (ka 3)), (4, .ref (ka 2)), (3, .ref (ka 1)), (2, .ref (ka 0)), (1, .ref (ha 0)), (0, .ref b)]) (by decide) rfl dL_law_1076 ?_
        refine jj_iload C0 0 rfl dL_law_1078 ?_
        refine jj_iload C0 2 rfl dL_law_1080 ?_
        refine jj_icmp_ge C0 (by omega) (by omega) dL_law_1082 (tgt := 1090) (by decide) (fun c_20 => ?_) (fun c_20 => ?_)
        · refine jj_iload C0 2 rfl dL_law_1090 ?_
          refine jj_if_ge C0 (by omega) dL_law_1092 (tgt := 1099) (by decide) (fun c_21 => ?_) (fun c_21 => ?_)
          · refine jj_iload C0 2 rfl dL_law_1099 ?_
            refine jj_topi (b := (-(f_oq (-(1 + x1)) lm (Bi c) (As c) (BL c) (AL c) (He (7 * c + 6)) mo))) (by rw [← f_tie_oq hQ]; unfold f_oq; rw [if_neg (by omega)]; split <;> omega) ?_
            refine jj_lv [1, 2, 3, 4, 5, 6, 7, 8, 9, 10, 11, 12, 13, 14, 15, 16, 17, 18, 19, 20, 21, 22, 23] rfl ?_
            exact j1101 () trivial
          · refine jj_iconst C0 dL_law_1095 ?_
            refine jj_goto C0 (tgt := 1101) dL_law_1096 (by decide) ?_
            refine jj_topi (b := (-(f_oq (-(1 + x1)) lm (Bi c) (As c) (BL c) (AL c) (He (7 * c + 6)) mo))) (by rw [← f_tie_oq hQ]; unfold f_oq; rw [if_neg (by omega)]; split <;> omega) ?_
            refine jj_lv [1, 2, 3, 4, 5, 6, 7, 8, 9, 10, 11, 12, 13, 14, 15, 16, 17, 18, 19, 20, 21, 22, 23] rfl ?_
            exact j1101 () trivial
        · refine jj_iload C0 0 rfl dL_law_1085 ?_
          refine jj_goto C0 (tgt := 1101) dL_law_1087 (by decide) ?_
          refine jj_topi (b := (-(f_oq (-(1 + x1)) lm (Bi c) (As c) (BL c) (AL c) (He (7 * c + 6)) mo))) (by rw [← f_tie_oq hQ]; unfold f_oq; rw [if_neg (by omega)]; split <;> omega) ?_
          refine jj_lv [1, 2, 3, 4, 5, 6, 7, 8, 9, 10, 11, 12, 13, 14, 15, 16, 17, 18, 19, 20, 21, 22, 23] rfl ?_
          exact j1101 () trivial
      · refine jj_iload C0 0 rfl dL_law_1069 ?_
        refine jj_goto C0 (tgt := 1076) dL_law_1071 (by decide) ?_
        refine jj_istore C0 (lv' := [(34, .int (iI 0)), (33, .int (iI (BL c))), (32, .int (iI (mo - (He (7 * c + 6))))), (31, .int (iI lm)), (30, .int (iI 0)), (29, .int (iI (1 + x1))), (18, .int (iI (-1))), (17, .int (iI 1)), (16, .int (iI 0)), (14, .long (lI (f_W up dn dv td n K St Ex Am He Ca sh pr))), (13, .int (iI (w9 : Int))), (12, .int (iI (c : Int))), (11, .int (iI u9)), (10, .int (iI v9)), (9, .int (iI (t : Int))), (8, .ref (ka 6)), (7, .ref (ka 5)), (6, .ref (ka 4)), (5, .ref (ka 3)), (4, .ref (ka 2)), (3, .ref (ka 1)), (2, .ref (ka 0)), (1, .ref (ha 0)), (0, .ref b)]) (by decide) rfl dL_law_1076 ?_
        refine jj_iload C0 0 rfl dL_law_1078 ?_
        refine jj_iload C0 2 rfl dL_law_1080 ?_
        refine jj_icmp_ge C0 (by omega) (by omega) dL_law_1082 (tgt := 1090) (by decide) (fun c_22 => ?_) (fun c_22 => ?_)
        · refine jj_iload C0 2 rfl dL_law_1090 ?_
          refine jj_if_ge C0 (by omega) dL_law_1092 (tgt := 1099) (by decide) (fun c_23 => ?_) (fun c_23 => ?_)
          · refine jj_iload C0 2 rfl dL_law_1099 ?_
            refine jj_topi (b := (-(f_oq (-(1 + x1)) lm (Bi c) (As c) (BL c) (AL c) (He (7 * c + 6)) mo))) (by rw [← f_tie_oq hQ]; unfold f_oq; rw [if_neg (by omega)]; split <;> omega) ?_
            refine jj_lv [1, 2, 3, 4, 5, 6, 7, 8, 9, 10, 11, 12, 13, 14, 15, 16, 17, 18, 19, 20, 21, 22, 23] rfl ?_
            exact j1101 () trivial
          · refine jj_iconst C0 dL_law_1095 ?_
            refine jj_goto C0 (tgt := 1101) dL_law_1096 (by decide) ?_
            refine jj_topi (b := (-(f_oq (-(1 + x1)) lm (Bi c) (As c) (BL c) (AL c) (He (7 * c + 6)) mo))) (by rw [← f_tie_oq hQ]; unfold f_oq; rw [if_neg (by omega)]; split <;> omega) ?_
            refine jj_lv [1, 2, 3, 4, 5, 6, 7, 8, 9, 10, 11, 12, 13, 14, 15, 16, 17, 18, 19, 20, 21, 22, 23] rfl ?_
            exact j1101 () trivial
        · refine jj_iload C0 0 rfl dL_law_1085 ?_
          refine jj_goto C0 (tgt := 1101) dL_law_1087 (by decide) ?_
          refine jj_topi (b := (-(f_oq (-(1 + x1)) lm (Bi c) (As c) (BL c) (AL c) (He (7 * c + 6)) mo))) (by rw [← f_tie_oq hQ]; unfold f_oq; rw [if_neg (by omega)]; split <;> omega) ?_
          refine jj_lv [1, 2, 3, 4, 5, 6, 7, 8, 9, 10, 11, 12, 13, 14, 15, 16, 17, 18, 19, 20, 21, 22, 23] rfl ?_
          exact j1101 () trivial
  intro j949
  refine jj_iload C0 0 rfl dL_law_938 ?_
  refine jj_if_ge C0 (by omega) dL_law_940 (tgt := 947) (by decide) (fun c_24 => ?_) (fun c_24 => ?_)
  · refine jj_iload C0 0 rfl dL_law_947 ?_
    exact j949 lm0 (by omega)
  · refine jj_iconst C0 dL_law_943 ?_
    refine jj_goto C0 (tgt := 949) dL_law_944 (by decide) ?_
    exact j949 0 (by omega)
set_option maxHeartbeats 4000000 in
set_option maxRecDepth 100000 in
theorem lq_orES (hC9 : f_C9 p l s m args meth c9 dC dI A cI cJ cZ cO es mi sa b L xs) (hcs : cells + 100 ≤ 600104 ∧ slots + 4000 ≤ 7301314) (hk9 : k9 ≤ 89) (ht9 : t ≤ 89) (hI : f_IV k9 td n pr up dn dv sd mo sh Ca K St Ex Am Ov Bi As Bj Aj BL AL He Co) (hJ : f_JV t td n pr dv sh St Ex Bj Aj) (hcc : f_JC Ov Co Cj) (hG : f_LG cO es n ed cA GG) (hu9 : iR u9) (hv9 : iR v9) (kK : f_K9 p l e s m args below meth c9 dC dI A Q ha ka cI cJ cZ cO es b k9 t u9 cells slots) {x1 : Int} (hcn : c < n) (hww : w9 ≤ 5) (hov0 : Ov c = 1) (hx4 : 0 ≤ x1 ∧ x1 < 40) : jj_W p l e room_1 s m args below meth c9 (dC, dI) vwCl A 46 cells slots Q 900 [(29, .int (iI (1 + x1))), (18, .int (iI (-1))), (17, .int (iI 1)), (16, .int (iI 1)), (14, .long (lI (f_W up dn dv td n K St Ex Am He Ca sh pr))), (13, .int (iI (w9 : Int))), (12, .int (iI (c : Int))), (11, .int (iI u9)), (10, .int (iI v9)), (9, .int (iI (t : Int))), (8, .ref (ka 6)), (7, .ref (ka 5)), (6, .ref (ka 4)), (5, .ref (ka 3)), (4, .ref (ka 2)), (3, .ref (ka 1)), (2, .ref (ka 0)), (1, .ref (ha 0)), (0, .ref b)] [] (wH ha cA hA nA ed cI cJ cZ td pr up dn dv rw sd mc n mo sh co Ca Cz K St Ex Am Bi As BL AL He Co ++ (GG ++ wL ka cI cJ td pr up dn mo sh co n K St Ex Am Ov Bj Aj BL AL He Cj dv Ca sd Cz)) := by
  obtain ⟨C0, hl, hL⟩ := hC9
  have hw := C0.2.2.2.2.1
  have hEV := hEVS es mi sa b L xs
  have hED0 : 0 < n → f_ED cA n ed cO GG := fun h9 => by have h8 := f_LG_ED (M := []) hG h9; rwa [List.append_nil] at h8
  have hCj9 := hcc.1
  have hV := hI
  obtain ⟨⟨htd, hn, hpr, hup, hdn, hdv, hsd, hmo, hsh⟩, ⟨hK, hSt, hEx, hAm, hOv, hovs, hexs, hovn⟩, hQ9, ⟨hHe, hsums, hHz⟩, ⟨hCo, hCz⟩, hCa⟩ := hI
  have hQ := hQ9
  obtain ⟨hBi, hAs, hBj, hAj, hBL, hAL, hQt, hQ0, hQn, hQo⟩ := hQ9
  have hW9 := hJ
  obtain ⟨hn6, htd5, hex5, hSp, hdv9, hBA, hsh9⟩ := hJ
  have hexs1 : ∀ c, c < n → Ex c ≤ (td : Int) + 10 := fun c hc => (hexs c hc).1
  have hHe9 : ∀ j, -999000 ≤ He j ∧ He j ≤ 999000 := fun j => by have := hHe j; omega
  have hHe6 : ∀ j, -1000000 ≤ He j ∧ He j ≤ 1000000 := fun j => by have := hHe j; omega
  have hCa9 : ∀ j, -100000000000000000 ≤ Ca j ∧ Ca j ≤ 100000000000000000 := fun j => by have := hCa j; omega
  have hov5 : ∀ c, c < n → (Ov c = 1 ∧ Ex c < (td : Int)) ∨ (Ov c = 0 ∧ (td : Int) ≤ Ex c ∧ Ex c ≤ (td : Int) + 5) := fun c hc => by have h1 := hovs c hc; have h2 := hex5 c hc; omega
  have hovw : ∀ c, c < n → He (7 * c + 6) = 0 ∨ (Ov c = 1 ∧ Ex c < (td : Int)) ∨ (Ov c = 0 ∧ (td : Int) ≤ Ex c ∧ Ex c ≤ (td : Int) + 5) := fun c hc => Or.inr (hov5 c hc)
  have hov1 := hovs c hcn
  refine jj_iconst C0 dL_law_900 ?_
  refine jj_istore C0 (lv' := [(30, .int (iI 0)), (29, .int (iI (1 + x1))), (18, .int (iI (-1))), (17, .int (iI 1)), (16, .int (iI 1)), (14, .long (lI (f_W up dn dv td n K St Ex Am He Ca sh pr))), (13, .int (iI (w9 : Int))), (12, .int (iI (c : Int))), (11, .int (iI u9)), (10, .int (iI v9)), (9, .int (iI (t : Int))), (8, .ref (ka 6)), (7, .ref (ka 5)), (6, .ref (ka 4)), (5, .ref (ka 3)), (4, .ref (ka 2)), (3, .ref (ka 1)), (2, .ref (ka 0)), (1, .ref (ha 0)), (0, .ref b)]) (by decide) rfl dL_law_901 ?_
  refine jj_iload C0 0 rfl dL_law_903 ?_
  refine jj_if_eq C0 (by omega) dL_law_905 (tgt := 919) (by decide) (fun c_1 => ?_) (fun c_1 => absurd c_1 (by omega))
  refine jj_aload C0 14 rfl dL_law_919 ?_
  refine jj_iload C0 7 rfl dL_law_921 ?_
  refine jj_toLw ?_
  refine jj_iald C0 (q0 := 3) (t0 := 0) (f := (f_lq Bj Aj BL AL)) (rfl) rfl (k := c) (by omega) (by omega) (by decide) dL_law_923 ?_
  refine jj_topi (b := (Bj c)) (f_lq_Bi (by omega)) ?_
  refine jj_iload C0 8 rfl dL_law_924 ?_
  refine jj_bipush C0 dL_law_926 (by decide) ?_
  refine jj_ishrX C0 dL_law_928 ?_
  have hR928 := f_sr_R u9 12
  refine jj_iconst C0 dL_law_929 ?_
  refine jj_callSi C0 (cells' := cells) (slots' := slots) (cc_L_low hEV (v := (f_sr u9 12)) (m := 5) (by omega)) (cwS 2 hw (lw_gS hU_167 hU_168 hU_42 hU_169) rfl rfl rfl (by decide +kernel) ⟨Nat.le_of_ble_eq_true rfl, Nat.le_of_ble_eq_true rfl⟩) rfl rfl (Nat.le_of_ble_eq_true rfl) ⟨by show cells + 0 ≤ 600104; omega, by show slots + 0 ≤ 7301314; omega⟩ rfl rfl dL_law_930 ?_
  intro _ hu
  show jj_W _ _ _ _ _ _ _ _ _ _ _ _ _ _ _ _ _ 933 _ [.int (iI (f_lo (f_sr u9 12) 5)), .int (iI (Bj c))] (wL ka cI cJ td pr up dn mo sh co n K St Ex Am Ov Bj Aj BL AL He Cj dv Ca sd Cz ++ (wH ha cA hA nA ed cI cJ cZ td pr up dn dv rw sd mc n mo sh co Ca Cz K St Ex Am Bi As BL AL He Co ++ GG))
  obtain ⟨x2, hx2⟩ : ∃ z : Int, z = (f_lo (f_sr u9 12) 5) := ⟨_, rfl⟩
  have hbx2 : 0 ≤ x2 ∧ x2 < 5 := by rw [hx2]; exact f_lo_bd _ (by omega)
  refine jj_topi (b := x2) (hx2.symm) ?_
  refine jj_iadd C0 dL_law_933 ?_
  refine jj_iconst C0 dL_law_934 ?_
  refine jj_isub C0 dL_law_935 ?_
  obtain ⟨lm0, hlm0⟩ : ∃ z : Int, z = (((Bj c) + x2) - 2) := ⟨_, rfl⟩
  have hba := hBA c
  have hbb := hBj c
  have hbc := hAj c
  have hbd := hBL c
  have hbe := hAL c
  have hbf := hHe9 (7 * c + 6)
  have hbg := hHe9 (7 * c + w9)
  refine jj_topi (b := lm0) (hlm0.symm) ?_
  refine jj_istore C0 (lv' := [(31, .int (iI lm0)), (30, .int (iI 0)), (29, .int (iI (1 + x1))), (18, .int (iI (-1))), (17, .int (iI 1)), (16, .int (iI 1)), (14, .long (lI (f_W up dn dv td n K St Ex Am He Ca sh pr))), (13, .int (iI (w9 : Int))), (12, .int (iI (c : Int))), (11, .int (iI u9)), (10, .int (iI v9)), (9, .int (iI (t : Int))), (8, .ref (ka 6)), (7, .ref (ka 5)), (6, .ref (ka 4)), (5, .ref (ka 3)), (4, .ref (ka 2)), (3, .ref (ka 1)), (2, .ref (ka 0)), (1, .ref (ha 0)), (0, .ref b)]) (by decide) rfl dL_law_936 ?_
  refine jj_join (X := Int) (pcj := 949) (fun q9 => match q9 with | lm => [(31, .int (iI lm0)), (30, .int (iI 0)), (29, .int (iI (1 + x1))), (18, .int (iI (-1))), (17, .int (iI 1)), (16, .int (iI 1)), (14, .long (lI (f_W up dn dv td n K St Ex Am He Ca sh pr))), (13, .int (iI (w9 : Int))), (12, .int (iI (c : Int))), (11, .int (iI u9)), (10, .int (iI v9)), (9, .int (iI (t : Int))), (8, .ref (ka 6)), (7, .ref (ka 5)), (6, .ref (ka 4)), (5, .ref (ka 3)), (4, .ref (ka 2)), (3, .ref (ka 1)), (2, .ref (ka 0)), (1, .ref (ha 0)), (0, .ref b)]) (fun q9 => match q9 with | lm => [.int (iI lm)]) (fun q9 => match q9 with | lm => wL ka cI cJ td pr up dn mo sh co n K St Ex Am Ov Bj Aj BL AL He Cj dv Ca sd Cz ++ (wH ha cA hA nA ed cI cJ cZ td pr up dn dv rw sd mc n mo sh co Ca Cz K St Ex Am Bi As BL AL He Co ++ GG)) (fun q9 => match q9 with | lm => 0 ≤ lm ∧ lm ≤ 20000) ?_ ?_
  · intro q9 hq9
    obtain ⟨lm, rfl⟩ : ∃ z, z = q9 := ⟨_, rfl⟩
    have hlm : 0 ≤ lm ∧ lm ≤ 20000 := hq9
    refine jj_istore C0 (lv' := [(31, .int (iI lm)), (30, .int (iI 0)), (29, .int (iI (1 + x1))), (18, .int (iI (-1))), (17, .int (iI 1)), (16, .int (iI 1)), (14, .long (lI (f_W up dn dv td n K St Ex Am He Ca sh pr))), (13, .int (iI (w9 : Int))), (12, .int (iI (c : Int))), (11, .int (iI u9)), (10, .int (iI v9)), (9, .int (iI (t : Int))), (8, .ref (ka 6)), (7, .ref (ka 5)), (6, .ref (ka 4)), (5, .ref (ka 3)), (4, .ref (ka 2)), (3, .ref (ka 1)), (2, .ref (ka 0)), (1, .ref (ha 0)), (0, .ref b)]) (by decide) rfl dL_law_949 ?_
    refine jj_iload C0 1 rfl dL_law_951 ?_
    refine jj_if_eq C0 (by omega) dL_law_953 (tgt := 974) (by decide) (fun c_2 => ?_) (fun c_2 => absurd c_2 (by omega))
    refine jj_aload C0 14 rfl dL_law_974 ?_
    refine jj_iconst C0 dL_law_976 ?_
    refine jj_iald C0 (q0 := 4) (t0 := 0) (f := (f_lg td pr up dn mo sh co n)) (rfl) rfl (k := 4) (by omega) (by omega) (by decide) dL_law_977 ?_
    refine jj_topi (b := mo) (rfl) ?_
    refine jj_aload_n C0 17 rfl dL_law_978 ?_
    refine jj_bipush C0 dL_law_979 (by decide) ?_
    refine jj_iload C0 8 rfl dL_law_981 ?_
    refine jj_imul C0 dL_law_983 ?_
    refine jj_bipush C0 dL_law_984 (by decide) ?_
    refine jj_iadd C0 dL_law_986 ?_
    refine jj_iald C0 (q0 := 1) (t0 := 0) (f := (f_lh He)) (rfl) rfl (k := ((10 * c) + 6)) (by omega) (by omega) (by decide) dL_law_987 ?_
    refine jj_topi (b := (He (7 * c + 6))) (f_lh_at (by omega)) ?_
    refine jj_isub C0 dL_law_988 ?_
    refine jj_istore C0 (lv' := [(32, .int (iI (mo - (He (7 * c + 6))))), (31, .int (iI lm)), (30, .int (iI 0)), (29, .int (iI (1 + x1))), (18, .int (iI (-1))), (17, .int (iI 1)), (16, .int (iI 1)), (14, .long (lI (f_W up dn dv td n K St Ex Am He Ca sh pr))), (13, .int (iI (w9 : Int))), (12, .int (iI (c : Int))), (11, .int (iI u9)), (10, .int (iI v9)), (9, .int (iI (t : Int))), (8, .ref (ka 6)), (7, .ref (ka 5)), (6, .ref (ka 4)), (5, .ref (ka 3)), (4, .ref (ka 2)), (3, .ref (ka 1)), (2, .ref (ka 0)), (1, .ref (ha 0)), (0, .ref b)]) (by decide) rfl dL_law_989 ?_
    refine jj_iload C0 2 rfl dL_law_991 ?_
    refine jj_if_eq C0 (by omega) dL_law_993 (tgt := 1007) (by decide) (fun c_3 => ?_) (fun c_3 => absurd c_3 (by omega))
    refine jj_aload C0 16 rfl dL_law_1007 ?_
    refine jj_bipush C0 dL_law_1009 (by decide) ?_
    refine jj_iload C0 9 rfl dL_law_1011 ?_
    refine jj_iadd C0 dL_law_1013 ?_
    refine jj_iald C0 (q0 := 3) (t0 := 0) (f := (f_lq Bj Aj BL AL)) (rfl) rfl (k := (12 + c)) (by omega) (by omega) (by decide) dL_law_1014 ?_
    refine jj_topi (b := (BL c)) (f_lq_BL (by omega)) ?_
    refine jj_istore C0 (lv' := [(33, .int (iI (BL c))), (32, .int (iI (mo - (He (7 * c + 6))))), (31, .int (iI lm)), (30, .int (iI 0)), (29, .int (iI (1 + x1))), (18, .int (iI (-1))), (17, .int (iI 1)), (16, .int (iI 1)), (14, .long (lI (f_W up dn dv td n K St Ex Am He Ca sh pr))), (13, .int (iI (w9 : Int))), (12, .int (iI (c : Int))), (11, .int (iI u9)), (10, .int (iI v9)), (9, .int (iI (t : Int))), (8, .ref (ka 6)), (7, .ref (ka 5)), (6, .ref (ka 4)), (5, .ref (ka 3)), (4, .ref (ka 2)), (3, .ref (ka 1)), (2, .ref (ka 0)), (1, .ref (ha 0)), (0, .ref b)]) (by decide) rfl dL_law_1015 ?_
    refine jj_join (X := Unit) (pcj := 1101) (fun q9 => match q9 with | () => [(33, .int (iI (BL c))), (32, .int (iI (mo - (He (7 * c + 6))))), (31, .int (iI lm)), (30, .int (iI 0)), (29, .int (iI (1 + x1))), (18, .int (iI (-1))), (17, .int (iI 1)), (16, .int (iI 1)), (14, .long (lI (f_W up dn dv td n K St Ex Am He Ca sh pr))), (13, .int (iI (w9 : Int))), (12, .int (iI (c : Int))), (11, .int (iI u9)), (10, .int (iI v9)), (9, .int (iI (t : Int))), (8, .ref (ka 6)), (7, .ref (ka 5)), (6, .ref (ka 4)), (5, .ref (ka 3)), (4, .ref (ka 2)), (3, .ref (ka 1)), (2, .ref (ka 0)), (1, .ref (ha 0)), (0, .ref b)]) (fun q9 => match q9 with | () => [.int (iI (-(f_oq (-(1 + x1)) lm (Bi c) (As c) (BL c) (AL c) (He (7 * c + 6)) mo)))]) (fun q9 => match q9 with | () => wL ka cI cJ td pr up dn mo sh co n K St Ex Am Ov Bj Aj BL AL He Cj dv Ca sd Cz ++ (wH ha cA hA nA ed cI cJ cZ td pr up dn dv rw sd mc n mo sh co Ca Cz K St Ex Am Bi As BL AL He Co ++ GG)) (fun q9 => match q9 with | () => True) ?_ ?_
    · intro q9 hq9
      obtain ⟨⟩ := q9
      have _ : True := hq9
      refine jj_istore C0 (lv' := [(34, .int (iI (-(f_oq (-(1 + x1)) lm (Bi c) (As c) (BL c) (AL c) (He (7 * c + 6)) mo)))), (33, .int (iI (BL c))), (32, .int (iI (mo - (He (7 * c + 6))))), (31, .int (iI lm)), (30, .int (iI 0)), (29, .int (iI (1 + x1))), (18, .int (iI (-1))), (17, .int (iI 1)), (16, .int (iI 1)), (14, .long (lI (f_W up dn dv td n K St Ex Am He Ca sh pr))), (13, .int (iI (w9 : Int))), (12, .int (iI (c : Int))), (11, .int (iI u9)), (10, .int (iI v9)), (9, .int (iI (t : Int))), (8, .ref (ka 6)), (7, .ref (ka 5)), (6, .ref (ka 4)), (5, .ref (ka 3)), (4, .ref (ka 2)), (3, .ref (ka 1)), (2, .ref (ka 0)), (1, .ref (ha 0)), (0, .ref b)]) (by decide) rfl dL_law_1101 ?_
      have hx0 : ¬ 0 < (-(1 + x1)) := by omega
      have hb9 := f_oq_bd (x := (-(1 + x1))) (y := lm) (bi := Bi c) (ak := As c) (bl := BL c) (al := AL c) (he := He (7 * c + 6)) (mo := mo) (by omega) (hBL c).1 (hAL c).1
      refine jj_aload_n C0 22 rfl dL_law_1103 ?_
      refine jj_iload C0 10 rfl dL_law_1104 ?_
      refine jj_iload C0 11 rfl dL_law_1106 ?_
      refine jj_iload C0 4 rfl dL_law_1108 ?_
      refine jj_if_eq C0 (by omega) dL_law_1110 (tgt := 1118) (by decide) (fun c_4 => ?_) (fun c_4 => absurd c_4 (by omega))
      refine jj_iload C0 5 rfl dL_law_1118 ?_
      refine jj_ineg C0 dL_law_1120 ?_
      refine jj_iload C0 3 rfl dL_law_1121 ?_
      refine jj_toHw ?_
      refine jj_callSWi C0 (cells' := (cells + 1)) (slots' := (slots + 6)) (jj_weaki (fun A U H h => h.1.1) (cr_L_order_S hl (w := (w9 : Int)) (c := c) (x := (-(1 + x1))) (y := lm) (by omega) (by omega) (by omega) (by omega) hn (fun h9 => f_ED_app (hED0 h9)) hEx htd)) (vx_cwSW 5 hw (lw_gW hU_558 hU_559 hU_42 hU_560) rfl rfl rfl (by decide +kernel) ⟨Nat.le_of_ble_eq_true rfl, Nat.le_of_ble_eq_true rfl⟩) rfl rfl (Nat.le_of_ble_eq_true rfl) ⟨by show cells + 1 ≤ 600104; omega, by show slots + 6 ≤ 7301314; omega⟩ rfl rfl dL_law_1123 ?_
      intro _ hu
      show jj_W _ _ _ _ _ _ _ _ _ _ _ _ _ _ _ _ _ 1126 _ [.int (iI (-2000000003))] (wH ha cA hA nA ed cI cJ cZ td pr up dn dv rw sd mc n mo sh co Ca Cz K St Ex Am Bi As BL AL He Co ++ (GG ++ wL ka cI cJ td pr up dn mo sh co n K St Ex Am Ov Bj Aj BL AL He Cj dv Ca sd Cz))
      refine jj_iload C0 8 rfl dL_law_1126 ?_
      refine jj_if_eq C0 (by omega) dL_law_1128 (tgt := 1136) (by decide) (fun c_5 => absurd c_5 (by omega)) (fun c_5 => ?_)
      refine jj_ldc C0 (z := -2000000003) (by decide) (hw _ hU_472) dL_law_1131 ?_
      refine jj_goto C0 (tgt := 1138) dL_law_1133 (by decide) ?_
      refine jj_icmp_ne C0 (by omega) (by omega) dL_law_1138 (tgt := 1145) (by decide) (fun c_6 => absurd c_6 (by omega)) (fun c_6 => ?_)
      refine jj_iconst C0 dL_law_1141 ?_
      refine jj_goto C0 (tgt := 1146) dL_law_1142 (by decide) ?_
      refine jj_istore C0 (lv' := [(17, .int (iI 1)), (34, .int (iI (-(f_oq (-(1 + x1)) lm (Bi c) (As c) (BL c) (AL c) (He (7 * c + 6)) mo)))), (33, .int (iI (BL c))), (32, .int (iI (mo - (He (7 * c + 6))))), (31, .int (iI lm)), (30, .int (iI 0)), (29, .int (iI (1 + x1))), (18, .int (iI (-1))), (16, .int (iI 1)), (14, .long (lI (f_W up dn dv td n K St Ex Am He Ca sh pr))), (13, .int (iI (w9 : Int))), (12, .int (iI (c : Int))), (11, .int (iI u9)), (10, .int (iI v9)), (9, .int (iI (t : Int))), (8, .ref (ka 6)), (7, .ref (ka 5)), (6, .ref (ka 4)), (5, .ref (ka 3)), (4, .ref (ka 2)), (3, .ref (ka 1)), (2, .ref (ka 0)), (1, .ref (ha 0)), (0, .ref b)]) (by decide) rfl dL_law_1146 ?_
      refine jj_iload C0 8 rfl dL_law_1148 ?_
      refine jj_if_eq C0 (by omega) dL_law_1150 (tgt := 1156) (by decide) (fun c_7 => absurd c_7 (by omega)) (fun c_7 => ?_)
      refine jj_goto C0 (tgt := 2039) dL_law_1153 (by decide) ?_
      refine jj_lv [7, 0, 9, 12, 14, 15, 16, 17, 18, 19, 20, 21, 22, 23] rfl ?_
      exact kK cA hA nA ed rw mc GG td pr up dn dv sd n mo sh co Ca Cz Cz K St Ex Am Ov Bi As Bj Aj BL AL He Co Cj (f_W up dn dv td n K St Ex Am He Ca sh pr) (-1) _ _ (f_IV_k hV) (f_JV_t hW9) (hcc) (hG) (Or.inl ⟨rfl, rfl⟩) (by omega) (by omega)
    intro j1101
    refine jj_iload C0 3 rfl dL_law_1017 ?_
    refine jj_if_eq C0 (by omega) dL_law_1019 (tgt := 1044) (by decide) (fun c_8 => ?_) (fun c_8 => absurd c_8 (by omega))
    refine jj_iload C0 2 rfl dL_law_1044 ?_
    refine jj_aload C0 17 rfl dL_law_1046 ?_
    refine jj_iload C0 10 rfl dL_law_1048 ?_
    refine jj_iald C0 (q0 := 3) (t0 := 0) (f := (f_lq Bj Aj BL AL)) (rfl) rfl (k := c) (by omega) (by omega) (by decide) dL_law_1050 ?_
    refine jj_topi (b := (Bj c)) (f_lq_Bi (by omega)) ?_
    refine jj_icmp_le C0 (by omega) (by omega) dL_law_1051 (tgt := 1058) (by decide) (fun c_9 => ?_) (fun c_9 => ?_)
    · refine jj_iload C0 0 rfl dL_law_1058 ?_
      refine jj_istore C0 (lv' := [(34, .int (iI (BL c))), (33, .int (iI (BL c))), (32, .int (iI (mo - (He (7 * c + 6))))), (31, .int (iI lm)), (30, .int (iI 0)), (29, .int (iI (1 + x1))), (18, .int (iI (-1))), (17, .int (iI 1)), (16, .int (iI 1)), (14, .long (lI (f_W up dn dv td n K St Ex Am He Ca sh pr))), (13, .int (iI (w9 : Int))), (12, .int (iI (c : Int))), (11, .int (iI u9)), (10, .int (iI v9)), (9, .int (iI (t : Int))), (8, .ref (ka 6)), (7, .ref (ka 5)), (6, .ref (ka 4)), (5, .ref (ka 3)), (4, .ref (ka 2)), (3, .ref (ka 1)), (2, .ref (ka 0)), (1, .ref (ha 0)), (0, .ref b)]) (by decide) rfl dL_law_1060 ?_
      refine jj_iload C0 0 rfl dL_law_1062 ?_
      refine jj_iload C0 5 rfl dL_law_1064 ?_
      refine jj_icmp_ge C0 (by omega) (by omega) dL_law_1066 (tgt := 1074) (by decide) (fun c_10 => ?_) (fun c_10 => ?_)
      · refine jj_iload C0 5 rfl dL_law_1074 ?_
        refine jj_istore C0 (lv' := [(34, .int (iI (1 + x1))), (33, .int (iI (BL c))), (32, .int (iI (mo - (He (7 * c + 6))))), (31, .int (iI lm)), (30, .int (iI 0)), (29, .int (iI (1 + x1))), (18, .int (iI (-1))), (17, .int (iI 1)), (16, .int (iI 1)), (14, .long (lI (f_W up dn dv td n K St Ex Am He Ca sh pr))), (13, .int (iI (w9 : Int))), (12, .int (iI (c : Int))), (11, .int (iI u9)), (10, .int (iI v9)), (9, .int (iI (t : Int))), (8, .ref (ka 6)), (7, .ref (ka 5)), (6, .ref (ka 4)), (5, .ref (ka 3)), (4, .ref (ka 2)), (3, .ref (ka 1)), (2, .ref (ka 0)), (1, .ref (ha 0)), (0, .ref b)]) (by decide) rfl dL_law_1076 ?_
        refine jj_iload C0 0 rfl dL_law_1078 ?_
        refine jj_iload C0 2 rfl dL_law_1080 ?_
        refine jj_icmp_ge C0 (by omega) (by omega) dL_law_1082 (tgt := 1090) (by decide) (fun c_11 => ?_) (fun c_11 => ?_)
        · refine jj_iload C0 2 rfl dL_law_1090 ?_
          refine jj_if_ge C0 (by omega) dL_law_1092 (tgt := 1099) (by decide) (fun c_12 => ?_) (fun c_12 => ?_)
          · refine jj_iload C0 2 rfl dL_law_1099 ?_
            refine jj_topi (b := (-(f_oq (-(1 + x1)) lm (Bi c) (As c) (BL c) (AL c) (He (7 * c + 6)) mo))) (by rw [← f_tie_oq hQ]; unfold f_oq; rw [if_neg (by omega)]; split <;> omega) ?_
            refine jj_lv [1, 2, 3, 4, 5, 6, 7, 8, 9, 10, 11, 12, 13, 14, 15, 16, 17, 18, 19, 20, 21, 22, 23] rfl ?_
            exact j1101 () trivial
          · refine jj_iconst C0 dL_law_1095 ?_
            refine jj_goto C0 (tgt := 1101) dL_law_1096 (by decide) ?_
            refine jj_topi (b := (-(f_oq (-(1 + x1)) lm (Bi c) (As c) (BL c) (AL c) (He (7 * c + 6)) mo))) (by rw [← f_tie_oq hQ]; unfold f_oq; rw [if_neg (by omega)]; split <;> omega) ?_
            refine jj_lv [1, 2, 3, 4, 5, 6, 7, 8, 9, 10, 11, 12, 13, 14, 15, 16, 17, 18, 19, 20, 21, 22, 23] rfl ?_
            exact j1101 () trivial
        · refine jj_iload C0 0 rfl dL_law_1085 ?_
          refine jj_goto C0 (tgt := 1101) dL_law_1087 (by decide) ?_
          refine jj_topi (b := (-(f_oq (-(1 + x1)) lm (Bi c) (As c) (BL c) (AL c) (He (7 * c + 6)) mo))) (by rw [← f_tie_oq hQ]; unfold f_oq; rw [if_neg (by omega)]; split <;> omega) ?_
          refine jj_lv [1, 2, 3, 4, 5, 6, 7, 8, 9, 10, 11, 12, 13, 14, 15, 16, 17, 18, 19, 20, 21, 22, 23] rfl ?_
          exact j1101 () trivial
      · refine jj_iload C0 0 rfl dL_law_1069 ?_
        refine jj_goto C0 (tgt := 1076) dL_law_1071 (by decide) ?_
        refine jj_istore C0 (lv' := [(34, .int (iI (BL c))), (33, .int (iI (BL c))), (32, .int (iI (mo - (He (7 * c + 6))))), (31, .int (iI lm)), (30, .int (iI 0)), (29, .int (iI (1 + x1))), (18, .int (iI (-1))), (17, .int (iI 1)), (16, .int (iI 1)), (14, .long (lI (f_W up dn dv td n K St Ex Am He Ca sh pr))), (13, .int (iI (w9 : Int))), (12, .int (iI (c : Int))), (11, .int (iI u9)), (10, .int (iI v9)), (9, .int (iI (t : Int))), (8, .ref (ka 6)), (7, .ref (ka 5)), (6, .ref (ka 4)), (5, .ref (ka 3)), (4, .ref (ka 2)), (3, .ref (ka 1)), (2, .ref (ka 0)), (1, .ref (ha 0)), (0, .ref b)]) (by decide) rfl dL_law_1076 ?_
        refine jj_iload C0 0 rfl dL_law_1078 ?_
        refine jj_iload C0 2 rfl dL_law_1080 ?_
        refine jj_icmp_ge C0 (by omega) (by omega) dL_law_1082 (tgt := 1090) (by decide) (fun c_13 => ?_) (fun c_13 => ?_)
        · refine jj_iload C0 2 rfl dL_law_1090 ?_
          refine jj_if_ge C0 (by omega) dL_law_1092 (tgt := 1099) (by decide) (fun c_14 => ?_) (fun c_14 => ?_)
          · refine jj_iload C0 2 rfl dL_law_1099 ?_
            refine jj_topi (b := (-(f_oq (-(1 + x1)) lm (Bi c) (As c) (BL c) (AL c) (He (7 * c + 6)) mo))) (by rw [← f_tie_oq hQ]; unfold f_oq; rw [if_neg (by omega)]; split <;> omega) ?_
            refine jj_lv [1, 2, 3, 4, 5, 6, 7, 8, 9, 10, 11, 12, 13, 14, 15, 16, 17, 18, 19, 20, 21, 22, 23] rfl ?_
            exact j1101 () trivial
          · refine jj_iconst C0 dL_law_1095 ?_
            refine jj_goto C0 (tgt := 1101) dL_law_1096 (by decide) ?_
            refine jj_topi (b := (-(f_oq (-(1 + x1)) lm (Bi c) (As c) (BL c) (AL c) (He (7 * c + 6)) mo))) (by rw [← f_tie_oq hQ]; unfold f_oq; rw [if_neg (by omega)]; split <;> omega) ?_
            refine jj_lv [1, 2, 3, 4, 5, 6, 7, 8, 9, 10, 11, 12, 13, 14, 15, 16, 17, 18, 19, 20, 21, 22, 23] rfl ?_
            exact j1101 () trivial
        · refine jj_iload C0 0 rfl dL_law_1085 ?_
          refine jj_goto C0 (tgt := 1101) dL_law_1087 (by decide) ?_
          refine jj_topi (b := (-(f_oq (-(1 + x1)) lm (Bi c) (As c) (BL c) (AL c) (He (7 * c + 6)) mo))) (by rw [← f_tie_oq hQ]; unfold f_oq; rw [if_neg (by omega)]; split <;> omega) ?_
          refine jj_lv [1, 2, 3, 4, 5, 6, 7, 8, 9, 10, 11, 12, 13, 14, 15, 16, 17, 18, 19, 20, 21, 22, 23] rfl ?_
          exact j1101 () trivial
    · refine jj_iconst C0 dL_law_1054 ?_
      refine jj_goto C0 (tgt := 1060) dL_law_1055 (by decide) ?_
      refine jj_istore C0 (lv' := [(34, .int (iI 0)), (33, .int (iI (BL c))), (32, .int (iI (mo - (He (7 * c + 6))))), (31, .int (iI lm)), (30, .int (iI 0)), (29, .int (iI (1 + x1))), (18, .int (iI (-1))), (17, .int (iI 1)), (16, .int (iI 1)), (14, .long (lI (f_W up dn dv td n K St Ex Am He Ca sh pr))), (13, .int (iI (w9 : Int))), (12, .int (iI (c : Int))), (11, .int (iI u9)), (10, .int (iI v9)), (9, .int (iI (t : Int))), (8, .ref (ka 6)), (7, .ref (ka 5)), (6, .ref (ka 4)), (5, .ref (ka 3)), (4, .ref (ka 2)), (3, .ref (ka 1)), (2, .ref (ka 0)), (1, .ref (ha 0)), (0, .ref b)]) (by decide) rfl dL_law_1060 ?_
      refine jj_iload C0 0 rfl dL_law_1062 ?_
      refine jj_iload C0 5 rfl dL_law_1064 ?_
      refine jj_icmp_ge C0 (by omega) (by omega) dL_law_1066 (tgt := 1074) (by decide) (fun c_15 => ?_) (fun c_15 => ?_)
      · refine jj_iload C0 5 rfl dL_law_1074 ?_
        refine jj_istore C0 (lv' := [(34, .int (iI (1 + x1))), (33, .int (iI (BL c))), (32, .int (iI (mo - (He (7 * c + 6))))), (31, .int (iI lm)), (30, .int (iI 0)), (29, .int (iI (1 + x1))), (18, .int (iI (-1))), (17, .int (iI 1)), (16, .int (iI 1)), (14, .long (lI (f_W up dn dv td n K St Ex Am He Ca sh pr))), (13, .int (iI (w9 : Int))), (12, .int (iI (c : Int))), (11, .int (iI u9)), (10, .int (iI v9)), (9, .int (iI (t : Int))), (8, .ref (ka 6)), (7, .ref (ka 5)), (6, .ref (ka 4)), (5, .ref (ka 3)), (4, .ref (ka 2)), (3, .ref (ka 1)), (2, .ref (ka 0)), (1, .ref (ha 0)), (0, .ref b)]) (by decide) rfl dL_law_1076 ?_
        refine jj_iload C0 0 rfl dL_law_1078 ?_
        refine jj_iload C0 2 rfl dL_law_1080 ?_
        refine jj_icmp_ge C0 (by omega) (by omega) dL_law_1082 (tgt := 1090) (by decide) (fun c_16 => ?_) (fun c_16 => ?_)
        · refine jj_iload C0 2 rfl dL_law_1090 ?_
          refine jj_if_ge C0 (by omega) dL_law_1092 (tgt := 1099) (by decide) (fun c_17 => ?_) (fun c_17 => ?_)
          · refine jj_iload C0 2 rfl dL_law_1099 ?_
            refine jj_topi (b := (-(f_oq (-(1 + x1)) lm (Bi c) (As c) (BL c) (AL c) (He (7 * c + 6)) mo))) (by rw [← f_tie_oq hQ]; unfold f_oq; rw [if_neg (by omega)]; split <;> omega) ?_
            refine jj_lv [1, 2, 3, 4, 5, 6, 7, 8, 9, 10, 11, 12, 13, 14, 15, 16, 17, 18, 19, 20, 21, 22, 23] rfl ?_
            exact j1101 () trivial
          · refine jj_iconst C0 dL_law_1095 ?_
            refine jj_goto C0 (tgt := 1101) dL_law_1096 (by decide) ?_
            refine jj_topi (b := (-(f_oq (-(1 + x1)) lm (Bi c) (As c) (BL c) (AL c) (He (7 * c + 6)) mo))) (by rw [← f_tie_oq hQ]; unfold f_oq; rw [if_neg (by omega)]; split <;> omega) ?_
            refine jj_lv [1, 2, 3, 4, 5, 6, 7, 8, 9, 10, 11, 12, 13, 14, 15, 16, 17, 18, 19, 20, 21, 22, 23] rfl ?_
            exact j1101 () trivial
        · refine jj_iload C0 0 rfl dL_law_1085 ?_
          refine jj_goto C0 (tgt := 1101) dL_law_1087 (by decide) ?_
          refine jj_topi (b := (-(f_oq (-(1 + x1)) lm (Bi c) (As c) (BL c) (AL c) (He (7 * c + 6)) mo))) (by rw [← f_tie_oq hQ]; unfold f_oq; rw [if_neg (by omega)]; split <;> omega) ?_
          refine jj_lv [1, 2, 3, 4, 5, 6, 7, 8, 9, 10, 11, 12, 13, 14, 15, 16, 17, 18, 19, 20, 21, 22, 23] rfl ?_
          exact j1101 () trivial
      · refine jj_iload C0 0 rfl dL_law_1069 ?_
        refine jj_goto C0 (tgt := 1076) dL_law_1071 (by decide) ?_
        refine jj_istore C0 (lv' := [(34, .int (iI 0)), (33, .int (iI (BL c))), (32, .int (iI (mo - (He (7 * c + 6))))), (31, .int (iI lm)), (30, .int (iI 0)), (29, .int (iI (1 + x1))), (18, .int (iI (-1))), (17, .int (iI 1)), (16, .int (iI 1)), (14, .long (lI (f_W up dn dv td n K St Ex Am He Ca sh pr))), (13, .int (iI (w9 : Int))), (12, .int (iI (c : Int))), (11, .int (iI u9)), (10, .int (iI v9)), (9, .int (iI (t : Int))), (8, .ref (ka 6)), (7, .ref (ka 5)), (6, .ref (ka 4)), (5, .ref (ka 3)), (4, .ref (ka 2)), (3, .ref (ka 1)), (2, .ref (ka 0)), (1, .ref (ha 0)), (0, .ref b)]) (by decide) rfl dL_law_1076 ?_
        refine jj_iload C0 0 rfl dL_law_1078 ?_
        refine jj_iload C0 2 rfl dL_law_1080 ?_
        refine jj_icmp_ge C0 (by omega) (by omega) dL_law_1082 (tgt := 1090) (by decide) (fun c_18 => ?_) (fun c_18 => ?_)
        · refine jj_iload C0 2 rfl dL_law_1090 ?_
          refine jj_if_ge C0 (by omega) dL_law_1092 (tgt := 1099) (by decide) (fun c_19 => ?_) (fun c_19 => ?_)
          · refine jj_iload C0 2 rfl dL_law_1099 ?_
            refine jj_topi (b := (-(f_oq (-(1 + x1)) lm (Bi c) (As c) (BL c) (AL c) (He (7 * c + 6)) mo))) (by rw [← f_tie_oq hQ]; unfold f_oq; rw [if_neg (by omega)]; split <;> omega) ?_
            refine jj_lv [1, 2, 3, 4, 5, 6, 7, 8, 9, 10, 11, 12, 13, 14, 15, 16, 17, 18, 19, 20, 21, 22, 23] rfl ?_
            exact j1101 () trivial
          · refine jj_iconst C0 dL_law_1095 ?_
            refine jj_goto C0 (tgt := 1101) dL_law_1096 (by decide) ?_
            refine jj_topi (b := (-(f_oq (-(1 + x1)) lm (Bi c) (As c) (BL c) (AL c) (He (7 * c + 6)) mo))) (by rw [← f_tie_oq hQ]; unfold f_oq; rw [if_neg (by omega)]; split <;> omega) ?_
            refine jj_lv [1, 2, 3, 4, 5, 6, 7, 8, 9, 10, 11, 12, 13, 14, 15, 16, 17, 18, 19, 20, 21, 22, 23] rfl ?_
            exact j1101 () trivial
        · refine jj_iload C0 0 rfl dL_law_1085 ?_
          refine jj_goto C0 (tgt := 1101) dL_law_1087 (by decide) ?_
          refine jj_topi (b := (-(f_oq (-(1 + x1)) lm (Bi c) (As c) (BL c) (AL c) (He (7 * c + 6)) mo))) (by rw [← f_tie_oq hQ]; unfold f_oq; rw [if_neg (by omega)]; split <;> omega) ?_
          refine jj_lv [1, 2, 3, 4, 5, 6, 7, 8, 9, 10, 11, 12, 13, 14, 15, 16, 17, 18, 19, 20, 21, 22, 23] rfl ?_
          exact j1101 () trivial
  intro j949
  refine jj_iload C0 0 rfl dL_law_938 ?_
  refine jj_if_ge C0 (by omega) dL_law_940 (tgt := 947) (by decide) (fun c_20 => ?_) (fun c_20 => ?_)
  · refine jj_iload C0 0 rfl dL_law_947 ?_
    exact j949 lm0 (by omega)
  · refine jj_iconst C0 dL_law_943 ?_
    refine jj_goto C0 (tgt := 949) dL_law_944 (by decide) ?_
    exact j949 0 (by omega)
set_option maxHeartbeats 4000000 in
set_option maxRecDepth 100000 in
theorem lq_order (hC9 : f_C9 p l s m args meth c9 dC dI A cI cJ cZ cO es mi sa b L xs) (hcs : cells + 100 ≤ 600104 ∧ slots + 4000 ≤ 7301314) (hk9 : k9 ≤ 89) (ht9 : t ≤ 89) (hI : f_IV k9 td n pr up dn dv sd mo sh Ca K St Ex Am Ov Bi As Bj Aj BL AL He Co) (hJ : f_JV t td n pr dv sh St Ex Bj Aj) (hcc : f_JC Ov Co Cj) (hG : f_LG cO es n ed cA GG) (hu9 : iR u9) (hv9 : iR v9) (kK : f_K9 p l e s m args below meth c9 dC dI A Q ha ka cI cJ cZ cO es b k9 t u9 cells slots)  (hwc : n = 0 ∨ c < n) (hww : w9 ≤ 6) (hio : (io = 1 ∧ (n = 0 ∨ Ov c = 1)) ∨ (io = 0 ∧ c < n ∧ Ov c = 0)) : jj_W p l e room_1 s m args below meth c9 (dC, dI) vwCl A 46 cells slots Q 858 [(18, .int (iI (-1))), (17, .int (iI 1)), (16, .int (iI io)), (14, .long (lI (f_W up dn dv td n K St Ex Am He Ca sh pr))), (13, .int (iI (w9 : Int))), (12, .int (iI (c : Int))), (11, .int (iI u9)), (10, .int (iI v9)), (9, .int (iI (t : Int))), (8, .ref (ka 6)), (7, .ref (ka 5)), (6, .ref (ka 4)), (5, .ref (ka 3)), (4, .ref (ka 2)), (3, .ref (ka 1)), (2, .ref (ka 0)), (1, .ref (ha 0)), (0, .ref b)] [] (wH ha cA hA nA ed cI cJ cZ td pr up dn dv rw sd mc n mo sh co Ca Cz K St Ex Am Bi As BL AL He Co ++ (GG ++ wL ka cI cJ td pr up dn mo sh co n K St Ex Am Ov Bj Aj BL AL He Cj dv Ca sd Cz)) := by
  obtain ⟨C0, hl, hL⟩ := hC9
  have hw := C0.2.2.2.2.1
  have hEV := hEVS es mi sa b L xs
  have hED0 : 0 < n → f_ED cA n ed cO GG := fun h9 => by have h8 := f_LG_ED (M := []) hG h9; rwa [List.append_nil] at h8
  have hCj9 := hcc.1
  have hV := hI
  obtain ⟨⟨htd, hn, hpr, hup, hdn, hdv, hsd, hmo, hsh⟩, ⟨hK, hSt, hEx, hAm, hOv, hovs, hexs, hovn⟩, hQ9, ⟨hHe, hsums, hHz⟩, ⟨hCo, hCz⟩, hCa⟩ := hI
  have hQ := hQ9
  obtain ⟨hBi, hAs, hBj, hAj, hBL, hAL, hQt, hQ0, hQn, hQo⟩ := hQ9
  have hW9 := hJ
  obtain ⟨hn6, htd5, hex5, hSp, hdv9, hBA, hsh9⟩ := hJ
  have hexs1 : ∀ c, c < n → Ex c ≤ (td : Int) + 10 := fun c hc => (hexs c hc).1
  have hHe9 : ∀ j, -999000 ≤ He j ∧ He j ≤ 999000 := fun j => by have := hHe j; omega
  have hHe6 : ∀ j, -1000000 ≤ He j ∧ He j ≤ 1000000 := fun j => by have := hHe j; omega
  have hCa9 : ∀ j, -100000000000000000 ≤ Ca j ∧ Ca j ≤ 100000000000000000 := fun j => by have := hCa j; omega
  have hov5 : ∀ c, c < n → (Ov c = 1 ∧ Ex c < (td : Int)) ∨ (Ov c = 0 ∧ (td : Int) ≤ Ex c ∧ Ex c ≤ (td : Int) + 5) := fun c hc => by have h1 := hovs c hc; have h2 := hex5 c hc; omega
  have hovw : ∀ c, c < n → He (7 * c + 6) = 0 ∨ (Ov c = 1 ∧ Ex c < (td : Int)) ∨ (Ov c = 0 ∧ (td : Int) ≤ Ex c ∧ Ex c ≤ (td : Int) + 5) := fun c hc => Or.inr (hov5 c hc)
  refine jj_aload C0 11 rfl dL_law_858 ?_
  refine jj_bipush C0 dL_law_860 (by decide) ?_
  refine jj_toLw ?_
  refine jj_iald C0 (q0 := 4) (t0 := 0) (f := (f_lg td pr up dn mo sh co n)) (rfl) rfl (k := 7) (by omega) (by omega) (by decide) dL_law_862 ?_
  refine jj_topi (b := (n : Int)) (rfl) ?_
  refine jj_if_eq C0 (by omega) dL_law_863 (tgt := 2039) (by decide) (fun c_1 => ?_) (fun c_1 => ?_)
  · refine jj_toHw ?_
    refine jj_lv [0, 1, 3, 6, 8, 9, 10, 11, 12, 13, 14, 15, 16, 17] rfl ?_
    exact kK cA hA nA ed rw mc GG td pr up dn dv sd n mo sh co Ca Cz Cz K St Ex Am Ov Bi As Bj Aj BL AL He Co Cj (f_W up dn dv td n K St Ex Am He Ca sh pr) (-1) _ _ (f_IV_k hV) (f_JV_t hW9) (hcc) (hG) (Or.inl ⟨rfl, rfl⟩) (by omega) (by omega)
  · refine jj_iload C0 4 rfl dL_law_866 ?_
    refine jj_bipush C0 dL_law_868 (by decide) ?_
    refine jj_icmp_ne C0 (by omega) (by omega) dL_law_870 (tgt := 876) (by decide) (fun c_2 => ?_) (fun c_2 => ?_)
    · refine jj_iconst C0 dL_law_876 ?_
      refine jj_iload C0 6 rfl dL_law_877 ?_
      refine jj_bipush C0 dL_law_879 (by decide) ?_
      refine jj_callSi C0 (cells' := cells) (slots' := slots) (cc_L_low hEV (v := u9) (m := 40) (by omega)) (cwS 2 hw (lw_gS hU_167 hU_168 hU_42 hU_169) rfl rfl rfl (by decide +kernel) ⟨Nat.le_of_ble_eq_true rfl, Nat.le_of_ble_eq_true rfl⟩) rfl rfl (Nat.le_of_ble_eq_true rfl) ⟨by show cells + 0 ≤ 600104; omega, by show slots + 0 ≤ 7301314; omega⟩ rfl rfl dL_law_881 ?_
      intro _ hu
      show jj_W _ _ _ _ _ _ _ _ _ _ _ _ _ _ _ _ _ 884 _ [.int (iI (f_lo u9 40)), .int (iI 1)] (wL ka cI cJ td pr up dn mo sh co n K St Ex Am Ov Bj Aj BL AL He Cj dv Ca sd Cz ++ (wH ha cA hA nA ed cI cJ cZ td pr up dn dv rw sd mc n mo sh co Ca Cz K St Ex Am Bi As BL AL He Co ++ GG))
      obtain ⟨x1, hx1⟩ : ∃ z : Int, z = (f_lo u9 40) := ⟨_, rfl⟩
      have hbx1 : 0 ≤ x1 ∧ x1 < 40 := by rw [hx1]; exact f_lo_bd _ (by omega)
      refine jj_topi (b := x1) (hx1.symm) ?_
      refine jj_iadd C0 dL_law_884 ?_
      refine jj_istore C0 (lv' := [(29, .int (iI (1 + x1))), (18, .int (iI (-1))), (17, .int (iI 1)), (16, .int (iI io)), (14, .long (lI (f_W up dn dv td n K St Ex Am He Ca sh pr))), (13, .int (iI (w9 : Int))), (12, .int (iI (c : Int))), (11, .int (iI u9)), (10, .int (iI v9)), (9, .int (iI (t : Int))), (8, .ref (ka 6)), (7, .ref (ka 5)), (6, .ref (ka 4)), (5, .ref (ka 3)), (4, .ref (ka 2)), (3, .ref (ka 1)), (2, .ref (ka 0)), (1, .ref (ha 0)), (0, .ref b)]) (by decide) rfl dL_law_885 ?_
      refine jj_iload C0 7 rfl dL_law_887 ?_
      refine jj_sipush C0 dL_law_889 (by decide) ?_
      refine jj_iandX C0 dL_law_892 ?_
      have hR892 := f_an_R u9 1024
      refine jj_if_ne C0 (by omega) dL_law_893 (tgt := 900) (by decide) (fun c_3 => ?_) (fun c_3 => ?_)
      · refine jj_toHw ?_
        have hcn : c < n := by omega
        rcases (by omega : (Ov c = 0 ∧ io = 0) ∨ (Ov c = 1 ∧ io = 1)) with ⟨h7, h8⟩ | ⟨h7, h8⟩
        · subst h8; exact lq_orE ⟨C0, hl, hL⟩ hcs hk9 ht9 hV hW9 hcc hG hu9 hv9 kK hcn (by omega) h7 hbx1
        · subst h8; exact lq_orES ⟨C0, hl, hL⟩ hcs hk9 ht9 hV hW9 hcc hG hu9 hv9 kK hcn (by omega) h7 hbx1
      · refine jj_toHw ?_
        have hcn : c < n := by omega
        rcases (by omega : (Ov c = 0 ∧ io = 0) ∨ (Ov c = 1 ∧ io = 1)) with ⟨h7, h8⟩ | ⟨h7, h8⟩
        · subst h8; exact lq_orB ⟨C0, hl, hL⟩ hcs hk9 ht9 hV hW9 hcc hG hu9 hv9 kK hcn (by omega) h7 hbx1
        · subst h8; exact lq_orBS ⟨C0, hl, hL⟩ hcs hk9 ht9 hV hW9 hcc hG hu9 hv9 kK hcn (by omega) h7 hbx1
    · refine jj_goto C0 (tgt := 2039) dL_law_873 (by decide) ?_
      refine jj_toHw ?_
      refine jj_lv [0, 1, 3, 6, 8, 9, 10, 11, 12, 13, 14, 15, 16, 17] rfl ?_
      exact kK cA hA nA ed rw mc GG td pr up dn dv sd n mo sh co Ca Cz Cz K St Ex Am Ov Bi As Bj Aj BL AL He Co Cj (f_W up dn dv td n K St Ex Am He Ca sh pr) (-1) _ _ (f_IV_k hV) (f_JV_t hW9) (hcc) (hG) (Or.inl ⟨rfl, rfl⟩) (by omega) (by omega)
end P8
