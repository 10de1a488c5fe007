section CC26
variable {p : Program} {l : Launch} {e : Env} {s : State} {m : MethodId} {args : Array Value} {below : List Frame} {meth : Method} {c9 : Code} {dC : Nat → ClassId} {dI : Nat → Nat → Nat} {A : Nat → Prop} {Q : State → Prop} {ha ad : Nat → Nat} {cI cJ cZ cO : ClassId} {o es mi b L i k cells slots : Nat} {sa : Nat → Nat} {xs : Nat → Int32} {cA hA nA : Nat → Nat} {ed : Nat} {rw F : Nat → Int} {mc : Int} {GG : va_W} {th be : Int} {Ab : Nat → Int} {td : Nat} {pr up dn : Int} {dv : Nat → Int} {sd : Int} {n : Nat} {mo sh co : Int} {Ca Cz K St Ex Am Ov Bi As Bj Aj BL AL He Co : Nat → Int}
set_option maxHeartbeats 4000000 in
set_option maxRecDepth 100000 in
theorem ll_exercise (hC9 : f_CC p l s m args meth c9 dC dI A cI cJ cZ cO es mi sa b L xs) (hi : i + 5 ≤ L) (hik : i = 5 * k) (hcs : cells + 8 ≤ 601024 ∧ slots + 80 ≤ 7293034) (hI : f_IV k td n pr up dn dv sd mo sh Ca K St Ex Am Ov Bi As Bj Aj BL AL He Co) (hG : f_LG cO es n ed cA GG) (kK : f_KK p l e s m args below meth c9 dC dI A Q ha ad cI cJ cZ cO o es b i k cells slots) {h5 c L5 : Nat} {a1 : Int} (h1 : (xs (i + 1)).toInt = a1) (h2 : (xs (i + 2)).toInt = (c : Int)) (h3 : (xs (i + 3)).toInt = (L5 : Int)) (hcn : c < n) (hov0 : Ov c = 0) (hzk : (a1 = -1 ∧ h5 = 6) ∨ (a1 = (h5 : Int) ∧ h5 ≤ 5)) (hL5 : 1 ≤ L5 ∧ L5 ≤ 1000) (hHL : (L5 : Int) ≤ He (7 * c + h5)) (ham : Am c ≠ 0 ∨ Ex c = (td : Int)) : jj_W p l e room_1 s m args below meth c9 (dC, dI) vwCl A 8 cells slots Q 780 [(4, .int (iI (i : Int))), (3, .ref o), (2, .ref (ad 0)), (1, .ref (ha 0)), (0, .ref b)] [] (wH ha cA hA nA ed cI cJ cZ td pr up dn dv rw sd mc n mo sh co Ca Cz K St Ex Am Bi As BL AL He Co ++ ((o, .inl (cJ, 1, .inr (.inl (lA F)))) :: (GG ++ wM ad cI cJ cZ th td pr up dn dv n K St Ex Am Ov Bj Aj BL AL He Co Ca mo sh co sd Cz Ab be))) := by
  obtain ⟨C0, hl, hX, hbl, hbA, hL⟩ := hC9
  have hw := C0.2.2.2.2.1
  have hEV := hEVW es mi sa
  have hV := hI
  obtain ⟨⟨htd, hn, hpr, hup, hdn, hdv, hsd, hmo, hsh⟩, ⟨hK, hSt, hEx, hAm, hOv, hovs, hexs, hovn⟩, hQ9, ⟨hHe, hsums, hHz⟩, ⟨hCo, hCz⟩, hCa⟩ := hI
  have hQ := hQ9
  obtain ⟨hBi, hAs, hBj, hAj, hBL, hAL, hQt, hQ0, hQn, hQo⟩ := hQ9
  have hED0 : 0 < n → f_ED cA n ed cO (GG ++ wM ad cI cJ cZ th td pr up dn dv n K St Ex Am Ov Bj Aj BL AL He Co Ca mo sh co sd Cz Ab be) := f_LG_ED hG
  have hexs1 : ∀ c, c < n → Ex c ≤ (td : Int) + 10 := fun c hc => (hexs c hc).1
  have hk5 : k ≤ 511 := by omega
  have hHe9 : ∀ j, -999000 ≤ He j ∧ He j ≤ 999000 := fun j => by have := hHe j; omega
  have hHe6 : ∀ j, -1000000 ≤ He j ∧ He j ≤ 1000000 := fun j => by have := hHe j; omega
  have hCa9 : ∀ j, -100000000000000000 ≤ Ca j ∧ Ca j ≤ 100000000000000000 := fun j => by have := hCa j; omega
  have hov1 : (td : Int) ≤ Ex c := by have := hovs c hcn; omega
  have hp9 := f_pays_pr (ki := K c) (hSt c) hpr
  have hk6 : h5 ≤ 6 := by omega
  refine jj_aload_n C0 3 rfl dL_law_780 ?_
  refine jj_aload_n C0 4 rfl dL_law_781 ?_
  refine jj_iload C0 0 rfl dL_law_782 ?_
  refine jj_iconst C0 dL_law_784 ?_
  refine jj_iadd C0 dL_law_785 ?_
  refine jj_sald C0 hX hbl hbA hL (k := (i + 1)) (by omega) (by omega) dL_law_786 ?_
  refine jj_topi (b := a1) h1 ?_
  refine jj_aload_n C0 4 rfl dL_law_787 ?_
  refine jj_iload C0 0 rfl dL_law_788 ?_
  refine jj_iconst C0 dL_law_790 ?_
  refine jj_iadd C0 dL_law_791 ?_
  refine jj_sald C0 hX hbl hbA hL (k := (i + 2)) (by omega) (by omega) dL_law_792 ?_
  refine jj_topi (b := (c : Int)) h2 ?_
  refine jj_aload_n C0 4 rfl dL_law_793 ?_
  refine jj_iload C0 0 rfl dL_law_794 ?_
  refine jj_iconst C0 dL_law_796 ?_
  refine jj_iadd C0 dL_law_797 ?_
  refine jj_sald C0 hX hbl hbA hL (k := (i + 3)) (by omega) (by omega) dL_law_798 ?_
  refine jj_topi (b := (L5 : Int)) h3 ?_
  refine jj_aload_n C0 1 rfl dL_law_799 ?_
  refine jj_callSWi C0 (cells' := cells) (slots' := slots) (jj_weaki (fun A U H h => h.1) (cw_L_exercise hl (z := a1) (c := c) (L := L5) (k := h5) hzk hL5 hHL hov1 ham hcn (hsums c hcn) hsd hpr hexs1 hn htd hup hdn hdv hK hSt hEx hAm hHe6 hsh hED0 (by omega))) (vx_cwSW 5 hw (lw_gW hU_647 hU_648 hU_59 hU_649) rfl rfl rfl (by decide +kernel) ⟨Nat.le_of_ble_eq_true rfl, Nat.le_of_ble_eq_true rfl⟩) rfl rfl (Nat.le_of_ble_eq_true rfl) ⟨by show cells + 0 ≤ 601024; omega, by show slots + 0 ≤ 7293034; omega⟩ rfl rfl dL_law_800 ?_
  intro r8_1 hu
  show jj_W _ _ _ _ _ _ _ _ _ _ _ _ _ _ _ _ _ 803 _ [.int (iI 0)] (wH ha cA hA nA ed cI cJ cZ td pr up dn dv r8_1 ((f_xN c h5 (f_pays (K c) (St c) pr) L5 (He, Ca, sd)).2.2) mc n mo sh co ((f_xN c h5 (f_pays (K c) (St c) pr) L5 (He, Ca, sd)).2.1) (va_up Cz 4 ((Cz 4) + ((f_W up dn dv td n K St Ex Am ((f_xN c h5 (f_pays (K c) (St c) pr) L5 (He, Ca, sd)).1) ((f_xN c h5 (f_pays (K c) (St c) pr) L5 (He, Ca, sd)).2.1) sh pr) - (f_W up dn dv td n K St Ex Am He Ca sh pr)))) K St Ex Am Bi As BL AL ((f_xN c h5 (f_pays (K c) (St c) pr) L5 (He, Ca, sd)).1) Co ++ ((o, .inl (cJ, 1, .inr (.inl (lA (va_up F 0 (f_pays (K c) (St c) pr)))))) :: (GG ++ wM ad cI cJ cZ th td pr up dn dv n K St Ex Am Ov Bj Aj BL AL He Co Ca mo sh co sd Cz Ab be)))
  refine jj_istore C0 (lv' := [(5, .int (iI 0)), (4, .int (iI (i : Int))), (3, .ref o), (2, .ref (ad 0)), (1, .ref (ha 0)), (0, .ref b)]) (by decide) rfl dL_law_803 ?_
  refine jj_toM ?_
  refine jj_aload_n C0 3 rfl dL_law_805 ?_
  refine jj_aload_n C0 5 rfl dL_law_806 ?_
  refine jj_iload C0 1 rfl dL_law_807 ?_
  refine jj_iconst C0 dL_law_809 ?_
  refine jj_iadd C0 dL_law_810 ?_
  refine jj_sald C0 hX hbl hbA hL (k := (i + 1)) (by omega) (by omega) dL_law_811 ?_
  refine jj_topi (b := a1) h1 ?_
  refine jj_aload_n C0 5 rfl dL_law_812 ?_
  refine jj_iload C0 1 rfl dL_law_813 ?_
  refine jj_iconst C0 dL_law_815 ?_
  refine jj_iadd C0 dL_law_816 ?_
  refine jj_sald C0 hX hbl hbA hL (k := (i + 2)) (by omega) (by omega) dL_law_817 ?_
  refine jj_topi (b := (c : Int)) h2 ?_
  refine jj_aload_n C0 5 rfl dL_law_818 ?_
  refine jj_iload C0 1 rfl dL_law_819 ?_
  refine jj_iconst C0 dL_law_821 ?_
  refine jj_iadd C0 dL_law_822 ?_
  refine jj_sald C0 hX hbl hbA hL (k := (i + 3)) (by omega) (by omega) dL_law_823 ?_
  refine jj_topi (b := (L5 : Int)) h3 ?_
  refine jj_callVi C0 (cells' := cells) (slots' := slots) (cc_X4_exercise hEV (z := a1) (c := c) (L := L5) (k := h5) hzk hL5 hHL hov0 ham hcn (hsums c hcn) hsd hovs hexs hn htd hpr hup hdn hdv hK hSt hEx hAm hOv hHe6 hsh) (cwV 3 hw (lw_gV hU_981 hU_982 hU_983 hU_66 hU_984) rfl rfl rfl (by decide +kernel) ⟨Nat.le_of_ble_eq_true rfl, Nat.le_of_ble_eq_true rfl⟩) (ci := 5) (q0 := 0) rfl (rfl) rfl rfl (Nat.le_of_ble_eq_true rfl) ⟨by show cells + 0 ≤ 601024; omega, by show slots + 0 ≤ 7293034; omega⟩ rfl rfl dL_law_824 ?_
  intro u hu
  obtain ⟨ab_2, b_2⟩ := u
  show jj_W _ _ _ _ _ _ _ _ _ _ _ _ _ _ _ _ _ 827 _ [.int (iI (f_pays (K c) (St c) pr))] (wM ad cI cJ cZ 0 td pr up dn dv n K St Ex Am Ov Bj Aj BL AL ((f_xN c h5 (f_pays (K c) (St c) pr) L5 (He, Ca, sd)).1) Co ((f_xN c h5 (f_pays (K c) (St c) pr) L5 (He, Ca, sd)).2.1) mo sh co ((f_xN c h5 (f_pays (K c) (St c) pr) L5 (He, Ca, sd)).2.2) (va_up Cz 4 ((Cz 4) + ((f_W up dn dv td n K St Ex Am ((f_xN c h5 (f_pays (K c) (St c) pr) L5 (He, Ca, sd)).1) ((f_xN c h5 (f_pays (K c) (St c) pr) L5 (He, Ca, sd)).2.1) sh pr) - (f_W up dn dv td n K St Ex Am He Ca sh pr)))) ab_2 b_2 ++ (wH ha cA hA nA ed cI cJ cZ td pr up dn dv r8_1 ((f_xN c h5 (f_pays (K c) (St c) pr) L5 (He, Ca, sd)).2.2) mc n mo sh co ((f_xN c h5 (f_pays (K c) (St c) pr) L5 (He, Ca, sd)).2.1) (va_up Cz 4 ((Cz 4) + ((f_W up dn dv td n K St Ex Am ((f_xN c h5 (f_pays (K c) (St c) pr) L5 (He, Ca, sd)).1) ((f_xN c h5 (f_pays (K c) (St c) pr) L5 (He, Ca, sd)).2.1) sh pr) - (f_W up dn dv td n K St Ex Am He Ca sh pr)))) K St Ex Am Bi As BL AL ((f_xN c h5 (f_pays (K c) (St c) pr) L5 (He, Ca, sd)).1) Co ++ ((o, .inl (cJ, 1, .inr (.inl (lA (va_up F 0 (f_pays (K c) (St c) pr)))))) :: GG)))
  refine jj_istore C0 (lv' := [(6, .int (iI (f_pays (K c) (St c) pr))), (5, .int (iI 0)), (4, .int (iI (i : Int))), (3, .ref o), (2, .ref (ad 0)), (1, .ref (ha 0)), (0, .ref b)]) (by decide) rfl dL_law_827 ?_
  refine jj_aload_n C0 4 rfl dL_law_829 ?_
  refine jj_callVi C0 (cells' := cells) (slots' := slots) (cc_X4_thrown hEV  ) (cwV 0 hw (lw_gV hU_865 hU_866 hU_867 hU_66 hU_868) rfl rfl rfl (by decide +kernel) ⟨Nat.le_of_ble_eq_true rfl, Nat.le_of_ble_eq_true rfl⟩) (ci := 5) (q0 := 0) rfl (rfl) rfl rfl (Nat.le_of_ble_eq_true rfl) ⟨by show cells + 0 ≤ 601024; omega, by show slots + 0 ≤ 7293034; omega⟩ rfl rfl dL_law_830 ?_
  intro _ hu
  show jj_W _ _ _ _ _ _ _ _ _ _ _ _ _ _ _ _ _ 833 _ [.int (iI 0)] (wM ad cI cJ cZ 0 td pr up dn dv n K St Ex Am Ov Bj Aj BL AL ((f_xN c h5 (f_pays (K c) (St c) pr) L5 (He, Ca, sd)).1) Co ((f_xN c h5 (f_pays (K c) (St c) pr) L5 (He, Ca, sd)).2.1) mo sh co ((f_xN c h5 (f_pays (K c) (St c) pr) L5 (He, Ca, sd)).2.2) (va_up Cz 4 ((Cz 4) + ((f_W up dn dv td n K St Ex Am ((f_xN c h5 (f_pays (K c) (St c) pr) L5 (He, Ca, sd)).1) ((f_xN c h5 (f_pays (K c) (St c) pr) L5 (He, Ca, sd)).2.1) sh pr) - (f_W up dn dv td n K St Ex Am He Ca sh pr)))) ab_2 b_2 ++ (wH ha cA hA nA ed cI cJ cZ td pr up dn dv r8_1 ((f_xN c h5 (f_pays (K c) (St c) pr) L5 (He, Ca, sd)).2.2) mc n mo sh co ((f_xN c h5 (f_pays (K c) (St c) pr) L5 (He, Ca, sd)).2.1) (va_up Cz 4 ((Cz 4) + ((f_W up dn dv td n K St Ex Am ((f_xN c h5 (f_pays (K c) (St c) pr) L5 (He, Ca, sd)).1) ((f_xN c h5 (f_pays (K c) (St c) pr) L5 (He, Ca, sd)).2.1) sh pr) - (f_W up dn dv td n K St Ex Am He Ca sh pr)))) K St Ex Am Bi As BL AL ((f_xN c h5 (f_pays (K c) (St c) pr) L5 (He, Ca, sd)).1) Co ++ ((o, .inl (cJ, 1, .inr (.inl (lA (va_up F 0 (f_pays (K c) (St c) pr)))))) :: GG)))
  refine jj_iload C0 1 rfl dL_law_833 ?_
  refine jj_icmp_eq C0 (by omega) (by omega) dL_law_835 (tgt := 840) (by decide) (fun c_3 => ?_) (fun c_3 => absurd c_3 (by omega))
  refine jj_iload C0 1 rfl dL_law_840 ?_
  refine jj_if_ne C0 (by omega) dL_law_842 (tgt := 857) (by decide) (fun c_4 => absurd c_4 (by omega)) (fun c_4 => ?_)
  refine jj_toH ?_
  refine jj_aload_n C0 3 rfl dL_law_845 ?_
  refine jj_iconst C0 dL_law_846 ?_
  refine jj_lald C0 (q0 := (8 + (3 * n + 0))) (t0 := 1) (f := (va_up F 0 (f_pays (K c) (St c) pr))) ((wH_ee (n := n) rfl)) rfl (k := 0) (by omega) (by omega) (by decide) dL_law_847 ?_
  refine jj_topl (b := (f_pays (K c) (St c) pr)) (va_up_self _ _ _) ?_
  refine jj_iload C0 0 rfl dL_law_848 ?_
  refine jj_i2l C0 (by omega) dL_law_850 ?_
  refine jj_lcmpS C0 dL_law_851 dL_law_852 (tgt := 857) (by decide) ?_
  refine jj_goto C0 (tgt := 1530) dL_law_857 (by decide) ?_
  refine jj_lv [2, 3, 4, 5, 6] rfl ?_
  exact kK cA hA nA ed r8_1 (va_up F 0 (f_pays (K c) (St c) pr)) mc GG 0 b_2 ab_2 td pr up dn dv ((f_xN c h5 (f_pays (K c) (St c) pr) L5 (He, Ca, sd)).2.2) n mo sh co ((f_xN c h5 (f_pays (K c) (St c) pr) L5 (He, Ca, sd)).2.1) (va_up Cz 4 ((Cz 4) + ((f_W up dn dv td n K St Ex Am ((f_xN c h5 (f_pays (K c) (St c) pr) L5 (He, Ca, sd)).1) ((f_xN c h5 (f_pays (K c) (St c) pr) L5 (He, Ca, sd)).2.1) sh pr) - (f_W up dn dv td n K St Ex Am He Ca sh pr)))) K St Ex Am Ov Bi As Bj Aj BL AL ((f_xN c h5 (f_pays (K c) (St c) pr) L5 (He, Ca, sd)).1) Co _ _ (f_IV_exercise hV (by omega) hcn hk6 hL5 hHL) (hG) (by omega) (by omega)
set_option maxHeartbeats 4000000 in
set_option maxRecDepth 100000 in
theorem ll_exercise_1 (hC9 : f_CC p l s m args meth c9 dC dI A cI cJ cZ cO es mi sa b L xs) (hi : i + 5 ≤ L) (hik : i = 5 * k) (hcs : cells + 8 ≤ 601024 ∧ slots + 80 ≤ 7293034) (hI : f_IV k td n pr up dn dv sd mo sh Ca K St Ex Am Ov Bi As Bj Aj BL AL He Co) (hG : f_LG cO es n ed cA GG) (kK : f_KK p l e s m args below meth c9 dC dI A Q ha ad cI cJ cZ cO o es b i k cells slots) {a1 a2 a3 : Int} (h1 : (xs (i + 1)).toInt = a1) (h2 : (xs (i + 2)).toInt = a2) (h3 : (xs (i + 3)).toInt = a3) (hr1 : iR a1) (hr2 : iR a2) (hr3 : iR a3) (hb : ¬ (-1 ≤ a1 ∧ a1 ≤ 5)) : jj_W p l e room_1 s m args below meth c9 (dC, dI) vwCl A 8 cells slots Q 780 [(4, .int (iI (i : Int))), (3, .ref o), (2, .ref (ad 0)), (1, .ref (ha 0)), (0, .ref b)] [] (wH ha cA hA nA ed cI cJ cZ td pr up dn dv rw sd mc n mo sh co Ca Cz K St Ex Am Bi As BL AL He Co ++ ((o, .inl (cJ, 1, .inr (.inl (lA F)))) :: (GG ++ wM ad cI cJ cZ th td pr up dn dv n K St Ex Am Ov Bj Aj BL AL He Co Ca mo sh co sd Cz Ab be))) := by
  obtain ⟨C0, hl, hX, hbl, hbA, hL⟩ := hC9
  have hw := C0.2.2.2.2.1
  have hEV := hEVW es mi sa
  have hV := hI
  obtain ⟨⟨htd, hn, hpr, hup, hdn, hdv, hsd, hmo, hsh⟩, ⟨hK, hSt, hEx, hAm, hOv, hovs, hexs, hovn⟩, hQ9, ⟨hHe, hsums, hHz⟩, ⟨hCo, hCz⟩, hCa⟩ := hI
  have hQ := hQ9
  obtain ⟨hBi, hAs, hBj, hAj, hBL, hAL, hQt, hQ0, hQn, hQo⟩ := hQ9
  have hED0 : 0 < n → f_ED cA n ed cO (GG ++ wM ad cI cJ cZ th td pr up dn dv n K St Ex Am Ov Bj Aj BL AL He Co Ca mo sh co sd Cz Ab be) := f_LG_ED hG
  have hexs1 : ∀ c, c < n → Ex c ≤ (td : Int) + 10 := fun c hc => (hexs c hc).1
  have hk5 : k ≤ 511 := by omega
  have hHe9 : ∀ j, -999000 ≤ He j ∧ He j ≤ 999000 := fun j => by have := hHe j; omega
  have hHe6 : ∀ j, -1000000 ≤ He j ∧ He j ≤ 1000000 := fun j => by have := hHe j; omega
  have hCa9 : ∀ j, -100000000000000000 ≤ Ca j ∧ Ca j ≤ 100000000000000000 := fun j => by have := hCa j; omega
  refine jj_aload_n C0 3 rfl dL_law_780 ?_
  refine jj_aload_n C0 4 rfl dL_law_781 ?_
  refine jj_iload C0 0 rfl dL_law_782 ?_
  refine jj_iconst C0 dL_law_784 ?_
  refine jj_iadd C0 dL_law_785 ?_
  refine jj_sald C0 hX hbl hbA hL (k := (i + 1)) (by omega) (by omega) dL_law_786 ?_
  refine jj_topi (b := a1) h1 ?_
  refine jj_aload_n C0 4 rfl dL_law_787 ?_
  refine jj_iload C0 0 rfl dL_law_788 ?_
  refine jj_iconst C0 dL_law_790 ?_
  refine jj_iadd C0 dL_law_791 ?_
  refine jj_sald C0 hX hbl hbA hL (k := (i + 2)) (by omega) (by omega) dL_law_792 ?_
  refine jj_topi (b := a2) h2 ?_
  refine jj_aload_n C0 4 rfl dL_law_793 ?_
  refine jj_iload C0 0 rfl dL_law_794 ?_
  refine jj_iconst C0 dL_law_796 ?_
  refine jj_iadd C0 dL_law_797 ?_
  refine jj_sald C0 hX hbl hbA hL (k := (i + 3)) (by omega) (by omega) dL_law_798 ?_
  refine jj_topi (b := a3) h3 ?_
  refine jj_aload_n C0 1 rfl dL_law_799 ?_
  refine jj_callSWi C0 (cells' := cells + 1) (slots' := slots + 6) (jj_weaki (fun A U H h => h.1) (cr_L_exercise_1 hl (w := a1) (z := a2) (x := a3) hb hr1 hED0)) (vx_cwSW 5 hw (lw_gW hU_647 hU_648 hU_59 hU_649) rfl rfl rfl (by decide +kernel) ⟨Nat.le_of_ble_eq_true rfl, Nat.le_of_ble_eq_true rfl⟩) rfl rfl (Nat.le_of_ble_eq_true rfl) ⟨by show cells + 1 ≤ 601024; omega, by show slots + 6 ≤ 7293034; omega⟩ rfl rfl dL_law_800 ?_
  intro _ hu
  show jj_W _ _ _ _ _ _ _ _ _ _ _ _ _ _ _ _ _ 803 _ [.int (iI 1)] (wH ha cA hA nA ed cI cJ cZ td pr up dn dv rw sd mc n mo sh co Ca Cz K St Ex Am Bi As BL AL He Co ++ ((o, .inl (cJ, 1, .inr (.inl (lA F)))) :: (GG ++ wM ad cI cJ cZ th td pr up dn dv n K St Ex Am Ov Bj Aj BL AL He Co Ca mo sh co sd Cz Ab be)))
  refine jj_istore C0 (lv' := [(5, .int (iI 1)), (4, .int (iI (i : Int))), (3, .ref o), (2, .ref (ad 0)), (1, .ref (ha 0)), (0, .ref b)]) (by decide) rfl dL_law_803 ?_
  refine jj_toM ?_
  refine jj_aload_n C0 3 rfl dL_law_805 ?_
  refine jj_aload_n C0 5 rfl dL_law_806 ?_
  refine jj_iload C0 1 rfl dL_law_807 ?_
  refine jj_iconst C0 dL_law_809 ?_
  refine jj_iadd C0 dL_law_810 ?_
  refine jj_sald C0 hX hbl hbA hL (k := (i + 1)) (by omega) (by omega) dL_law_811 ?_
  refine jj_topi (b := a1) h1 ?_
  refine jj_aload_n C0 5 rfl dL_law_812 ?_
  refine jj_iload C0 1 rfl dL_law_813 ?_
  refine jj_iconst C0 dL_law_815 ?_
  refine jj_iadd C0 dL_law_816 ?_
  refine jj_sald C0 hX hbl hbA hL (k := (i + 2)) (by omega) (by omega) dL_law_817 ?_
  refine jj_topi (b := a2) h2 ?_
  refine jj_aload_n C0 5 rfl dL_law_818 ?_
  refine jj_iload C0 1 rfl dL_law_819 ?_
  refine jj_iconst C0 dL_law_821 ?_
  refine jj_iadd C0 dL_law_822 ?_
  refine jj_sald C0 hX hbl hbA hL (k := (i + 3)) (by omega) (by omega) dL_law_823 ?_
  refine jj_topi (b := a3) h3 ?_
  refine jj_callVi C0 (cells' := (cells + 1)) (slots' := (slots + 6)) (cb_X4_exercise hEV (w := a1) (z := a2) (x := a3) (kz := 0) (kk := 1) hr3 hr2 hr1 hn hOv hHe6 hAm hEx htd (by omega) (Or.inl ⟨by omega, rfl⟩)) (cwV 3 hw (lw_gV hU_981 hU_982 hU_983 hU_66 hU_984) rfl rfl rfl (by decide +kernel) ⟨Nat.le_of_ble_eq_true rfl, Nat.le_of_ble_eq_true rfl⟩) (ci := 5) (q0 := 0) rfl (rfl) rfl rfl (Nat.le_of_ble_eq_true rfl) ⟨by show (cells + 1) + 0 ≤ 601024; omega, by show (slots + 6) + 0 ≤ 7293034; omega⟩ rfl rfl dL_law_824 ?_
  intro u_1 hu
  show jj_W _ _ _ _ _ _ _ _ _ _ _ _ _ _ _ _ _ 827 _ [.int (iI u_1)] (wM ad cI cJ cZ 1 td pr up dn dv n K St Ex Am Ov Bj Aj BL AL He Co Ca mo sh co sd Cz Ab be ++ (wH ha cA hA nA ed cI cJ cZ td pr up dn dv rw sd mc n mo sh co Ca Cz K St Ex Am Bi As BL AL He Co ++ ((o, .inl (cJ, 1, .inr (.inl (lA F)))) :: GG)))
  refine jj_istore C0 (lv' := [(6, .int (iI u_1)), (5, .int (iI 1)), (4, .int (iI (i : Int))), (3, .ref o), (2, .ref (ad 0)), (1, .ref (ha 0)), (0, .ref b)]) (by decide) rfl dL_law_827 ?_
  refine jj_aload_n C0 4 rfl dL_law_829 ?_
  refine jj_callVi C0 (cells' := (cells + 1)) (slots' := (slots + 6)) (cc_X4_thrown hEV  ) (cwV 0 hw (lw_gV hU_865 hU_866 hU_867 hU_66 hU_868) rfl rfl rfl (by decide +kernel) ⟨Nat.le_of_ble_eq_true rfl, Nat.le_of_ble_eq_true rfl⟩) (ci := 5) (q0 := 0) rfl (rfl) rfl rfl (Nat.le_of_ble_eq_true rfl) ⟨by show (cells + 1) + 0 ≤ 601024; omega, by show (slots + 6) + 0 ≤ 7293034; omega⟩ rfl rfl dL_law_830 ?_
  intro _ hu
  show jj_W _ _ _ _ _ _ _ _ _ _ _ _ _ _ _ _ _ 833 _ [.int (iI 1)] (wM ad cI cJ cZ 1 td pr up dn dv n K St Ex Am Ov Bj Aj BL AL He Co Ca mo sh co sd Cz Ab be ++ (wH ha cA hA nA ed cI cJ cZ td pr up dn dv rw sd mc n mo sh co Ca Cz K St Ex Am Bi As BL AL He Co ++ ((o, .inl (cJ, 1, .inr (.inl (lA F)))) :: GG)))
  refine jj_iload C0 1 rfl dL_law_833 ?_
  refine jj_icmp_eq C0 (by omega) (by omega) dL_law_835 (tgt := 840) (by decide) (fun c_2 => ?_) (fun c_2 => absurd c_2 (by omega))
  refine jj_iload C0 1 rfl dL_law_840 ?_
  refine jj_if_ne C0 (by omega) dL_law_842 (tgt := 857) (by decide) (fun c_3 => ?_) (fun c_3 => absurd c_3 (by omega))
  refine jj_goto C0 (tgt := 1530) dL_law_857 (by decide) ?_
  refine jj_toH ?_
  refine jj_lv [2, 3, 4, 5, 6] rfl ?_
  exact kK cA hA nA ed rw F mc GG 1 be Ab td pr up dn dv sd n mo sh co Ca Cz K St Ex Am Ov Bi As Bj Aj BL AL He Co _ _ (f_IV_k hV) (hG) (by omega) (by omega)
set_option maxHeartbeats 4000000 in
set_option maxRecDepth 100000 in
theorem ll_exercise_2 (hC9 : f_CC p l s m args meth c9 dC dI A cI cJ cZ cO es mi sa b L xs) (hi : i + 5 ≤ L) (hik : i = 5 * k) (hcs : cells + 8 ≤ 601024 ∧ slots + 80 ≤ 7293034) (hI : f_IV k td n pr up dn dv sd mo sh Ca K St Ex Am Ov Bi As Bj Aj BL AL He Co) (hG : f_LG cO es n ed cA GG) (kK : f_KK p l e s m args below meth c9 dC dI A Q ha ad cI cJ cZ cO o es b i k cells slots) {h5 : Nat} {a1 a2 a3 : Int} (h1 : (xs (i + 1)).toInt = a1) (h2 : (xs (i + 2)).toInt = a2) (h3 : (xs (i + 3)).toInt = a3) (hr1 : iR a1) (hr2 : iR a2) (hr3 : iR a3) (hzk : (a1 = -1 ∧ h5 = 6) ∨ (a1 = (h5 : Int) ∧ h5 ≤ 5)) (hb : ¬ (0 ≤ a2 ∧ a2 < (n : Int))) : jj_W p l e room_1 s m args below meth c9 (dC, dI) vwCl A 8 cells slots Q 780 [(4, .int (iI (i : Int))), (3, .ref o), (2, .ref (ad 0)), (1, .ref (ha 0)), (0, .ref b)] [] (wH ha cA hA nA ed cI cJ cZ td pr up dn dv rw sd mc n mo sh co Ca Cz K St Ex Am Bi As BL AL He Co ++ ((o, .inl (cJ, 1, .inr (.inl (lA F)))) :: (GG ++ wM ad cI cJ cZ th td pr up dn dv n K St Ex Am Ov Bj Aj BL AL He Co Ca mo sh co sd Cz Ab be))) := by
  obtain ⟨C0, hl, hX, hbl, hbA, hL⟩ := hC9
  have hw := C0.2.2.2.2.1
  have hEV := hEVW es mi sa
  have hV := hI
  obtain ⟨⟨htd, hn, hpr, hup, hdn, hdv, hsd, hmo, hsh⟩, ⟨hK, hSt, hEx, hAm, hOv, hovs, hexs, hovn⟩, hQ9, ⟨hHe, hsums, hHz⟩, ⟨hCo, hCz⟩, hCa⟩ := hI
  have hQ := hQ9
  obtain ⟨hBi, hAs, hBj, hAj, hBL, hAL, hQt, hQ0, hQn, hQo⟩ := hQ9
  have hED0 : 0 < n → f_ED cA n ed cO (GG ++ wM ad cI cJ cZ th td pr up dn dv n K St Ex Am Ov Bj Aj BL AL He Co Ca mo sh co sd Cz Ab be) := f_LG_ED hG
  have hexs1 : ∀ c, c < n → Ex c ≤ (td : Int) + 10 := fun c hc => (hexs c hc).1
  have hk5 : k ≤ 511 := by omega
  have hHe9 : ∀ j, -999000 ≤ He j ∧ He j ≤ 999000 := fun j => by have := hHe j; omega
  have hHe6 : ∀ j, -1000000 ≤ He j ∧ He j ≤ 1000000 := fun j => by have := hHe j; omega
  have hCa9 : ∀ j, -100000000000000000 ≤ Ca j ∧ Ca j ≤ 100000000000000000 := fun j => by have := hCa j; omega
  refine jj_aload_n C0 3 rfl dL_law_780 ?_
  refine jj_aload_n C0 4 rfl dL_law_781 ?_
  refine jj_iload C0 0 rfl dL_law_782 ?_
  refine jj_iconst C0 dL_law_784 ?_
  refine jj_iadd C0 dL_law_785 ?_
  refine jj_sald C0 hX hbl hbA hL (k := (i + 1)) (by omega) (by omega) dL_law_786 ?_
  refine jj_topi (b := a1) h1 ?_
  refine jj_aload_n C0 4 rfl dL_law_787 ?_
  refine jj_iload C0 0 rfl dL_law_788 ?_
  refine jj_iconst C0 dL_law_790 ?_
  refine jj_iadd C0 dL_law_791 ?_
  refine jj_sald C0 hX hbl hbA hL (k := (i + 2)) (by omega) (by omega) dL_law_792 ?_
  refine jj_topi (b := a2) h2 ?_
  refine jj_aload_n C0 4 rfl dL_law_793 ?_
  refine jj_iload C0 0 rfl dL_law_794 ?_
  refine jj_iconst C0 dL_law_796 ?_
  refine jj_iadd C0 dL_law_797 ?_
  refine jj_sald C0 hX hbl hbA hL (k := (i + 3)) (by omega) (by omega) dL_law_798 ?_
  refine jj_topi (b := a3) h3 ?_
  refine jj_aload_n C0 1 rfl dL_law_799 ?_
  refine jj_callSWi C0 (cells' := cells + 1) (slots' := slots + 6) (jj_weaki (fun A U H h => h.1) (cr_L_exercise_2 hl (w := a1) (z := a2) (x := a3) (k := h5) hb hzk hr2 hn hED0)) (vx_cwSW 5 hw (lw_gW hU_647 hU_648 hU_59 hU_649) rfl rfl rfl (by decide +kernel) ⟨Nat.le_of_ble_eq_true rfl, Nat.le_of_ble_eq_true rfl⟩) rfl rfl (Nat.le_of_ble_eq_true rfl) ⟨by show cells + 1 ≤ 601024; omega, by show slots + 6 ≤ 7293034; omega⟩ rfl rfl dL_law_800 ?_
  intro _ hu
  show jj_W _ _ _ _ _ _ _ _ _ _ _ _ _ _ _ _ _ 803 _ [.int (iI 1)] (wH ha cA hA nA ed cI cJ cZ td pr up dn dv rw sd mc n mo sh co Ca Cz K St Ex Am Bi As BL AL He Co ++ ((o, .inl (cJ, 1, .inr (.inl (lA F)))) :: (GG ++ wM ad cI cJ cZ th td pr up dn dv n K St Ex Am Ov Bj Aj BL AL He Co Ca mo sh co sd Cz Ab be)))
  refine jj_istore C0 (lv' := [(5, .int (iI 1)), (4, .int (iI (i : Int))), (3, .ref o), (2, .ref (ad 0)), (1, .ref (ha 0)), (0, .ref b)]) (by decide) rfl dL_law_803 ?_
  refine jj_toM ?_
  refine jj_aload_n C0 3 rfl dL_law_805 ?_
  refine jj_aload_n C0 5 rfl dL_law_806 ?_
  refine jj_iload C0 1 rfl dL_law_807 ?_
  refine jj_iconst C0 dL_law_809 ?_
  refine jj_iadd C0 dL_law_810 ?_
  refine jj_sald C0 hX hbl hbA hL (k := (i + 1)) (by omega) (by omega) dL_law_811 ?_
  refine jj_topi (b := a1) h1 ?_
  refine jj_aload_n C0 5 rfl dL_law_812 ?_
  refine jj_iload C0 1 rfl dL_law_813 ?_
  refine jj_iconst C0 dL_law_815 ?_
  refine jj_iadd C0 dL_law_816 ?_
  refine jj_sald C0 hX hbl hbA hL (k := (i + 2)) (by omega) (by omega) dL_law_817 ?_
  refine jj_topi (b := a2) h2 ?_
  refine jj_aload_n C0 5 rfl dL_law_818 ?_
  refine jj_iload C0 1 rfl dL_law_819 ?_
  refine jj_iconst C0 dL_law_821 ?_
  refine jj_iadd C0 dL_law_822 ?_
  refine jj_sald C0 hX hbl hbA hL (k := (i + 3)) (by omega) (by omega) dL_law_823 ?_
  refine jj_topi (b := a3) h3 ?_
  refine jj_callVi C0 (cells' := (cells + 1)) (slots' := (slots + 6)) (cb_X4_exercise hEV (w := a1) (z := a2) (x := a3) (kz := h5) (kk := 1) hr3 hr2 hr1 hn hOv hHe6 hAm hEx htd (by omega) (Or.inl ⟨by omega, rfl⟩)) (cwV 3 hw (lw_gV hU_981 hU_982 hU_983 hU_66 hU_984) rfl rfl rfl (by decide +kernel) ⟨Nat.le_of_ble_eq_true rfl, Nat.le_of_ble_eq_true rfl⟩) (ci := 5) (q0 := 0) rfl (rfl) rfl rfl (Nat.le_of_ble_eq_true rfl) ⟨by show (cells + 1) + 0 ≤ 601024; omega, by show (slots + 6) + 0 ≤ 7293034; omega⟩ rfl rfl dL_law_824 ?_
  intro u_1 hu
  show jj_W _ _ _ _ _ _ _ _ _ _ _ _ _ _ _ _ _ 827 _ [.int (iI u_1)] (wM ad cI cJ cZ 1 td pr up dn dv n K St Ex Am Ov Bj Aj BL AL He Co Ca mo sh co sd Cz Ab be ++ (wH ha cA hA nA ed cI cJ cZ td pr up dn dv rw sd mc n mo sh co Ca Cz K St Ex Am Bi As BL AL He Co ++ ((o, .inl (cJ, 1, .inr (.inl (lA F)))) :: GG)))
  refine jj_istore C0 (lv' := [(6, .int (iI u_1)), (5, .int (iI 1)), (4, .int (iI (i : Int))), (3, .ref o), (2, .ref (ad 0)), (1, .ref (ha 0)), (0, .ref b)]) (by decide) rfl dL_law_827 ?_
  refine jj_aload_n C0 4 rfl dL_law_829 ?_
  refine jj_callVi C0 (cells' := (cells + 1)) (slots' := (slots + 6)) (cc_X4_thrown hEV  ) (cwV 0 hw (lw_gV hU_865 hU_866 hU_867 hU_66 hU_868) rfl rfl rfl (by decide +kernel) ⟨Nat.le_of_ble_eq_true rfl, Nat.le_of_ble_eq_true rfl⟩) (ci := 5) (q0 := 0) rfl (rfl) rfl rfl (Nat.le_of_ble_eq_true rfl) ⟨by show (cells + 1) + 0 ≤ 601024; omega, by show (slots + 6) + 0 ≤ 7293034; omega⟩ rfl rfl dL_law_830 ?_
  intro _ hu
  show jj_W _ _ _ _ _ _ _ _ _ _ _ _ _ _ _ _ _ 833 _ [.int (iI 1)] (wM ad cI cJ cZ 1 td pr up dn dv n K St Ex Am Ov Bj Aj BL AL He Co Ca mo sh co sd Cz Ab be ++ (wH ha cA hA nA ed cI cJ cZ td pr up dn dv rw sd mc n mo sh co Ca Cz K St Ex Am Bi As BL AL He Co ++ ((o, .inl (cJ, 1, .inr (.inl (lA F)))) :: GG)))
  refine jj_iload C0 1 rfl dL_law_833 ?_
  refine jj_icmp_eq C0 (by omega) (by omega) dL_law_835 (tgt := 840) (by decide) (fun c_2 => ?_) (fun c_2 => absurd c_2 (by omega))
  refine jj_iload C0 1 rfl dL_law_840 ?_
  refine jj_if_ne C0 (by omega) dL_law_842 (tgt := 857) (by decide) (fun c_3 => ?_) (fun c_3 => absurd c_3 (by omega))
  refine jj_goto C0 (tgt := 1530) dL_law_857 (by decide) ?_
  refine jj_toH ?_
  refine jj_lv [2, 3, 4, 5, 6] rfl ?_
  exact kK cA hA nA ed rw F mc GG 1 be Ab td pr up dn dv sd n mo sh co Ca Cz K St Ex Am Ov Bi As Bj Aj BL AL He Co _ _ (f_IV_k hV) (hG) (by omega) (by omega)
set_option maxHeartbeats 4000000 in
set_option maxRecDepth 100000 in
theorem ll_exercise_A (hC9 : f_CC p l s m args meth c9 dC dI A cI cJ cZ cO es mi sa b L xs) (hi : i + 5 ≤ L) (hik : i = 5 * k) (hcs : cells + 8 ≤ 601024 ∧ slots + 80 ≤ 7293034) (hI : f_IV k td n pr up dn dv sd mo sh Ca K St Ex Am Ov Bi As Bj Aj BL AL He Co) (hG : f_LG cO es n ed cA GG) (kK : f_KK p l e s m args below meth c9 dC dI A Q ha ad cI cJ cZ cO o es b i k cells slots) {h5 c : Nat} {a1 a3 : Int} (h1 : (xs (i + 1)).toInt = a1) (h2 : (xs (i + 2)).toInt = (c : Int)) (h3 : (xs (i + 3)).toInt = a3) (hr1 : iR a1) (hr3 : iR a3) (hzk : (a1 = -1 ∧ h5 = 6) ∨ (a1 = (h5 : Int) ∧ h5 ≤ 5)) (hcn : c < n) (hb : ¬ (1 ≤ a3 ∧ a3 ≤ 1000)) : jj_W p l e room_1 s m args below meth c9 (dC, dI) vwCl A 8 cells slots Q 780 [(4, .int (iI (i : Int))), (3, .ref o), (2, .ref (ad 0)), (1, .ref (ha 0)), (0, .ref b)] [] (wH ha cA hA nA ed cI cJ cZ td pr up dn dv rw sd mc n mo sh co Ca Cz K St Ex Am Bi As BL AL He Co ++ ((o, .inl (cJ, 1, .inr (.inl (lA F)))) :: (GG ++ wM ad cI cJ cZ th td pr up dn dv n K St Ex Am Ov Bj Aj BL AL He Co Ca mo sh co sd Cz Ab be))) := by
  obtain ⟨C0, hl, hX, hbl, hbA, hL⟩ := hC9
  have hw := C0.2.2.2.2.1
  have hEV := hEVW es mi sa
  have hV := hI
  obtain ⟨⟨htd, hn, hpr, hup, hdn, hdv, hsd, hmo, hsh⟩, ⟨hK, hSt, hEx, hAm, hOv, hovs, hexs, hovn⟩, hQ9, ⟨hHe, hsums, hHz⟩, ⟨hCo, hCz⟩, hCa⟩ := hI
  have hQ := hQ9
  obtain ⟨hBi, hAs, hBj, hAj, hBL, hAL, hQt, hQ0, hQn, hQo⟩ := hQ9
  have hED0 : 0 < n → f_ED cA n ed cO (GG ++ wM ad cI cJ cZ th td pr up dn dv n K St Ex Am Ov Bj Aj BL AL He Co Ca mo sh co sd Cz Ab be) := f_LG_ED hG
  have hexs1 : ∀ c, c < n → Ex c ≤ (td : Int) + 10 := fun c hc => (hexs c hc).1
  have hk5 : k ≤ 511 := by omega
  have hHe9 : ∀ j, -999000 ≤ He j ∧ He j ≤ 999000 := fun j => by have := hHe j; omega
  have hHe6 : ∀ j, -1000000 ≤ He j ∧ He j ≤ 1000000 := fun j => by have := hHe j; omega
  have hCa9 : ∀ j, -100000000000000000 ≤ Ca j ∧ Ca j ≤ 100000000000000000 := fun j => by have := hCa j; omega
  refine jj_aload_n C0 3 rfl dL_law_780 ?_
  refine jj_aload_n C0 4 rfl dL_law_781 ?_
  refine jj_iload C0 0 rfl dL_law_782 ?_
  refine jj_iconst C0 dL_law_784 ?_
  refine jj_iadd C0 dL_law_785 ?_
  refine jj_sald C0 hX hbl hbA hL (k := (i + 1)) (by omega) (by omega) dL_law_786 ?_
  refine jj_topi (b := a1) h1 ?_
  refine jj_aload_n C0 4 rfl dL_law_787 ?_
  refine jj_iload C0 0 rfl dL_law_788 ?_
  refine jj_iconst C0 dL_law_790 ?_
  refine jj_iadd C0 dL_law_791 ?_
  refine jj_sald C0 hX hbl hbA hL (k := (i + 2)) (by omega) (by omega) dL_law_792 ?_
  refine jj_topi (b := (c : Int)) h2 ?_
  refine jj_aload_n C0 4 rfl dL_law_793 ?_
  refine jj_iload C0 0 rfl dL_law_794 ?_
  refine jj_iconst C0 dL_law_796 ?_
  refine jj_iadd C0 dL_law_797 ?_
  refine jj_sald C0 hX hbl hbA hL (k := (i + 3)) (by omega) (by omega) dL_law_798 ?_
  refine jj_topi (b := a3) h3 ?_
  refine jj_aload_n C0 1 rfl dL_law_799 ?_
  refine jj_callSWi C0 (cells' := cells + 1) (slots' := slots + 6) (jj_weaki (fun A U H h => h.1) (cr_L_exercise_A hl (w := a1) (c := c) (x := a3) (k := h5) hb hzk hr3 hcn hn hED0)) (vx_cwSW 5 hw (lw_gW hU_647 hU_648 hU_59 hU_649) rfl rfl rfl (by decide +kernel) ⟨Nat.le_of_ble_eq_true rfl, Nat.le_of_ble_eq_true rfl⟩) rfl rfl (Nat.le_of_ble_eq_true rfl) ⟨by show cells + 1 ≤ 601024; omega, by show slots + 6 ≤ 7293034; omega⟩ rfl rfl dL_law_800 ?_
  intro _ hu
  show jj_W _ _ _ _ _ _ _ _ _ _ _ _ _ _ _ _ _ 803 _ [.int (iI 2)] (wH ha cA hA nA ed cI cJ cZ td pr up dn dv rw sd mc n mo sh co Ca Cz K St Ex Am Bi As BL AL He Co ++ ((o, .inl (cJ, 1, .inr (.inl (lA F)))) :: (GG ++ wM ad cI cJ cZ th td pr up dn dv n K St Ex Am Ov Bj Aj BL AL He Co Ca mo sh co sd Cz Ab be)))
  refine jj_istore C0 (lv' := [(5, .int (iI 2)), (4, .int (iI (i : Int))), (3, .ref o), (2, .ref (ad 0)), (1, .ref (ha 0)), (0, .ref b)]) (by decide) rfl dL_law_803 ?_
  refine jj_toM ?_
  refine jj_aload_n C0 3 rfl dL_law_805 ?_
  refine jj_aload_n C0 5 rfl dL_law_806 ?_
  refine jj_iload C0 1 rfl dL_law_807 ?_
  refine jj_iconst C0 dL_law_809 ?_
  refine jj_iadd C0 dL_law_810 ?_
  refine jj_sald C0 hX hbl hbA hL (k := (i + 1)) (by omega) (by omega) dL_law_811 ?_
  refine jj_topi (b := a1) h1 ?_
  refine jj_aload_n C0 5 rfl dL_law_812 ?_
  refine jj_iload C0 1 rfl dL_law_813 ?_
  refine jj_iconst C0 dL_law_815 ?_
  refine jj_iadd C0 dL_law_816 ?_
  refine jj_sald C0 hX hbl hbA hL (k := (i + 2)) (by omega) (by omega) dL_law_817 ?_
  refine jj_topi (b := (c : Int)) h2 ?_
  refine jj_aload_n C0 5 rfl dL_law_818 ?_
  refine jj_iload C0 1 rfl dL_law_819 ?_
  refine jj_iconst C0 dL_law_821 ?_
  refine jj_iadd C0 dL_law_822 ?_
  refine jj_sald C0 hX hbl hbA hL (k := (i + 3)) (by omega) (by omega) dL_law_823 ?_
  refine jj_topi (b := a3) h3 ?_
  refine jj_callVi C0 (cells' := (cells + 1)) (slots' := (slots + 6)) (cb_X4_exercise hEV (w := a1) (z := (c : Int)) (x := a3) (kz := h5) (kk := 2) hr3 (by omega) hr1 hn hOv hHe6 hAm hEx htd (by omega) (Or.inr (Or.inl ⟨by omega, hb, rfl⟩))) (cwV 3 hw (lw_gV hU_981 hU_982 hU_983 hU_66 hU_984) rfl rfl rfl (by decide +kernel) ⟨Nat.le_of_ble_eq_true rfl, Nat.le_of_ble_eq_true rfl⟩) (ci := 5) (q0 := 0) rfl (rfl) rfl rfl (Nat.le_of_ble_eq_true rfl) ⟨by show (cells + 1) + 0 ≤ 601024; omega, by show (slots + 6) + 0 ≤ 7293034; omega⟩ rfl rfl dL_law_824 ?_
  intro u_1 hu
  show jj_W _ _ _ _ _ _ _ _ _ _ _ _ _ _ _ _ _ 827 _ [.int (iI u_1)] (wM ad cI cJ cZ 2 td pr up dn dv n K St Ex Am Ov Bj Aj BL AL He Co Ca mo sh co sd Cz Ab be ++ (wH ha cA hA nA ed cI cJ cZ td pr up dn dv rw sd mc n mo sh co Ca Cz K St Ex Am Bi As BL AL He Co ++ ((o, .inl (cJ, 1, .inr (.inl (lA F)))) :: GG)))
  refine jj_istore C0 (lv' := [(6, .int (iI u_1)), (5, .int (iI 2)), (4, .int (iI (i : Int))), (3, .ref o), (2, .ref (ad 0)), (1, .ref (ha 0)), (0, .ref b)]) (by decide) rfl dL_law_827 ?_
  refine jj_aload_n C0 4 rfl dL_law_829 ?_
  refine jj_callVi C0 (cells' := (cells + 1)) (slots' := (slots + 6)) (cc_X4_thrown hEV  ) (cwV 0 hw (lw_gV hU_865 hU_866 hU_867 hU_66 hU_868) rfl rfl rfl (by decide +kernel) ⟨Nat.le_of_ble_eq_true rfl, Nat.le_of_ble_eq_true rfl⟩) (ci := 5) (q0 := 0) rfl (rfl) rfl rfl (Nat.le_of_ble_eq_true rfl) ⟨by show (cells + 1) + 0 ≤ 601024; omega, by show (slots + 6) + 0 ≤ 7293034; omega⟩ rfl rfl dL_law_830 ?_
  intro _ hu
  show jj_W _ _ _ _ _ _ _ _ _ _ _ _ _ _ _ _ _ 833 _ [.int (iI 2)] (wM ad cI cJ cZ 2 td pr up dn dv n K St Ex Am Ov Bj Aj BL AL He Co Ca mo sh co sd Cz Ab be ++ (wH ha cA hA nA ed cI cJ cZ td pr up dn dv rw sd mc n mo sh co Ca Cz K St Ex Am Bi As BL AL He Co ++ ((o, .inl (cJ, 1, .inr (.inl (lA F)))) :: GG)))
  refine jj_iload C0 1 rfl dL_law_833 ?_
  refine jj_icmp_eq C0 (by omega) (by omega) dL_law_835 (tgt := 840) (by decide) (fun c_2 => ?_) (fun c_2 => absurd c_2 (by omega))
  refine jj_iload C0 1 rfl dL_law_840 ?_
  refine jj_if_ne C0 (by omega) dL_law_842 (tgt := 857) (by decide) (fun c_3 => ?_) (fun c_3 => absurd c_3 (by omega))
  refine jj_goto C0 (tgt := 1530) dL_law_857 (by decide) ?_
  refine jj_toH ?_
  refine jj_lv [2, 3, 4, 5, 6] rfl ?_
  exact kK cA hA nA ed rw F mc GG 2 be Ab td pr up dn dv sd n mo sh co Ca Cz K St Ex Am Ov Bi As Bj Aj BL AL He Co _ _ (f_IV_k hV) (hG) (by omega) (by omega)
set_option maxHeartbeats 4000000 in
set_option maxRecDepth 100000 in
theorem ll_exercise_S (hC9 : f_CC p l s m args meth c9 dC dI A cI cJ cZ cO es mi sa b L xs) (hi : i + 5 ≤ L) (hik : i = 5 * k) (hcs : cells + 8 ≤ 601024 ∧ slots + 80 ≤ 7293034) (hI : f_IV k td n pr up dn dv sd mo sh Ca K St Ex Am Ov Bi As Bj Aj BL AL He Co) (hG : f_LG cO es n ed cA GG) (kK : f_KK p l e s m args below meth c9 dC dI A Q ha ad cI cJ cZ cO o es b i k cells slots) {h5 c : Nat} {a1 a3 : Int} (h1 : (xs (i + 1)).toInt = a1) (h2 : (xs (i + 2)).toInt = (c : Int)) (h3 : (xs (i + 3)).toInt = a3) (hr1 : iR a1) (hr3 : iR a3) (hzk : (a1 = -1 ∧ h5 = 6) ∨ (a1 = (h5 : Int) ∧ h5 ≤ 5)) (hcn : c < n) (hx1 : 1 ≤ a3 ∧ a3 ≤ 1000) (hb : ¬ (a3 ≤ He (7 * c + h5) ∧ Ov c = 0 ∧ (Am c ≠ 0 ∨ Ex c = (td : Int)))) : jj_W p l e room_1 s m args below meth c9 (dC, dI) vwCl A 8 cells slots Q 780 [(4, .int (iI (i : Int))), (3, .ref o), (2, .ref (ad 0)), (1, .ref (ha 0)), (0, .ref b)] [] (wH ha cA hA nA ed cI cJ cZ td pr up dn dv rw sd mc n mo sh co Ca Cz K St Ex Am Bi As BL AL He Co ++ ((o, .inl (cJ, 1, .inr (.inl (lA F)))) :: (GG ++ wM ad cI cJ cZ th td pr up dn dv n K St Ex Am Ov Bj Aj BL AL He Co Ca mo sh co sd Cz Ab be))) := by
  obtain ⟨C0, hl, hX, hbl, hbA, hL⟩ := hC9
  have hw := C0.2.2.2.2.1
  have hEV := hEVW es mi sa
  have hV := hI
  obtain ⟨⟨htd, hn, hpr, hup, hdn, hdv, hsd, hmo, hsh⟩, ⟨hK, hSt, hEx, hAm, hOv, hovs, hexs, hovn⟩, hQ9, ⟨hHe, hsums, hHz⟩, ⟨hCo, hCz⟩, hCa⟩ := hI
  have hQ := hQ9
  obtain ⟨hBi, hAs, hBj, hAj, hBL, hAL, hQt, hQ0, hQn, hQo⟩ := hQ9
  have hED0 : 0 < n → f_ED cA n ed cO (GG ++ wM ad cI cJ cZ th td pr up dn dv n K St Ex Am Ov Bj Aj BL AL He Co Ca mo sh co sd Cz Ab be) := f_LG_ED hG
  have hexs1 : ∀ c, c < n → Ex c ≤ (td : Int) + 10 := fun c hc => (hexs c hc).1
  have hk5 : k ≤ 511 := by omega
  have hHe9 : ∀ j, -999000 ≤ He j ∧ He j ≤ 999000 := fun j => by have := hHe j; omega
  have hHe6 : ∀ j, -1000000 ≤ He j ∧ He j ≤ 1000000 := fun j => by have := hHe j; omega
  have hCa9 : ∀ j, -100000000000000000 ≤ Ca j ∧ Ca j ≤ 100000000000000000 := fun j => by have := hCa j; omega
  have hb1 : ¬ (a3 ≤ He (7 * c + h5) ∧ (td : Int) ≤ Ex c ∧ (Am c ≠ 0 ∨ Ex c = (td : Int))) := fun q => hb ⟨q.1, by have := hovs c hcn; omega, q.2.2⟩
  refine jj_aload_n C0 3 rfl dL_law_780 ?_
  refine jj_aload_n C0 4 rfl dL_law_781 ?_
  refine jj_iload C0 0 rfl dL_law_782 ?_
  refine jj_iconst C0 dL_law_784 ?_
  refine jj_iadd C0 dL_law_785 ?_
  refine jj_sald C0 hX hbl hbA hL (k := (i + 1)) (by omega) (by omega) dL_law_786 ?_
  refine jj_topi (b := a1) h1 ?_
  refine jj_aload_n C0 4 rfl dL_law_787 ?_
  refine jj_iload C0 0 rfl dL_law_788 ?_
  refine jj_iconst C0 dL_law_790 ?_
  refine jj_iadd C0 dL_law_791 ?_
  refine jj_sald C0 hX hbl hbA hL (k := (i + 2)) (by omega) (by omega) dL_law_792 ?_
  refine jj_topi (b := (c : Int)) h2 ?_
  refine jj_aload_n C0 4 rfl dL_law_793 ?_
  refine jj_iload C0 0 rfl dL_law_794 ?_
  refine jj_iconst C0 dL_law_796 ?_
  refine jj_iadd C0 dL_law_797 ?_
  refine jj_sald C0 hX hbl hbA hL (k := (i + 3)) (by omega) (by omega) dL_law_798 ?_
  refine jj_topi (b := a3) h3 ?_
  refine jj_aload_n C0 1 rfl dL_law_799 ?_
  refine jj_callSWi C0 (cells' := cells + 1) (slots' := slots + 6) (jj_weaki (fun A U H h => h.1) (cr_L_exercise_S hl (w := a1) (c := c) (x := a3) (k := h5) hb1 hx1 hzk hcn hn hEx htd hHe6 hAm hED0)) (vx_cwSW 5 hw (lw_gW hU_647 hU_648 hU_59 hU_649) rfl rfl rfl (by decide +kernel) ⟨Nat.le_of_ble_eq_true rfl, Nat.le_of_ble_eq_true rfl⟩) rfl rfl (Nat.le_of_ble_eq_true rfl) ⟨by show cells + 1 ≤ 601024; omega, by show slots + 6 ≤ 7293034; omega⟩ rfl rfl dL_law_800 ?_
  intro _ hu
  show jj_W _ _ _ _ _ _ _ _ _ _ _ _ _ _ _ _ _ 803 _ [.int (iI 3)] (wH ha cA hA nA ed cI cJ cZ td pr up dn dv rw sd mc n mo sh co Ca Cz K St Ex Am Bi As BL AL He Co ++ ((o, .inl (cJ, 1, .inr (.inl (lA F)))) :: (GG ++ wM ad cI cJ cZ th td pr up dn dv n K St Ex Am Ov Bj Aj BL AL He Co Ca mo sh co sd Cz Ab be)))
  refine jj_istore C0 (lv' := [(5, .int (iI 3)), (4, .int (iI (i : Int))), (3, .ref o), (2, .ref (ad 0)), (1, .ref (ha 0)), (0, .ref b)]) (by decide) rfl dL_law_803 ?_
  refine jj_toM ?_
  refine jj_aload_n C0 3 rfl dL_law_805 ?_
  refine jj_aload_n C0 5 rfl dL_law_806 ?_
  refine jj_iload C0 1 rfl dL_law_807 ?_
  refine jj_iconst C0 dL_law_809 ?_
  refine jj_iadd C0 dL_law_810 ?_
  refine jj_sald C0 hX hbl hbA hL (k := (i + 1)) (by omega) (by omega) dL_law_811 ?_
  refine jj_topi (b := a1) h1 ?_
  refine jj_aload_n C0 5 rfl dL_law_812 ?_
  refine jj_iload C0 1 rfl dL_law_813 ?_
  refine jj_iconst C0 dL_law_815 ?_
  refine jj_iadd C0 dL_law_816 ?_
  refine jj_sald C0 hX hbl hbA hL (k := (i + 2)) (by omega) (by omega) dL_law_817 ?_
  refine jj_topi (b := (c : Int)) h2 ?_
  refine jj_aload_n C0 5 rfl dL_law_818 ?_
  refine jj_iload C0 1 rfl dL_law_819 ?_
  refine jj_iconst C0 dL_law_821 ?_
  refine jj_iadd C0 dL_law_822 ?_
  refine jj_sald C0 hX hbl hbA hL (k := (i + 3)) (by omega) (by omega) dL_law_823 ?_
  refine jj_topi (b := a3) h3 ?_
  refine jj_callVi C0 (cells' := (cells + 1)) (slots' := (slots + 6)) (cb_X4_exercise hEV (w := a1) (z := (c : Int)) (x := a3) (kz := h5) (kk := 3) hr3 (by omega) hr1 hn hOv hHe6 hAm hEx htd (by omega) (Or.inr (Or.inr ⟨by omega, hx1, hb, rfl⟩))) (cwV 3 hw (lw_gV hU_981 hU_982 hU_983 hU_66 hU_984) rfl rfl rfl (by decide +kernel) ⟨Nat.le_of_ble_eq_true rfl, Nat.le_of_ble_eq_true rfl⟩) (ci := 5) (q0 := 0) rfl (rfl) rfl rfl (Nat.le_of_ble_eq_true rfl) ⟨by show (cells + 1) + 0 ≤ 601024; omega, by show (slots + 6) + 0 ≤ 7293034; omega⟩ rfl rfl dL_law_824 ?_
  intro u_1 hu
  show jj_W _ _ _ _ _ _ _ _ _ _ _ _ _ _ _ _ _ 827 _ [.int (iI u_1)] (wM ad cI cJ cZ 3 td pr up dn dv n K St Ex Am Ov Bj Aj BL AL He Co Ca mo sh co sd Cz Ab be ++ (wH ha cA hA nA ed cI cJ cZ td pr up dn dv rw sd mc n mo sh co Ca Cz K St Ex Am Bi As BL AL He Co ++ ((o, .inl (cJ, 1, .inr (.inl (lA F)))) :: GG)))
  refine jj_istore C0 (lv' := [(6, .int (iI u_1)), (5, .int (iI 3)), (4, .int (iI (i : Int))), (3, .ref o), (2, .ref (ad 0)), (1, .ref (ha 0)), (0, .ref b)]) (by decide) rfl dL_law_827 ?_
  refine jj_aload_n C0 4 rfl dL_law_829 ?_
  refine jj_callVi C0 (cells' := (cells + 1)) (slots' := (slots + 6)) (cc_X4_thrown hEV  ) (cwV 0 hw (lw_gV hU_865 hU_866 hU_867 hU_66 hU_868) rfl rfl rfl (by decide +kernel) ⟨Nat.le_of_ble_eq_true rfl, Nat.le_of_ble_eq_true rfl⟩) (ci := 5) (q0 := 0) rfl (rfl) rfl rfl (Nat.le_of_ble_eq_true rfl) ⟨by show (cells + 1) + 0 ≤ 601024; omega, by show (slots + 6) + 0 ≤ 7293034; omega⟩ rfl rfl dL_law_830 ?_
  intro _ hu
  show jj_W _ _ _ _ _ _ _ _ _ _ _ _ _ _ _ _ _ 833 _ [.int (iI 3)] (wM ad cI cJ cZ 3 td pr up dn dv n K St Ex Am Ov Bj Aj BL AL He Co Ca mo sh co sd Cz Ab be ++ (wH ha cA hA nA ed cI cJ cZ td pr up dn dv rw sd mc n mo sh co Ca Cz K St Ex Am Bi As BL AL He Co ++ ((o, .inl (cJ, 1, .inr (.inl (lA F)))) :: GG)))
  refine jj_iload C0 1 rfl dL_law_833 ?_
  refine jj_icmp_eq C0 (by omega) (by omega) dL_law_835 (tgt := 840) (by decide) (fun c_2 => ?_) (fun c_2 => absurd c_2 (by omega))
  refine jj_iload C0 1 rfl dL_law_840 ?_
  refine jj_if_ne C0 (by omega) dL_law_842 (tgt := 857) (by decide) (fun c_3 => ?_) (fun c_3 => absurd c_3 (by omega))
  refine jj_goto C0 (tgt := 1530) dL_law_857 (by decide) ?_
  refine jj_toH ?_
  refine jj_lv [2, 3, 4, 5, 6] rfl ?_
  exact kK cA hA nA ed rw F mc GG 3 be Ab td pr up dn dv sd n mo sh co Ca Cz K St Ex Am Ov Bi As Bj Aj BL AL He Co _ _ (f_IV_k hV) (hG) (by omega) (by omega)
set_option maxHeartbeats 4000000 in
set_option maxRecDepth 100000 in
theorem ll_contrary (hC9 : f_CC p l s m args meth c9 dC dI A cI cJ cZ cO es mi sa b L xs) (hi : i + 5 ≤ L) (hik : i = 5 * k) (hcs : cells + 8 ≤ 601024 ∧ slots + 80 ≤ 7293034) (hI : f_IV k td n pr up dn dv sd mo sh Ca K St Ex Am Ov Bi As Bj Aj BL AL He Co) (hG : f_LG cO es n ed cA GG) (kK : f_KK p l e s m args below meth c9 dC dI A Q ha ad cI cJ cZ cO o es b i k cells slots) {h5 c : Nat} {a3 vb : Int} (h1 : (xs (i + 1)).toInt = (h5 : Int)) (h2 : (xs (i + 2)).toInt = (c : Int)) (h3 : (xs (i + 3)).toInt = a3) (hr3 : iR a3) (hvb : (a3 ≠ 0 ∧ vb = 1) ∨ (a3 = 0 ∧ vb = 0)) (hcn : c < n) (hov0 : Ov c = 0) (hk : h5 ≤ 5) : jj_W p l e room_1 s m args below meth c9 (dC, dI) vwCl A 8 cells slots Q 860 [(4, .int (iI (i : Int))), (3, .ref o), (2, .ref (ad 0)), (1, .ref (ha 0)), (0, .ref b)] [] (wH ha cA hA nA ed cI cJ cZ td pr up dn dv rw sd mc n mo sh co Ca Cz K St Ex Am Bi As BL AL He Co ++ ((o, .inl (cJ, 1, .inr (.inl (lA F)))) :: (GG ++ wM ad cI cJ cZ th td pr up dn dv n K St Ex Am Ov Bj Aj BL AL He Co Ca mo sh co sd Cz Ab be))) := by
  obtain ⟨C0, hl, hX, hbl, hbA, hL⟩ := hC9
  have hw := C0.2.2.2.2.1
  have hEV := hEVW es mi sa
  have hV := hI
  obtain ⟨⟨htd, hn, hpr, hup, hdn, hdv, hsd, hmo, hsh⟩, ⟨hK, hSt, hEx, hAm, hOv, hovs, hexs, hovn⟩, hQ9, ⟨hHe, hsums, hHz⟩, ⟨hCo, hCz⟩, hCa⟩ := hI
  have hQ := hQ9
  obtain ⟨hBi, hAs, hBj, hAj, hBL, hAL, hQt, hQ0, hQn, hQo⟩ := hQ9
  have hED0 : 0 < n → f_ED cA n ed cO (GG ++ wM ad cI cJ cZ th td pr up dn dv n K St Ex Am Ov Bj Aj BL AL He Co Ca mo sh co sd Cz Ab be) := f_LG_ED hG
  have hexs1 : ∀ c, c < n → Ex c ≤ (td : Int) + 10 := fun c hc => (hexs c hc).1
  have hk5 : k ≤ 511 := by omega
  have hHe9 : ∀ j, -999000 ≤ He j ∧ He j ≤ 999000 := fun j => by have := hHe j; omega
  have hHe6 : ∀ j, -1000000 ≤ He j ∧ He j ≤ 1000000 := fun j => by have := hHe j; omega
  have hCa9 : ∀ j, -100000000000000000 ≤ Ca j ∧ Ca j ≤ 100000000000000000 := fun j => by have := hCa j; omega
  have hov1 : (td : Int) ≤ Ex c := by have := hovs c hcn; omega
  have hv9 : vb = 0 ∨ vb = 1 := by omega
  refine jj_aload_n C0 3 rfl dL_law_860 ?_
  refine jj_aload_n C0 4 rfl dL_law_861 ?_
  refine jj_iload C0 0 rfl dL_law_862 ?_
  refine jj_iconst C0 dL_law_864 ?_
  refine jj_iadd C0 dL_law_865 ?_
  refine jj_sald C0 hX hbl hbA hL (k := (i + 1)) (by omega) (by omega) dL_law_866 ?_
  refine jj_topi (b := (h5 : Int)) h1 ?_
  refine jj_aload_n C0 4 rfl dL_law_867 ?_
  refine jj_iload C0 0 rfl dL_law_868 ?_
  refine jj_iconst C0 dL_law_870 ?_
  refine jj_iadd C0 dL_law_871 ?_
  refine jj_sald C0 hX hbl hbA hL (k := (i + 2)) (by omega) (by omega) dL_law_872 ?_
  refine jj_topi (b := (c : Int)) h2 ?_
  refine jj_aload_n C0 4 rfl dL_law_873 ?_
  refine jj_iload C0 0 rfl dL_law_874 ?_
  refine jj_iconst C0 dL_law_876 ?_
  refine jj_iadd C0 dL_law_877 ?_
  refine jj_sald C0 hX hbl hbA hL (k := (i + 3)) (by omega) (by omega) dL_law_878 ?_
  refine jj_topi (b := a3) h3 ?_
  refine jj_bool C0 (by omega) hvb dL_law_879 dL_law_882 dL_law_883 dL_law_886 ?_
  refine jj_aload_n C0 1 rfl dL_law_887 ?_
  refine jj_callSWi C0 (cells' := cells) (slots' := slots) (jj_weaki (fun A U H h => h.1) (cw_L_contrary hl (k := h5) (c := c) (v := vb) hk hv9 hov1 hcn hn hCo htd hEx hED0)) (vx_cwSW 5 hw (lw_gW hU_680 hU_681 hU_59 hU_682) rfl rfl rfl (by decide +kernel) ⟨Nat.le_of_ble_eq_true rfl, Nat.le_of_ble_eq_true rfl⟩) rfl rfl (Nat.le_of_ble_eq_true rfl) ⟨by show cells + 0 ≤ 601024; omega, by show slots + 0 ≤ 7293034; omega⟩ rfl rfl dL_law_888 ?_
  intro _ hu
  show jj_W _ _ _ _ _ _ _ _ _ _ _ _ _ _ _ _ _ 891 _ [.int (iI 0)] (wH ha cA hA nA ed cI cJ cZ td pr up dn dv rw sd mc n mo sh co Ca Cz K St Ex Am Bi As BL AL He (va_up Co (7 * c + h5) vb) ++ ((o, .inl (cJ, 1, .inr (.inl (lA (va_up F 0 (if Co (7 * c + h5) = vb then 0 else 1)))))) :: (GG ++ wM ad cI cJ cZ th td pr up dn dv n K St Ex Am Ov Bj Aj BL AL He Co Ca mo sh co sd Cz Ab be)))
  refine jj_istore C0 (lv' := [(5, .int (iI 0)), (4, .int (iI (i : Int))), (3, .ref o), (2, .ref (ad 0)), (1, .ref (ha 0)), (0, .ref b)]) (by decide) rfl dL_law_891 ?_
  refine jj_toM ?_
  refine jj_aload_n C0 3 rfl dL_law_893 ?_
  refine jj_aload_n C0 5 rfl dL_law_894 ?_
  refine jj_iload C0 1 rfl dL_law_895 ?_
  refine jj_iconst C0 dL_law_897 ?_
  refine jj_iadd C0 dL_law_898 ?_
  refine jj_sald C0 hX hbl hbA hL (k := (i + 1)) (by omega) (by omega) dL_law_899 ?_
  refine jj_topi (b := (h5 : Int)) h1 ?_
  refine jj_aload_n C0 5 rfl dL_law_900 ?_
  refine jj_iload C0 1 rfl dL_law_901 ?_
  refine jj_iconst C0 dL_law_903 ?_
  refine jj_iadd C0 dL_law_904 ?_
  refine jj_sald C0 hX hbl hbA hL (k := (i + 2)) (by omega) (by omega) dL_law_905 ?_
  refine jj_topi (b := (c : Int)) h2 ?_
  refine jj_aload_n C0 5 rfl dL_law_906 ?_
  refine jj_iload C0 1 rfl dL_law_907 ?_
  refine jj_iconst C0 dL_law_909 ?_
  refine jj_iadd C0 dL_law_910 ?_
  refine jj_sald C0 hX hbl hbA hL (k := (i + 3)) (by omega) (by omega) dL_law_911 ?_
  refine jj_topi (b := a3) h3 ?_
  refine jj_bool C0 (by omega) hvb dL_law_912 dL_law_915 dL_law_916 dL_law_919 ?_
  refine jj_callVi C0 (cells' := cells) (slots' := slots) (cc_X4_contrary hEV (k := h5) (c := c) (v := vb) hk hv9 hov0 hcn hn hCo) (cwV 3 hw (lw_gV hU_1005 hU_1006 hU_1007 hU_66 hU_1008) rfl rfl rfl (by decide +kernel) ⟨Nat.le_of_ble_eq_true rfl, Nat.le_of_ble_eq_true rfl⟩) (ci := 5) (q0 := 0) rfl (rfl) rfl rfl (Nat.le_of_ble_eq_true rfl) ⟨by show cells + 0 ≤ 601024; omega, by show slots + 0 ≤ 7293034; omega⟩ rfl rfl dL_law_920 ?_
  intro _ hu
  show jj_W _ _ _ _ _ _ _ _ _ _ _ _ _ _ _ _ _ 923 _ [.int (iI (if Co (7 * c + h5) = vb then 0 else 1))] (wM ad cI cJ cZ 0 td pr up dn dv n K St Ex Am Ov Bj Aj BL AL He (va_up Co (7 * c + h5) vb) Ca mo sh co sd Cz Ab be ++ (wH ha cA hA nA ed cI cJ cZ td pr up dn dv rw sd mc n mo sh co Ca Cz K St Ex Am Bi As BL AL He (va_up Co (7 * c + h5) vb) ++ ((o, .inl (cJ, 1, .inr (.inl (lA (va_up F 0 (if Co (7 * c + h5) = vb then 0 else 1)))))) :: GG)))
  refine jj_istore C0 (lv' := [(6, .int (iI (if Co (7 * c + h5) = vb then 0 else 1))), (5, .int (iI 0)), (4, .int (iI (i : Int))), (3, .ref o), (2, .ref (ad 0)), (1, .ref (ha 0)), (0, .ref b)]) (by decide) rfl dL_law_923 ?_
  refine jj_aload_n C0 4 rfl dL_law_925 ?_
  refine jj_callVi C0 (cells' := cells) (slots' := slots) (cc_X4_thrown hEV  ) (cwV 0 hw (lw_gV hU_865 hU_866 hU_867 hU_66 hU_868) rfl rfl rfl (by decide +kernel) ⟨Nat.le_of_ble_eq_true rfl, Nat.le_of_ble_eq_true rfl⟩) (ci := 5) (q0 := 0) rfl (rfl) rfl rfl (Nat.le_of_ble_eq_true rfl) ⟨by show cells + 0 ≤ 601024; omega, by show slots + 0 ≤ 7293034; omega⟩ rfl rfl dL_law_926 ?_
  intro _ hu
  show jj_W _ _ _ _ _ _ _ _ _ _ _ _ _ _ _ _ _ 929 _ [.int (iI 0)] (wM ad cI cJ cZ 0 td pr up dn dv n K St Ex Am Ov Bj Aj BL AL He (va_up Co (7 * c + h5) vb) Ca mo sh co sd Cz Ab be ++ (wH ha cA hA nA ed cI cJ cZ td pr up dn dv rw sd mc n mo sh co Ca Cz K St Ex Am Bi As BL AL He (va_up Co (7 * c + h5) vb) ++ ((o, .inl (cJ, 1, .inr (.inl (lA (va_up F 0 (if Co (7 * c + h5) = vb then 0 else 1)))))) :: GG)))
  refine jj_iload C0 1 rfl dL_law_929 ?_
  refine jj_icmp_eq C0 (by omega) (by omega) dL_law_931 (tgt := 936) (by decide) (fun c_1 => ?_) (fun c_1 => absurd c_1 (by omega))
  refine jj_iload C0 1 rfl dL_law_936 ?_
  refine jj_if_ne C0 (by omega) dL_law_938 (tgt := 960) (by decide) (fun c_2 => absurd c_2 (by omega)) (fun c_2 => ?_)
  refine jj_toH ?_
  refine jj_aload_n C0 3 rfl dL_law_941 ?_
  refine jj_iconst C0 dL_law_942 ?_
  refine jj_lald C0 (q0 := (8 + (3 * n + 0))) (t0 := 1) (f := (va_up F 0 (if Co (7 * c + h5) = vb then 0 else 1))) ((wH_ee (n := n) rfl)) rfl (k := 0) (by omega) (by omega) (by decide) dL_law_943 ?_
  refine jj_topl (b := (if Co (7 * c + h5) = vb then 0 else 1)) (va_up_self _ _ _) ?_
  refine jj_iload C0 0 rfl dL_law_944 ?_
  refine jj_lbool C0 (by split <;> omega) dL_law_946 dL_law_949 dL_law_950 dL_law_953 ?_
  refine jj_lcmpS C0 dL_law_954 dL_law_955 (tgt := 960) (by decide) ?_
  refine jj_goto C0 (tgt := 1530) dL_law_960 (by decide) ?_
  refine jj_lv [2, 3, 4, 5, 6] rfl ?_
  exact kK cA hA nA ed rw (va_up F 0 (if Co (7 * c + h5) = vb then 0 else 1)) mc GG 0 be Ab td pr up dn dv sd n mo sh co Ca Cz K St Ex Am Ov Bi As Bj Aj BL AL He (va_up Co (7 * c + h5) vb) _ _ (f_IV_contrary hV hcn hk hv9) (hG) (by omega) (by omega)
set_option maxHeartbeats 4000000 in
set_option maxRecDepth 100000 in
theorem ll_contrary_I (hC9 : f_CC p l s m args meth c9 dC dI A cI cJ cZ cO es mi sa b L xs) (hi : i + 5 ≤ L) (hik : i = 5 * k) (hcs : cells + 8 ≤ 601024 ∧ slots + 80 ≤ 7293034) (hI : f_IV k td n pr up dn dv sd mo sh Ca K St Ex Am Ov Bi As Bj Aj BL AL He Co) (hG : f_LG cO es n ed cA GG) (kK : f_KK p l e s m args below meth c9 dC dI A Q ha ad cI cJ cZ cO o es b i k cells slots) {a1 a2 a3 vb : Int} (h1 : (xs (i + 1)).toInt = a1) (h2 : (xs (i + 2)).toInt = a2) (h3 : (xs (i + 3)).toInt = a3) (hr1 : iR a1) (hr2 : iR a2) (hr3 : iR a3) (hvb : (a3 ≠ 0 ∧ vb = 1) ∨ (a3 = 0 ∧ vb = 0)) (hb : ¬ (0 ≤ a1 ∧ a1 ≤ 5 ∧ 0 ≤ a2 ∧ a2 < (n : Int))) : jj_W p l e room_1 s m args below meth c9 (dC, dI) vwCl A 8 cells slots Q 860 [(4, .int (iI (i : Int))), (3, .ref o), (2, .ref (ad 0)), (1, .ref (ha 0)), (0, .ref b)] [] (wH ha cA hA nA ed cI cJ cZ td pr up dn dv rw sd mc n mo sh co Ca Cz K St Ex Am Bi As BL AL He Co ++ ((o, .inl (cJ, 1, .inr (.inl (lA F)))) :: (GG ++ wM ad cI cJ cZ th td pr up dn dv n K St Ex Am Ov Bj Aj BL AL He Co Ca mo sh co sd Cz Ab be))) := by
  obtain ⟨C0, hl, hX, hbl, hbA, hL⟩ := hC9
  have hw := C0.2.2.2.2.1
  have hEV := hEVW es mi sa
  have hV := hI
  obtain ⟨⟨htd, hn, hpr, hup, hdn, hdv, hsd, hmo, hsh⟩, ⟨hK, hSt, hEx, hAm, hOv, hovs, hexs, hovn⟩, hQ9, ⟨hHe, hsums, hHz⟩, ⟨hCo, hCz⟩, hCa⟩ := hI
  have hQ := hQ9
  obtain ⟨hBi, hAs, hBj, hAj, hBL, hAL, hQt, hQ0, hQn, hQo⟩ := hQ9
  have hED0 : 0 < n → f_ED cA n ed cO (GG ++ wM ad cI cJ cZ th td pr up dn dv n K St Ex Am Ov Bj Aj BL AL He Co Ca mo sh co sd Cz Ab be) := f_LG_ED hG
  have hexs1 : ∀ c, c < n → Ex c ≤ (td : Int) + 10 := fun c hc => (hexs c hc).1
  have hk5 : k ≤ 511 := by omega
  have hHe9 : ∀ j, -999000 ≤ He j ∧ He j ≤ 999000 := fun j => by have := hHe j; omega
  have hHe6 : ∀ j, -1000000 ≤ He j ∧ He j ≤ 1000000 := fun j => by have := hHe j; omega
  have hCa9 : ∀ j, -100000000000000000 ≤ Ca j ∧ Ca j ≤ 100000000000000000 := fun j => by have := hCa j; omega
  refine jj_aload_n C0 3 rfl dL_law_860 ?_
  refine jj_aload_n C0 4 rfl dL_law_861 ?_
  refine jj_iload C0 0 rfl dL_law_862 ?_
  refine jj_iconst C0 dL_law_864 ?_
  refine jj_iadd C0 dL_law_865 ?_
  refine jj_sald C0 hX hbl hbA hL (k := (i + 1)) (by omega) (by omega) dL_law_866 ?_
  refine jj_topi (b := a1) h1 ?_
  refine jj_aload_n C0 4 rfl dL_law_867 ?_
  refine jj_iload C0 0 rfl dL_law_868 ?_
  refine jj_iconst C0 dL_law_870 ?_
  refine jj_iadd C0 dL_law_871 ?_
  refine jj_sald C0 hX hbl hbA hL (k := (i + 2)) (by omega) (by omega) dL_law_872 ?_
  refine jj_topi (b := a2) h2 ?_
  refine jj_aload_n C0 4 rfl dL_law_873 ?_
  refine jj_iload C0 0 rfl dL_law_874 ?_
  refine jj_iconst C0 dL_law_876 ?_
  refine jj_iadd C0 dL_law_877 ?_
  refine jj_sald C0 hX hbl hbA hL (k := (i + 3)) (by omega) (by omega) dL_law_878 ?_
  refine jj_topi (b := a3) h3 ?_
  refine jj_bool C0 (by omega) hvb dL_law_879 dL_law_882 dL_law_883 dL_law_886 ?_
  refine jj_aload_n C0 1 rfl dL_law_887 ?_
  refine jj_callSWi C0 (cells' := cells + 1) (slots' := slots + 6) (jj_weaki (fun A U H h => h.1) (cr_L_contrary hl (w := a1) (z := a2) (v := vb) hb hr1 hr2 hn hED0)) (vx_cwSW 5 hw (lw_gW hU_680 hU_681 hU_59 hU_682) rfl rfl rfl (by decide +kernel) ⟨Nat.le_of_ble_eq_true rfl, Nat.le_of_ble_eq_true rfl⟩) rfl rfl (Nat.le_of_ble_eq_true rfl) ⟨by show cells + 1 ≤ 601024; omega, by show slots + 6 ≤ 7293034; omega⟩ rfl rfl dL_law_888 ?_
  intro _ hu
  show jj_W _ _ _ _ _ _ _ _ _ _ _ _ _ _ _ _ _ 891 _ [.int (iI 1)] (wH ha cA hA nA ed cI cJ cZ td pr up dn dv rw sd mc n mo sh co Ca Cz K St Ex Am Bi As BL AL He Co ++ ((o, .inl (cJ, 1, .inr (.inl (lA F)))) :: (GG ++ wM ad cI cJ cZ th td pr up dn dv n K St Ex Am Ov Bj Aj BL AL He Co Ca mo sh co sd Cz Ab be)))
  refine jj_istore C0 (lv' := [(5, .int (iI 1)), (4, .int (iI (i : Int))), (3, .ref o), (2, .ref (ad 0)), (1, .ref (ha 0)), (0, .ref b)]) (by decide) rfl dL_law_891 ?_
  refine jj_toM ?_
  refine jj_aload_n C0 3 rfl dL_law_893 ?_
  refine jj_aload_n C0 5 rfl dL_law_894 ?_
  refine jj_iload C0 1 rfl dL_law_895 ?_
  refine jj_iconst C0 dL_law_897 ?_
  refine jj_iadd C0 dL_law_898 ?_
  refine jj_sald C0 hX hbl hbA hL (k := (i + 1)) (by omega) (by omega) dL_law_899 ?_
  refine jj_topi (b := a1) h1 ?_
  refine jj_aload_n C0 5 rfl dL_law_900 ?_
  refine jj_iload C0 1 rfl dL_law_901 ?_
  refine jj_iconst C0 dL_law_903 ?_
  refine jj_iadd C0 dL_law_904 ?_
  refine jj_sald C0 hX hbl hbA hL (k := (i + 2)) (by omega) (by omega) dL_law_905 ?_
  refine jj_topi (b := a2) h2 ?_
  refine jj_aload_n C0 5 rfl dL_law_906 ?_
  refine jj_iload C0 1 rfl dL_law_907 ?_
  refine jj_iconst C0 dL_law_909 ?_
  refine jj_iadd C0 dL_law_910 ?_
  refine jj_sald C0 hX hbl hbA hL (k := (i + 3)) (by omega) (by omega) dL_law_911 ?_
  refine jj_topi (b := a3) h3 ?_
  refine jj_bool C0 (by omega) hvb dL_law_912 dL_law_915 dL_law_916 dL_law_919 ?_
  refine jj_callVi C0 (cells' := (cells + 1)) (slots' := (slots + 6)) (cb_X4_contrary hEV (x := a1) (z := a2) (v := vb) (kk := 1) hr1 hr2 hn hOv (Or.inl ⟨hb, rfl⟩)) (cwV 3 hw (lw_gV hU_1005 hU_1006 hU_1007 hU_66 hU_1008) rfl rfl rfl (by decide +kernel) ⟨Nat.le_of_ble_eq_true rfl, Nat.le_of_ble_eq_true rfl⟩) (ci := 5) (q0 := 0) rfl (rfl) rfl rfl (Nat.le_of_ble_eq_true rfl) ⟨by show (cells + 1) + 0 ≤ 601024; omega, by show (slots + 6) + 0 ≤ 7293034; omega⟩ rfl rfl dL_law_920 ?_
  intro u_1 hu
  show jj_W _ _ _ _ _ _ _ _ _ _ _ _ _ _ _ _ _ 923 _ [.int (iI u_1)] (wM ad cI cJ cZ 1 td pr up dn dv n K St Ex Am Ov Bj Aj BL AL He Co Ca mo sh co sd Cz Ab be ++ (wH ha cA hA nA ed cI cJ cZ td pr up dn dv rw sd mc n mo sh co Ca Cz K St Ex Am Bi As BL AL He Co ++ ((o, .inl (cJ, 1, .inr (.inl (lA F)))) :: GG)))
  refine jj_istore C0 (lv' := [(6, .int (iI u_1)), (5, .int (iI 1)), (4, .int (iI (i : Int))), (3, .ref o), (2, .ref (ad 0)), (1, .ref (ha 0)), (0, .ref b)]) (by decide) rfl dL_law_923 ?_
  refine jj_aload_n C0 4 rfl dL_law_925 ?_
  refine jj_callVi C0 (cells' := (cells + 1)) (slots' := (slots + 6)) (cc_X4_thrown hEV  ) (cwV 0 hw (lw_gV hU_865 hU_866 hU_867 hU_66 hU_868) rfl rfl rfl (by decide +kernel) ⟨Nat.le_of_ble_eq_true rfl, Nat.le_of_ble_eq_true rfl⟩) (ci := 5) (q0 := 0) rfl (rfl) rfl rfl (Nat.le_of_ble_eq_true rfl) ⟨by show (cells + 1) + 0 ≤ 601024; omega, by show (slots + 6) + 0 ≤ 7293034; omega⟩ rfl rfl dL_law_926 ?_
  intro _ hu
  show jj_W _ _ _ _ _ _ _ _ _ _ _ _ _ _ _ _ _ 929 _ [.int (iI 1)] (wM ad cI cJ cZ 1 td pr up dn dv n K St Ex Am Ov Bj Aj BL AL He Co Ca mo sh co sd Cz Ab be ++ (wH ha cA hA nA ed cI cJ cZ td pr up dn dv rw sd mc n mo sh co Ca Cz K St Ex Am Bi As BL AL He Co ++ ((o, .inl (cJ, 1, .inr (.inl (lA F)))) :: GG)))
  refine jj_iload C0 1 rfl dL_law_929 ?_
  refine jj_icmp_eq C0 (by omega) (by omega) dL_law_931 (tgt := 936) (by decide) (fun c_2 => ?_) (fun c_2 => absurd c_2 (by omega))
  refine jj_iload C0 1 rfl dL_law_936 ?_
  refine jj_if_ne C0 (by omega) dL_law_938 (tgt := 960) (by decide) (fun c_3 => ?_) (fun c_3 => absurd c_3 (by omega))
  refine jj_goto C0 (tgt := 1530) dL_law_960 (by decide) ?_
  refine jj_toH ?_
  refine jj_lv [2, 3, 4, 5, 6] rfl ?_
  exact kK cA hA nA ed rw F mc GG 1 be Ab td pr up dn dv sd n mo sh co Ca Cz K St Ex Am Ov Bi As Bj Aj BL AL He Co _ _ (f_IV_k hV) (hG) (by omega) (by omega)
set_option maxHeartbeats 4000000 in
set_option maxRecDepth 100000 in
theorem ll_contrary_S (hC9 : f_CC p l s m args meth c9 dC dI A cI cJ cZ cO es mi sa b L xs) (hi : i + 5 ≤ L) (hik : i = 5 * k) (hcs : cells + 8 ≤ 601024 ∧ slots + 80 ≤ 7293034) (hI : f_IV k td n pr up dn dv sd mo sh Ca K St Ex Am Ov Bi As Bj Aj BL AL He Co) (hG : f_LG cO es n ed cA GG) (kK : f_KK p l e s m args below meth c9 dC dI A Q ha ad cI cJ cZ cO o es b i k cells slots) {c : Nat} {a1 a3 vb : Int} (h1 : (xs (i + 1)).toInt = a1) (h2 : (xs (i + 2)).toInt = (c : Int)) (h3 : (xs (i + 3)).toInt = a3) (hr3 : iR a3) (hvb : (a3 ≠ 0 ∧ vb = 1) ∨ (a3 = 0 ∧ vb = 0)) (hcn : c < n) (hov0 : Ov c ≠ 0) (hw0 : 0 ≤ a1 ∧ a1 ≤ 5) : jj_W p l e room_1 s m args below meth c9 (dC, dI) vwCl A 8 cells slots Q 860 [(4, .int (iI (i : Int))), (3, .ref o), (2, .ref (ad 0)), (1, .ref (ha 0)), (0, .ref b)] [] (wH ha cA hA nA ed cI cJ cZ td pr up dn dv rw sd mc n mo sh co Ca Cz K St Ex Am Bi As BL AL He Co ++ ((o, .inl (cJ, 1, .inr (.inl (lA F)))) :: (GG ++ wM ad cI cJ cZ th td pr up dn dv n K St Ex Am Ov Bj Aj BL AL He Co Ca mo sh co sd Cz Ab be))) := by
  obtain ⟨C0, hl, hX, hbl, hbA, hL⟩ := hC9
  have hw := C0.2.2.2.2.1
  have hEV := hEVW es mi sa
  have hV := hI
  obtain ⟨⟨htd, hn, hpr, hup, hdn, hdv, hsd, hmo, hsh⟩, ⟨hK, hSt, hEx, hAm, hOv, hovs, hexs, hovn⟩, hQ9, ⟨hHe, hsums, hHz⟩, ⟨hCo, hCz⟩, hCa⟩ := hI
  have hQ := hQ9
  obtain ⟨hBi, hAs, hBj, hAj, hBL, hAL, hQt, hQ0, hQn, hQo⟩ := hQ9
  have hED0 : 0 < n → f_ED cA n ed cO (GG ++ wM ad cI cJ cZ th td pr up dn dv n K St Ex Am Ov Bj Aj BL AL He Co Ca mo sh co sd Cz Ab be) := f_LG_ED hG
  have hexs1 : ∀ c, c < n → Ex c ≤ (td : Int) + 10 := fun c hc => (hexs c hc).1
  have hk5 : k ≤ 511 := by omega
  have hHe9 : ∀ j, -999000 ≤ He j ∧ He j ≤ 999000 := fun j => by have := hHe j; omega
  have hHe6 : ∀ j, -1000000 ≤ He j ∧ He j ≤ 1000000 := fun j => by have := hHe j; omega
  have hCa9 : ∀ j, -100000000000000000 ≤ Ca j ∧ Ca j ≤ 100000000000000000 := fun j => by have := hCa j; omega
  have hov1 : Ex c < (td : Int) := by have := hovs c hcn; omega
  refine jj_aload_n C0 3 rfl dL_law_860 ?_
  refine jj_aload_n C0 4 rfl dL_law_861 ?_
  refine jj_iload C0 0 rfl dL_law_862 ?_
  refine jj_iconst C0 dL_law_864 ?_
  refine jj_iadd C0 dL_law_865 ?_
  refine jj_sald C0 hX hbl hbA hL (k := (i + 1)) (by omega) (by omega) dL_law_866 ?_
  refine jj_topi (b := a1) h1 ?_
  refine jj_aload_n C0 4 rfl dL_law_867 ?_
  refine jj_iload C0 0 rfl dL_law_868 ?_
  refine jj_iconst C0 dL_law_870 ?_
  refine jj_iadd C0 dL_law_871 ?_
  refine jj_sald C0 hX hbl hbA hL (k := (i + 2)) (by omega) (by omega) dL_law_872 ?_
  refine jj_topi (b := (c : Int)) h2 ?_
  refine jj_aload_n C0 4 rfl dL_law_873 ?_
  refine jj_iload C0 0 rfl dL_law_874 ?_
  refine jj_iconst C0 dL_law_876 ?_
  refine jj_iadd C0 dL_law_877 ?_
  refine jj_sald C0 hX hbl hbA hL (k := (i + 3)) (by omega) (by omega) dL_law_878 ?_
  refine jj_topi (b := a3) h3 ?_
  refine jj_bool C0 (by omega) hvb dL_law_879 dL_law_882 dL_law_883 dL_law_886 ?_
  refine jj_aload_n C0 1 rfl dL_law_887 ?_
  refine jj_callSWi C0 (cells' := cells + 1) (slots' := slots + 6) (jj_weaki (fun A U H h => h.1) (cr_L_contrary_S hl (w := a1) (c := c) (v := vb) hov1 hw0 hcn hn hEx htd hED0)) (vx_cwSW 5 hw (lw_gW hU_680 hU_681 hU_59 hU_682) rfl rfl rfl (by decide +kernel) ⟨Nat.le_of_ble_eq_true rfl, Nat.le_of_ble_eq_true rfl⟩) rfl rfl (Nat.le_of_ble_eq_true rfl) ⟨by show cells + 1 ≤ 601024; omega, by show slots + 6 ≤ 7293034; omega⟩ rfl rfl dL_law_888 ?_
  intro _ hu
  show jj_W _ _ _ _ _ _ _ _ _ _ _ _ _ _ _ _ _ 891 _ [.int (iI 2)] (wH ha cA hA nA ed cI cJ cZ td pr up dn dv rw sd mc n mo sh co Ca Cz K St Ex Am Bi As BL AL He Co ++ ((o, .inl (cJ, 1, .inr (.inl (lA F)))) :: (GG ++ wM ad cI cJ cZ th td pr up dn dv n K St Ex Am Ov Bj Aj BL AL He Co Ca mo sh co sd Cz Ab be)))
  refine jj_istore C0 (lv' := [(5, .int (iI 2)), (4, .int (iI (i : Int))), (3, .ref o), (2, .ref (ad 0)), (1, .ref (ha 0)), (0, .ref b)]) (by decide) rfl dL_law_891 ?_
  refine jj_toM ?_
  refine jj_aload_n C0 3 rfl dL_law_893 ?_
  refine jj_aload_n C0 5 rfl dL_law_894 ?_
  refine jj_iload C0 1 rfl dL_law_895 ?_
  refine jj_iconst C0 dL_law_897 ?_
  refine jj_iadd C0 dL_law_898 ?_
  refine jj_sald C0 hX hbl hbA hL (k := (i + 1)) (by omega) (by omega) dL_law_899 ?_
  refine jj_topi (b := a1) h1 ?_
  refine jj_aload_n C0 5 rfl dL_law_900 ?_
  refine jj_iload C0 1 rfl dL_law_901 ?_
  refine jj_iconst C0 dL_law_903 ?_
  refine jj_iadd C0 dL_law_904 ?_
  refine jj_sald C0 hX hbl hbA hL (k := (i + 2)) (by omega) (by omega) dL_law_905 ?_
  refine jj_topi (b := (c : Int)) h2 ?_
  refine jj_aload_n C0 5 rfl dL_law_906 ?_
  refine jj_iload C0 1 rfl dL_law_907 ?_
  refine jj_iconst C0 dL_law_909 ?_
  refine jj_iadd C0 dL_law_910 ?_
  refine jj_sald C0 hX hbl hbA hL (k := (i + 3)) (by omega) (by omega) dL_law_911 ?_
  refine jj_topi (b := a3) h3 ?_
  refine jj_bool C0 (by omega) hvb dL_law_912 dL_law_915 dL_law_916 dL_law_919 ?_
  refine jj_callVi C0 (cells' := (cells + 1)) (slots' := (slots + 6)) (cb_X4_contrary hEV (x := a1) (z := (c : Int)) (v := vb) (kk := 2) (by omega) (by omega) hn hOv (Or.inr ⟨by omega, hov0, rfl⟩)) (cwV 3 hw (lw_gV hU_1005 hU_1006 hU_1007 hU_66 hU_1008) rfl rfl rfl (by decide +kernel) ⟨Nat.le_of_ble_eq_true rfl, Nat.le_of_ble_eq_true rfl⟩) (ci := 5) (q0 := 0) rfl (rfl) rfl rfl (Nat.le_of_ble_eq_true rfl) ⟨by show (cells + 1) + 0 ≤ 601024; omega, by show (slots + 6) + 0 ≤ 7293034; omega⟩ rfl rfl dL_law_920 ?_
  intro u_1 hu
  show jj_W _ _ _ _ _ _ _ _ _ _ _ _ _ _ _ _ _ 923 _ [.int (iI u_1)] (wM ad cI cJ cZ 2 td pr up dn dv n K St Ex Am Ov Bj Aj BL AL He Co Ca mo sh co sd Cz Ab be ++ (wH ha cA hA nA ed cI cJ cZ td pr up dn dv rw sd mc n mo sh co Ca Cz K St Ex Am Bi As BL AL He Co ++ ((o, .inl (cJ, 1, .inr (.inl (lA F)))) :: GG)))
  refine jj_istore C0 (lv' := [(6, .int (iI u_1)), (5, .int (iI 2)), (4, .int (iI (i : Int))), (3, .ref o), (2, .ref (ad 0)), (1, .ref (ha 0)), (0, .ref b)]) (by decide) rfl dL_law_923 ?_
  refine jj_aload_n C0 4 rfl dL_law_925 ?_
  refine jj_callVi C0 (cells' := (cells + 1)) (slots' := (slots + 6)) (cc_X4_thrown hEV  ) (cwV 0 hw (lw_gV hU_865 hU_866 hU_867 hU_66 hU_868) rfl rfl rfl (by decide +kernel) ⟨Nat.le_of_ble_eq_true rfl, Nat.le_of_ble_eq_true rfl⟩) (ci := 5) (q0 := 0) rfl (rfl) rfl rfl (Nat.le_of_ble_eq_true rfl) ⟨by show (cells + 1) + 0 ≤ 601024; omega, by show (slots + 6) + 0 ≤ 7293034; omega⟩ rfl rfl dL_law_926 ?_
  intro _ hu
  show jj_W _ _ _ _ _ _ _ _ _ _ _ _ _ _ _ _ _ 929 _ [.int (iI 2)] (wM ad cI cJ cZ 2 td pr up dn dv n K St Ex Am Ov Bj Aj BL AL He Co Ca mo sh co sd Cz Ab be ++ (wH ha cA hA nA ed cI cJ cZ td pr up dn dv rw sd mc n mo sh co Ca Cz K St Ex Am Bi As BL AL He Co ++ ((o, .inl (cJ, 1, .inr (.inl (lA F)))) :: GG)))
  refine jj_iload C0 1 rfl dL_law_929 ?_
  refine jj_icmp_eq C0 (by omega) (by omega) dL_law_931 (tgt := 936) (by decide) (fun c_2 => ?_) (fun c_2 => absurd c_2 (by omega))
  refine jj_iload C0 1 rfl dL_law_936 ?_
  refine jj_if_ne C0 (by omega) dL_law_938 (tgt := 960) (by decide) (fun c_3 => ?_) (fun c_3 => absurd c_3 (by omega))
  refine jj_goto C0 (tgt := 1530) dL_law_960 (by decide) ?_
  refine jj_toH ?_
  refine jj_lv [2, 3, 4, 5, 6] rfl ?_
  exact kK cA hA nA ed rw F mc GG 2 be Ab td pr up dn dv sd n mo sh co Ca Cz K St Ex Am Ov Bi As Bj Aj BL AL He Co _ _ (f_IV_k hV) (hG) (by omega) (by omega)
set_option maxHeartbeats 4000000 in
set_option maxRecDepth 100000 in
theorem ll_close (hC9 : f_CC p l s m args meth c9 dC dI A cI cJ cZ cO es mi sa b L xs) (hi : i + 5 ≤ L) (hik : i = 5 * k) (hcs : cells + 8 ≤ 601024 ∧ slots + 80 ≤ 7293034) (hI : f_IV k td n pr up dn dv sd mo sh Ca K St Ex Am Ov Bi As Bj Aj BL AL He Co) (hG : f_LG cO es n ed cA GG) (kK : f_KK p l e s m args below meth c9 dC dI A Q ha ad cI cJ cZ cO o es b i k cells slots)   (htd1 : td < 200) : jj_W p l e room_1 s m args below meth c9 (dC, dI) vwCl A 8 cells slots Q 963 [(4, .int (iI (i : Int))), (3, .ref o), (2, .ref (ad 0)), (1, .ref (ha 0)), (0, .ref b)] [] (wH ha cA hA nA ed cI cJ cZ td pr up dn dv rw sd mc n mo sh co Ca Cz K St Ex Am Bi As BL AL He Co ++ ((o, .inl (cJ, 1, .inr (.inl (lA F)))) :: (GG ++ wM ad cI cJ cZ th td pr up dn dv n K St Ex Am Ov Bj Aj BL AL He Co Ca mo sh co sd Cz Ab be))) := by
  obtain ⟨C0, hl, hX, hbl, hbA, hL⟩ := hC9
  have hw := C0.2.2.2.2.1
  have hEV := hEVW es mi sa
  have hV := hI
  obtain ⟨⟨htd, hn, hpr, hup, hdn, hdv, hsd, hmo, hsh⟩, ⟨hK, hSt, hEx, hAm, hOv, hovs, hexs, hovn⟩, hQ9, ⟨hHe, hsums, hHz⟩, ⟨hCo, hCz⟩, hCa⟩ := hI
  have hQ := hQ9
  obtain ⟨hBi, hAs, hBj, hAj, hBL, hAL, hQt, hQ0, hQn, hQo⟩ := hQ9
  have hED0 : 0 < n → f_ED cA n ed cO (GG ++ wM ad cI cJ cZ th td pr up dn dv n K St Ex Am Ov Bj Aj BL AL He Co Ca mo sh co sd Cz Ab be) := f_LG_ED hG
  have hexs1 : ∀ c, c < n → Ex c ≤ (td : Int) + 10 := fun c hc => (hexs c hc).1
  have hk5 : k ≤ 511 := by omega
  have hHe9 : ∀ j, -999000 ≤ He j ∧ He j ≤ 999000 := fun j => by have := hHe j; omega
  have hHe6 : ∀ j, -1000000 ≤ He j ∧ He j ≤ 1000000 := fun j => by have := hHe j; omega
  have hCa9 : ∀ j, -100000000000000000 ≤ Ca j ∧ Ca j ≤ 100000000000000000 := fun j => by have := hCa j; omega
  refine jj_aload_n C0 3 rfl dL_law_963 ?_
  refine jj_aload_n C0 1 rfl dL_law_964 ?_
  refine jj_callSWi C0 (cells' := cells) (slots' := slots) (jj_weaki (fun A U H h => h.1) (cw_L_close hl (Ov := Ov) htd1 hsums hsd hCo hBL hAL hpr hexs1 hn htd hup hdn hdv hK hSt hEx hAm hHe6 hsh hED0 (by omega))) (vx_cwSW 2 hw (lw_gW hU_691 hU_692 hU_59 hU_693) rfl rfl rfl (by decide +kernel) ⟨Nat.le_of_ble_eq_true rfl, Nat.le_of_ble_eq_true rfl⟩) rfl rfl (Nat.le_of_ble_eq_true rfl) ⟨by show cells + 0 ≤ 601024; omega, by show slots + 0 ≤ 7293034; omega⟩ rfl rfl dL_law_965 ?_
  intro r8_1 hu
  show jj_W _ _ _ _ _ _ _ _ _ _ _ _ _ _ _ _ _ 968 _ [.int (iI 0)] (wH ha cA hA nA ed cI cJ cZ (td + 1) pr up dn dv r8_1 (((f_cl K St Ex Co pr td n ((He, Ca, sd), Ov, BL, AL)).1).2.2) mc n mo sh co (((f_cl K St Ex Co pr td n ((He, Ca, sd), Ov, BL, AL)).1).2.1) (va_up (va_up Cz 4 ((Cz 4) + ((f_W up dn dv td n K St Ex Am ((f_cl K St Ex Co pr td n ((He, Ca, sd), Ov, BL, AL)).1.1) ((f_cl K St Ex Co pr td n ((He, Ca, sd), Ov, BL, AL)).1.2.1) sh pr) - (f_W up dn dv td n K St Ex Am He Ca sh pr)))) 2 (((va_up Cz 4 ((Cz 4) + ((f_W up dn dv td n K St Ex Am ((f_cl K St Ex Co pr td n ((He, Ca, sd), Ov, BL, AL)).1.1) ((f_cl K St Ex Co pr td n ((He, Ca, sd), Ov, BL, AL)).1.2.1) sh pr) - (f_W up dn dv td n K St Ex Am He Ca sh pr)))) 2) + ((f_W up dn dv (td + 1) n K St Ex Am ((f_cl K St Ex Co pr td n ((He, Ca, sd), Ov, BL, AL)).1.1) ((f_cl K St Ex Co pr td n ((He, Ca, sd), Ov, BL, AL)).1.2.1) sh pr) - (f_W up dn dv td n K St Ex Am ((f_cl K St Ex Co pr td n ((He, Ca, sd), Ov, BL, AL)).1.1) ((f_cl K St Ex Co pr td n ((He, Ca, sd), Ov, BL, AL)).1.2.1) sh pr)))) K St Ex Am (f_gone Ex td n Bi) (f_gone Ex td n As) ((f_cl K St Ex Co pr td n ((He, Ca, sd), Ov, BL, AL)).2.2.1) ((f_cl K St Ex Co pr td n ((He, Ca, sd), Ov, BL, AL)).2.2.2) (((f_cl K St Ex Co pr td n ((He, Ca, sd), Ov, BL, AL)).1).1) Co ++ ((o, .inl (cJ, 1, .inr (.inl (lA (va_up F 0 ((td + 1 : Nat) : Int)))))) :: (GG ++ wM ad cI cJ cZ th td pr up dn dv n K St Ex Am Ov Bj Aj BL AL He Co Ca mo sh co sd Cz Ab be)))
  refine jj_istore C0 (lv' := [(5, .int (iI 0)), (4, .int (iI (i : Int))), (3, .ref o), (2, .ref (ad 0)), (1, .ref (ha 0)), (0, .ref b)]) (by decide) rfl dL_law_968 ?_
  refine jj_toM ?_
  refine jj_aload_n C0 3 rfl dL_law_970 ?_
  refine jj_callVi C0 (cells' := cells) (slots' := slots) (cc_X4_close hEV  htd1 hsums hsd hCo hovs hexs hn htd hpr hup hdn hdv hK hSt hEx hAm hOv hHe6 hsh) (cwV 0 hw (lw_gV hU_1009 hU_1010 hU_1011 hU_66 hU_1012) rfl rfl rfl (by decide +kernel) ⟨Nat.le_of_ble_eq_true rfl, Nat.le_of_ble_eq_true rfl⟩) (ci := 5) (q0 := 0) rfl (rfl) rfl rfl (Nat.le_of_ble_eq_true rfl) ⟨by show cells + 0 ≤ 601024; omega, by show slots + 0 ≤ 7293034; omega⟩ rfl rfl dL_law_971 ?_
  intro u hu
  obtain ⟨ab_2, b_2⟩ := u
  show jj_W _ _ _ _ _ _ _ _ _ _ _ _ _ _ _ _ _ 974 _ [.int (iI ((td + 1 : Nat) : Int))] (wM ad cI cJ cZ 0 (td + 1) pr up dn dv n K St Ex Am ((f_cl K St Ex Co pr td n ((He, Ca, sd), Ov, BL, AL)).2.1) Bj Aj ((f_cl K St Ex Co pr td n ((He, Ca, sd), Ov, BL, AL)).2.2.1) ((f_cl K St Ex Co pr td n ((He, Ca, sd), Ov, BL, AL)).2.2.2) ((f_cl K St Ex Co pr td n ((He, Ca, sd), Ov, BL, AL)).1.1) Co ((f_cl K St Ex Co pr td n ((He, Ca, sd), Ov, BL, AL)).1.2.1) mo sh co ((f_cl K St Ex Co pr td n ((He, Ca, sd), Ov, BL, AL)).1.2.2) (va_up (va_up Cz 4 ((Cz 4) + ((f_W up dn dv td n K St Ex Am ((f_cl K St Ex Co pr td n ((He, Ca, sd), Ov, BL, AL)).1.1) ((f_cl K St Ex Co pr td n ((He, Ca, sd), Ov, BL, AL)).1.2.1) sh pr) - (f_W up dn dv td n K St Ex Am He Ca sh pr)))) 2 (((va_up Cz 4 ((Cz 4) + ((f_W up dn dv td n K St Ex Am ((f_cl K St Ex Co pr td n ((He, Ca, sd), Ov, BL, AL)).1.1) ((f_cl K St Ex Co pr td n ((He, Ca, sd), Ov, BL, AL)).1.2.1) sh pr) - (f_W up dn dv td n K St Ex Am He Ca sh pr)))) 2) + ((f_W up dn dv (td + 1) n K St Ex Am ((f_cl K St Ex Co pr td n ((He, Ca, sd), Ov, BL, AL)).1.1) ((f_cl K St Ex Co pr td n ((He, Ca, sd), Ov, BL, AL)).1.2.1) sh pr) - (f_W up dn dv td n K St Ex Am ((f_cl K St Ex Co pr td n ((He, Ca, sd), Ov, BL, AL)).1.1) ((f_cl K St Ex Co pr td n ((He, Ca, sd), Ov, BL, AL)).1.2.1) sh pr)))) ab_2 b_2 ++ (wH ha cA hA nA ed cI cJ cZ (td + 1) pr up dn dv r8_1 (((f_cl K St Ex Co pr td n ((He, Ca, sd), Ov, BL, AL)).1).2.2) mc n mo sh co (((f_cl K St Ex Co pr td n ((He, Ca, sd), Ov, BL, AL)).1).2.1) (va_up (va_up Cz 4 ((Cz 4) + ((f_W up dn dv td n K St Ex Am ((f_cl K St Ex Co pr td n ((He, Ca, sd), Ov, BL, AL)).1.1) ((f_cl K St Ex Co pr td n ((He, Ca, sd), Ov, BL, AL)).1.2.1) sh pr) - (f_W up dn dv td n K St Ex Am He Ca sh pr)))) 2 (((va_up Cz 4 ((Cz 4) + ((f_W up dn dv td n K St Ex Am ((f_cl K St Ex Co pr td n ((He, Ca, sd), Ov, BL, AL)).1.1) ((f_cl K St Ex Co pr td n ((He, Ca, sd), Ov, BL, AL)).1.2.1) sh pr) - (f_W up dn dv td n K St Ex Am He Ca sh pr)))) 2) + ((f_W up dn dv (td + 1) n K St Ex Am ((f_cl K St Ex Co pr td n ((He, Ca, sd), Ov, BL, AL)).1.1) ((f_cl K St Ex Co pr td n ((He, Ca, sd), Ov, BL, AL)).1.2.1) sh pr) - (f_W up dn dv td n K St Ex Am ((f_cl K St Ex Co pr td n ((He, Ca, sd), Ov, BL, AL)).1.1) ((f_cl K St Ex Co pr td n ((He, Ca, sd), Ov, BL, AL)).1.2.1) sh pr)))) K St Ex Am (f_gone Ex td n Bi) (f_gone Ex td n As) ((f_cl K St Ex Co pr td n ((He, Ca, sd), Ov, BL, AL)).2.2.1) ((f_cl K St Ex Co pr td n ((He, Ca, sd), Ov, BL, AL)).2.2.2) (((f_cl K St Ex Co pr td n ((He, Ca, sd), Ov, BL, AL)).1).1) Co ++ ((o, .inl (cJ, 1, .inr (.inl (lA (va_up F 0 ((td + 1 : Nat) : Int)))))) :: GG)))
  refine jj_istore C0 (lv' := [(6, .int (iI ((td + 1 : Nat) : Int))), (5, .int (iI 0)), (4, .int (iI (i : Int))), (3, .ref o), (2, .ref (ad 0)), (1, .ref (ha 0)), (0, .ref b)]) (by decide) rfl dL_law_974 ?_
  refine jj_aload_n C0 4 rfl dL_law_976 ?_
  refine jj_callVi C0 (cells' := cells) (slots' := slots) (cc_X4_thrown hEV  ) (cwV 0 hw (lw_gV hU_865 hU_866 hU_867 hU_66 hU_868) rfl rfl rfl (by decide +kernel) ⟨Nat.le_of_ble_eq_true rfl, Nat.le_of_ble_eq_true rfl⟩) (ci := 5) (q0 := 0) rfl (rfl) rfl rfl (Nat.le_of_ble_eq_true rfl) ⟨by show cells + 0 ≤ 601024; omega, by show slots + 0 ≤ 7293034; omega⟩ rfl rfl dL_law_977 ?_
  intro _ hu
  show jj_W _ _ _ _ _ _ _ _ _ _ _ _ _ _ _ _ _ 980 _ [.int (iI 0)] (wM ad cI cJ cZ 0 (td + 1) pr up dn dv n K St Ex Am ((f_cl K St Ex Co pr td n ((He, Ca, sd), Ov, BL, AL)).2.1) Bj Aj ((f_cl K St Ex Co pr td n ((He, Ca, sd), Ov, BL, AL)).2.2.1) ((f_cl K St Ex Co pr td n ((He, Ca, sd), Ov, BL, AL)).2.2.2) ((f_cl K St Ex Co pr td n ((He, Ca, sd), Ov, BL, AL)).1.1) Co ((f_cl K St Ex Co pr td n ((He, Ca, sd), Ov, BL, AL)).1.2.1) mo sh co ((f_cl K St Ex Co pr td n ((He, Ca, sd), Ov, BL, AL)).1.2.2) (va_up (va_up Cz 4 ((Cz 4) + ((f_W up dn dv td n K St Ex Am ((f_cl K St Ex Co pr td n ((He, Ca, sd), Ov, BL, AL)).1.1) ((f_cl K St Ex Co pr td n ((He, Ca, sd), Ov, BL, AL)).1.2.1) sh pr) - (f_W up dn dv td n K St Ex Am He Ca sh pr)))) 2 (((va_up Cz 4 ((Cz 4) + ((f_W up dn dv td n K St Ex Am ((f_cl K St Ex Co pr td n ((He, Ca, sd), Ov, BL, AL)).1.1) ((f_cl K St Ex Co pr td n ((He, Ca, sd), Ov, BL, AL)).1.2.1) sh pr) - (f_W up dn dv td n K St Ex Am He Ca sh pr)))) 2) + ((f_W up dn dv (td + 1) n K St Ex Am ((f_cl K St Ex Co pr td n ((He, Ca, sd), Ov, BL, AL)).1.1) ((f_cl K St Ex Co pr td n ((He, Ca, sd), Ov, BL, AL)).1.2.1) sh pr) - (f_W up dn dv td n K St Ex Am ((f_cl K St Ex Co pr td n ((He, Ca, sd), Ov, BL, AL)).1.1) ((f_cl K St Ex Co pr td n ((He, Ca, sd), Ov, BL, AL)).1.2.1) sh pr)))) ab_2 b_2 ++ (wH ha cA hA nA ed cI cJ cZ (td + 1) pr up dn dv r8_1 (((f_cl K St Ex Co pr td n ((He, Ca, sd), Ov, BL, AL)).1).2.2) mc n mo sh co (((f_cl K St Ex Co pr td n ((He, Ca, sd), Ov, BL, AL)).1).2.1) (va_up (va_up Cz 4 ((Cz 4) + ((f_W up dn dv td n K St Ex Am ((f_cl K St Ex Co pr td n ((He, Ca, sd), Ov, BL, AL)).1.1) ((f_cl K St Ex Co pr td n ((He, Ca, sd), Ov, BL, AL)).1.2.1) sh pr) - (f_W up dn dv td n K St Ex Am He Ca sh pr)))) 2 (((va_up Cz 4 ((Cz 4) + ((f_W up dn dv td n K St Ex Am ((f_cl K St Ex Co pr td n ((He, Ca, sd), Ov, BL, AL)).1.1) ((f_cl K St Ex Co pr td n ((He, Ca, sd), Ov, BL, AL)).1.2.1) sh pr) - (f_W up dn dv td n K St Ex Am He Ca sh pr)))) 2) + ((f_W up dn dv (td + 1) n K St Ex Am ((f_cl K St Ex Co pr td n ((He, Ca, sd), Ov, BL, AL)).1.1) ((f_cl K St Ex Co pr td n ((He, Ca, sd), Ov, BL, AL)).1.2.1) sh pr) - (f_W up dn dv td n K St Ex Am ((f_cl K St Ex Co pr td n ((He, Ca, sd), Ov, BL, AL)).1.1) ((f_cl K St Ex Co pr td n ((He, Ca, sd), Ov, BL, AL)).1.2.1) sh pr)))) K St Ex Am (f_gone Ex td n Bi) (f_gone Ex td n As) ((f_cl K St Ex Co pr td n ((He, Ca, sd), Ov, BL, AL)).2.2.1) ((f_cl K St Ex Co pr td n ((He, Ca, sd), Ov, BL, AL)).2.2.2) (((f_cl K St Ex Co pr td n ((He, Ca, sd), Ov, BL, AL)).1).1) Co ++ ((o, .inl (cJ, 1, .inr (.inl (lA (va_up F 0 ((td + 1 : Nat) : Int)))))) :: GG)))
  refine jj_iload C0 1 rfl dL_law_980 ?_
  refine jj_icmp_eq C0 (by omega) (by omega) dL_law_982 (tgt := 987) (by decide) (fun c_3 => ?_) (fun c_3 => absurd c_3 (by omega))
  refine jj_iload C0 1 rfl dL_law_987 ?_
  refine jj_if_ne C0 (by omega) dL_law_989 (tgt := 1004) (by decide) (fun c_4 => absurd c_4 (by omega)) (fun c_4 => ?_)
  refine jj_toH ?_
  refine jj_aload_n C0 3 rfl dL_law_992 ?_
  refine jj_iconst C0 dL_law_993 ?_
  refine jj_lald C0 (q0 := (8 + (3 * n + 0))) (t0 := 1) (f := (va_up F 0 ((td + 1 : Nat) : Int))) ((wH_ee (n := n) rfl)) rfl (k := 0) (by omega) (by omega) (by decide) dL_law_994 ?_
  refine jj_topl (b := ((td + 1 : Nat) : Int)) (va_up_self _ _ _) ?_
  refine jj_iload C0 0 rfl dL_law_995 ?_
  refine jj_i2l C0 (by omega) dL_law_997 ?_
  refine jj_lcmpS C0 dL_law_998 dL_law_999 (tgt := 1004) (by decide) ?_
  refine jj_goto C0 (tgt := 1530) dL_law_1004 (by decide) ?_
  refine jj_lv [2, 3, 4, 5, 6] rfl ?_
  exact kK cA hA nA ed r8_1 (va_up F 0 ((td + 1 : Nat) : Int)) mc GG 0 b_2 ab_2 (td + 1) pr up dn dv (((f_cl K St Ex Co pr td n ((He, Ca, sd), Ov, BL, AL)).1).2.2) n mo sh co (((f_cl K St Ex Co pr td n ((He, Ca, sd), Ov, BL, AL)).1).2.1) (va_up (va_up Cz 4 ((Cz 4) + ((f_W up dn dv td n K St Ex Am ((f_cl K St Ex Co pr td n ((He, Ca, sd), Ov, BL, AL)).1.1) ((f_cl K St Ex Co pr td n ((He, Ca, sd), Ov, BL, AL)).1.2.1) sh pr) - (f_W up dn dv td n K St Ex Am He Ca sh pr)))) 2 (((va_up Cz 4 ((Cz 4) + ((f_W up dn dv td n K St Ex Am ((f_cl K St Ex Co pr td n ((He, Ca, sd), Ov, BL, AL)).1.1) ((f_cl K St Ex Co pr td n ((He, Ca, sd), Ov, BL, AL)).1.2.1) sh pr) - (f_W up dn dv td n K St Ex Am He Ca sh pr)))) 2) + ((f_W up dn dv (td + 1) n K St Ex Am ((f_cl K St Ex Co pr td n ((He, Ca, sd), Ov, BL, AL)).1.1) ((f_cl K St Ex Co pr td n ((He, Ca, sd), Ov, BL, AL)).1.2.1) sh pr) - (f_W up dn dv td n K St Ex Am ((f_cl K St Ex Co pr td n ((He, Ca, sd), Ov, BL, AL)).1.1) ((f_cl K St Ex Co pr td n ((He, Ca, sd), Ov, BL, AL)).1.2.1) sh pr)))) K St Ex Am ((f_cl K St Ex Co pr td n ((He, Ca, sd), Ov, BL, AL)).2.1) (f_gone Ex td n Bi) (f_gone Ex td n As) Bj Aj ((f_cl K St Ex Co pr td n ((He, Ca, sd), Ov, BL, AL)).2.2.1) ((f_cl K St Ex Co pr td n ((He, Ca, sd), Ov, BL, AL)).2.2.2) (((f_cl K St Ex Co pr td n ((He, Ca, sd), Ov, BL, AL)).1).1) Co _ _ (f_IV_close hV (by omega) htd1) (hG) (by omega) (by omega)
set_option maxHeartbeats 4000000 in
set_option maxRecDepth 100000 in
theorem ll_close_r (hC9 : f_CC p l s m args meth c9 dC dI A cI cJ cZ cO es mi sa b L xs) (hi : i + 5 ≤ L) (hik : i = 5 * k) (hcs : cells + 8 ≤ 601024 ∧ slots + 80 ≤ 7293034) (hI : f_IV k td n pr up dn dv sd mo sh Ca K St Ex Am Ov Bi As Bj Aj BL AL He Co) (hG : f_LG cO es n ed cA GG) (kK : f_KK p l e s m args below meth c9 dC dI A Q ha ad cI cJ cZ cO o es b i k cells slots)   (hb : td = 200) : jj_W p l e room_1 s m args below meth c9 (dC, dI) vwCl A 8 cells slots Q 963 [(4, .int (iI (i : Int))), (3, .ref o), (2, .ref (ad 0)), (1, .ref (ha 0)), (0, .ref b)] [] (wH ha cA hA nA ed cI cJ cZ td pr up dn dv rw sd mc n mo sh co Ca Cz K St Ex Am Bi As BL AL He Co ++ ((o, .inl (cJ, 1, .inr (.inl (lA F)))) :: (GG ++ wM ad cI cJ cZ th td pr up dn dv n K St Ex Am Ov Bj Aj BL AL He Co Ca mo sh co sd Cz Ab be))) := by
  obtain ⟨C0, hl, hX, hbl, hbA, hL⟩ := hC9
  have hw := C0.2.2.2.2.1
  have hEV := hEVW es mi sa
  have hV := hI
  obtain ⟨⟨htd, hn, hpr, hup, hdn, hdv, hsd, hmo, hsh⟩, ⟨hK, hSt, hEx, hAm, hOv, hovs, hexs, hovn⟩, hQ9, ⟨hHe, hsums, hHz⟩, ⟨hCo, hCz⟩, hCa⟩ := hI
  have hQ := hQ9
  obtain ⟨hBi, hAs, hBj, hAj, hBL, hAL, hQt, hQ0, hQn, hQo⟩ := hQ9
  have hED0 : 0 < n → f_ED cA n ed cO (GG ++ wM ad cI cJ cZ th td pr up dn dv n K St Ex Am Ov Bj Aj BL AL He Co Ca mo sh co sd Cz Ab be) := f_LG_ED hG
  have hexs1 : ∀ c, c < n → Ex c ≤ (td : Int) + 10 := fun c hc => (hexs c hc).1
  have hk5 : k ≤ 511 := by omega
  have hHe9 : ∀ j, -999000 ≤ He j ∧ He j ≤ 999000 := fun j => by have := hHe j; omega
  have hHe6 : ∀ j, -1000000 ≤ He j ∧ He j ≤ 1000000 := fun j => by have := hHe j; omega
  have hCa9 : ∀ j, -100000000000000000 ≤ Ca j ∧ Ca j ≤ 100000000000000000 := fun j => by have := hCa j; omega
  refine jj_aload_n C0 3 rfl dL_law_963 ?_
  refine jj_aload_n C0 1 rfl dL_law_964 ?_
  refine jj_callSWi C0 (cells' := cells + 1) (slots' := slots + 6) (jj_weaki (fun A U H h => h.1) (cr_L_close hl  hb hED0)) (vx_cwSW 2 hw (lw_gW hU_691 hU_692 hU_59 hU_693) rfl rfl rfl (by decide +kernel) ⟨Nat.le_of_ble_eq_true rfl, Nat.le_of_ble_eq_true rfl⟩) rfl rfl (Nat.le_of_ble_eq_true rfl) ⟨by show cells + 1 ≤ 601024; omega, by show slots + 6 ≤ 7293034; omega⟩ rfl rfl dL_law_965 ?_
  intro _ hu
  show jj_W _ _ _ _ _ _ _ _ _ _ _ _ _ _ _ _ _ 968 _ [.int (iI 1)] (wH ha cA hA nA ed cI cJ cZ td pr up dn dv rw sd mc n mo sh co Ca Cz K St Ex Am Bi As BL AL He Co ++ ((o, .inl (cJ, 1, .inr (.inl (lA F)))) :: (GG ++ wM ad cI cJ cZ th td pr up dn dv n K St Ex Am Ov Bj Aj BL AL He Co Ca mo sh co sd Cz Ab be)))
  refine jj_istore C0 (lv' := [(5, .int (iI 1)), (4, .int (iI (i : Int))), (3, .ref o), (2, .ref (ad 0)), (1, .ref (ha 0)), (0, .ref b)]) (by decide) rfl dL_law_968 ?_
  refine jj_toM ?_
  refine jj_aload_n C0 3 rfl dL_law_970 ?_
  refine jj_callVi C0 (cells' := (cells + 1)) (slots' := (slots + 6)) (cb_X4_close hEV (kk := 1) (⟨hb, rfl⟩)) (cwV 0 hw (lw_gV hU_1009 hU_1010 hU_1011 hU_66 hU_1012) rfl rfl rfl (by decide +kernel) ⟨Nat.le_of_ble_eq_true rfl, Nat.le_of_ble_eq_true rfl⟩) (ci := 5) (q0 := 0) rfl (rfl) rfl rfl (Nat.le_of_ble_eq_true rfl) ⟨by show (cells + 1) + 0 ≤ 601024; omega, by show (slots + 6) + 0 ≤ 7293034; omega⟩ rfl rfl dL_law_971 ?_
  intro u_1 hu
  show jj_W _ _ _ _ _ _ _ _ _ _ _ _ _ _ _ _ _ 974 _ [.int (iI u_1)] (wM ad cI cJ cZ 1 td pr up dn dv n K St Ex Am Ov Bj Aj BL AL He Co Ca mo sh co sd Cz Ab be ++ (wH ha cA hA nA ed cI cJ cZ td pr up dn dv rw sd mc n mo sh co Ca Cz K St Ex Am Bi As BL AL He Co ++ ((o, .inl (cJ, 1, .inr (.inl (lA F)))) :: GG)))
  refine jj_istore C0 (lv' := [(6, .int (iI u_1)), (5, .int (iI 1)), (4, .int (iI (i : Int))), (3, .ref o), (2, .ref (ad 0)), (1, .ref (ha 0)), (0, .ref b)]) (by decide) rfl dL_law_974 ?_
  refine jj_aload_n C0 4 rfl dL_law_976 ?_
  refine jj_callVi C0 (cells' := (cells + 1)) (slots' := (slots + 6)) (cc_X4_thrown hEV  ) (cwV 0 hw (lw_gV hU_865 hU_866 hU_867 hU_66 hU_868) rfl rfl rfl (by decide +kernel) ⟨Nat.le_of_ble_eq_true rfl, Nat.le_of_ble_eq_true rfl⟩) (ci := 5) (q0 := 0) rfl (rfl) rfl rfl (Nat.le_of_ble_eq_true rfl) ⟨by show (cells + 1) + 0 ≤ 601024; omega, by show (slots + 6) + 0 ≤ 7293034; omega⟩ rfl rfl dL_law_977 ?_
  intro _ hu
  show jj_W _ _ _ _ _ _ _ _ _ _ _ _ _ _ _ _ _ 980 _ [.int (iI 1)] (wM ad cI cJ cZ 1 td pr up dn dv n K St Ex Am Ov Bj Aj BL AL He Co Ca mo sh co sd Cz Ab be ++ (wH ha cA hA nA ed cI cJ cZ td pr up dn dv rw sd mc n mo sh co Ca Cz K St Ex Am Bi As BL AL He Co ++ ((o, .inl (cJ, 1, .inr (.inl (lA F)))) :: GG)))
  refine jj_iload C0 1 rfl dL_law_980 ?_
  refine jj_icmp_eq C0 (by omega) (by omega) dL_law_982 (tgt := 987) (by decide) (fun c_2 => ?_) (fun c_2 => absurd c_2 (by omega))
  refine jj_iload C0 1 rfl dL_law_987 ?_
  refine jj_if_ne C0 (by omega) dL_law_989 (tgt := 1004) (by decide) (fun c_3 => ?_) (fun c_3 => absurd c_3 (by omega))
  refine jj_goto C0 (tgt := 1530) dL_law_1004 (by decide) ?_
  refine jj_toH ?_
  refine jj_lv [2, 3, 4, 5, 6] rfl ?_
  exact kK cA hA nA ed rw F mc GG 1 be Ab td pr up dn dv sd n mo sh co Ca Cz K St Ex Am Ov Bi As Bj Aj BL AL He Co _ _ (f_IV_k hV) (hG) (by omega) (by omega)
set_option maxHeartbeats 4000000 in
set_option maxRecDepth 100000 in
theorem ll_value (hC9 : f_CC p l s m args meth c9 dC dI A cI cJ cZ cO es mi sa b L xs) (hi : i + 5 ≤ L) (hik : i = 5 * k) (hcs : cells + 8 ≤ 601024 ∧ slots + 80 ≤ 7293034) (hI : f_IV k td n pr up dn dv sd mo sh Ca K St Ex Am Ov Bi As Bj Aj BL AL He Co) (hG : f_LG cO es n ed cA GG) (kK : f_KK p l e s m args below meth c9 dC dI A Q ha ad cI cJ cZ cO o es b i k cells slots) {c : Nat} {a2 vb : Int} (h1 : (xs (i + 1)).toInt = (c : Int)) (h2 : (xs (i + 2)).toInt = a2) (hr2 : iR a2) (hvb : (a2 ≠ 0 ∧ vb = 1) ∨ (a2 = 0 ∧ vb = 0)) (hcn : c < n) : jj_W p l e room_1 s m args below meth c9 (dC, dI) vwCl A 8 cells slots Q 1007 [(4, .int (iI (i : Int))), (3, .ref o), (2, .ref (ad 0)), (1, .ref (ha 0)), (0, .ref b)] [] (wH ha cA hA nA ed cI cJ cZ td pr up dn dv rw sd mc n mo sh co Ca Cz K St Ex Am Bi As BL AL He Co ++ ((o, .inl (cJ, 1, .inr (.inl (lA F)))) :: (GG ++ wM ad cI cJ cZ th td pr up dn dv n K St Ex Am Ov Bj Aj BL AL He Co Ca mo sh co sd Cz Ab be))) := by
  obtain ⟨C0, hl, hX, hbl, hbA, hL⟩ := hC9
  have hw := C0.2.2.2.2.1
  have hEV := hEVW es mi sa
  have hV := hI
  obtain ⟨⟨htd, hn, hpr, hup, hdn, hdv, hsd, hmo, hsh⟩, ⟨hK, hSt, hEx, hAm, hOv, hovs, hexs, hovn⟩, hQ9, ⟨hHe, hsums, hHz⟩, ⟨hCo, hCz⟩, hCa⟩ := hI
  have hQ := hQ9
  obtain ⟨hBi, hAs, hBj, hAj, hBL, hAL, hQt, hQ0, hQn, hQo⟩ := hQ9
  have hED0 : 0 < n → f_ED cA n ed cO (GG ++ wM ad cI cJ cZ th td pr up dn dv n K St Ex Am Ov Bj Aj BL AL He Co Ca mo sh co sd Cz Ab be) := f_LG_ED hG
  have hexs1 : ∀ c, c < n → Ex c ≤ (td : Int) + 10 := fun c hc => (hexs c hc).1
  have hk5 : k ≤ 511 := by omega
  have hHe9 : ∀ j, -999000 ≤ He j ∧ He j ≤ 999000 := fun j => by have := hHe j; omega
  have hHe6 : ∀ j, -1000000 ≤ He j ∧ He j ≤ 1000000 := fun j => by have := hHe j; omega
  have hCa9 : ∀ j, -100000000000000000 ≤ Ca j ∧ Ca j ≤ 100000000000000000 := fun j => by have := hCa j; omega
  refine jj_aload_n C0 3 rfl dL_law_1007 ?_
  refine jj_aload_n C0 4 rfl dL_law_1008 ?_
  refine jj_iload C0 0 rfl dL_law_1009 ?_
  refine jj_iconst C0 dL_law_1011 ?_
  refine jj_iadd C0 dL_law_1012 ?_
  refine jj_sald C0 hX hbl hbA hL (k := (i + 1)) (by omega) (by omega) dL_law_1013 ?_
  refine jj_topi (b := (c : Int)) h1 ?_
  refine jj_aload_n C0 4 rfl dL_law_1014 ?_
  refine jj_iload C0 0 rfl dL_law_1015 ?_
  refine jj_iconst C0 dL_law_1017 ?_
  refine jj_iadd C0 dL_law_1018 ?_
  refine jj_sald C0 hX hbl hbA hL (k := (i + 2)) (by omega) (by omega) dL_law_1019 ?_
  refine jj_topi (b := a2) h2 ?_
  refine jj_bool C0 (by omega) hvb dL_law_1020 dL_law_1023 dL_law_1024 dL_law_1027 ?_
  refine jj_aload_n C0 1 rfl dL_law_1028 ?_
  refine jj_callSWi C0 (cells' := cells) (slots' := slots) (jj_weaki (fun A U H h => h.1) (cw_L_value hl (c := c) (v := vb) (by omega) hcn hpr hexs1 hn htd hup hdn hdv hK hSt hEx hAm hED0)) (vx_cwSW 4 hw (lw_gW hU_711 hU_712 hU_59 hU_713) rfl rfl rfl (by decide +kernel) ⟨Nat.le_of_ble_eq_true rfl, Nat.le_of_ble_eq_true rfl⟩) rfl rfl (Nat.le_of_ble_eq_true rfl) ⟨by show cells + 0 ≤ 601024; omega, by show slots + 0 ≤ 7293034; omega⟩ rfl rfl dL_law_1029 ?_
  intro r8_1 hu
  show jj_W _ _ _ _ _ _ _ _ _ _ _ _ _ _ _ _ _ 1032 _ [.int (iI 0)] (wH ha cA hA nA ed cI cJ cZ td pr up dn dv r8_1 sd mc n mo sh co Ca Cz K St Ex Am Bi As BL AL He Co ++ ((o, .inl (cJ, 1, .inr (.inl (lA (va_up F 0 (if vb = 0 then (f_num up dn dv td (K c) (St c) (Ex c) (Am c) pr) / f_g (f_den up dn td (Ex c)) (f_num up dn dv td (K c) (St c) (Ex c) (Am c) pr) else (f_den up dn td (Ex c)) / f_g (f_den up dn td (Ex c)) (f_num up dn dv td (K c) (St c) (Ex c) (Am c) pr))))))) :: (GG ++ wM ad cI cJ cZ th td pr up dn dv n K St Ex Am Ov Bj Aj BL AL He Co Ca mo sh co sd Cz Ab be)))
  refine jj_istore C0 (lv' := [(5, .int (iI 0)), (4, .int (iI (i : Int))), (3, .ref o), (2, .ref (ad 0)), (1, .ref (ha 0)), (0, .ref b)]) (by decide) rfl dL_law_1032 ?_
  refine jj_toM ?_
  refine jj_aload_n C0 3 rfl dL_law_1034 ?_
  refine jj_aload_n C0 5 rfl dL_law_1035 ?_
  refine jj_iload C0 1 rfl dL_law_1036 ?_
  refine jj_iconst C0 dL_law_1038 ?_
  refine jj_iadd C0 dL_law_1039 ?_
  refine jj_sald C0 hX hbl hbA hL (k := (i + 1)) (by omega) (by omega) dL_law_1040 ?_
  refine jj_topi (b := (c : Int)) h1 ?_
  refine jj_aload_n C0 5 rfl dL_law_1041 ?_
  refine jj_iload C0 1 rfl dL_law_1042 ?_
  refine jj_iconst C0 dL_law_1044 ?_
  refine jj_iadd C0 dL_law_1045 ?_
  refine jj_sald C0 hX hbl hbA hL (k := (i + 2)) (by omega) (by omega) dL_law_1046 ?_
  refine jj_topi (b := a2) h2 ?_
  refine jj_bool C0 (by omega) hvb dL_law_1047 dL_law_1050 dL_law_1051 dL_law_1054 ?_
  refine jj_callVl C0 (cells' := cells) (slots' := slots) (cc_X4_value hEV (c := c) (v := vb) (by omega) hcn hovs hexs hn htd hpr hup hdn hdv hK hSt hEx hAm hOv) (cwV 2 hw (lw_gV hU_1017 hU_1018 hU_1019 hU_66 hU_1020) rfl rfl rfl (by decide +kernel) ⟨Nat.le_of_ble_eq_true rfl, Nat.le_of_ble_eq_true rfl⟩) (ci := 5) (q0 := 0) rfl (rfl) rfl rfl (Nat.le_of_ble_eq_true rfl) ⟨by show cells + 0 ≤ 601024; omega, by show slots + 0 ≤ 7293034; omega⟩ rfl rfl dL_law_1055 ?_
  intro u hu
  obtain ⟨ab_2, b_2⟩ := u
  show jj_W _ _ _ _ _ _ _ _ _ _ _ _ _ _ _ _ _ 1058 _ [.long (lI (if vb = 0 then (f_num up dn dv td (K c) (St c) (Ex c) (Am c) pr) / f_g (f_den up dn td (Ex c)) (f_num up dn dv td (K c) (St c) (Ex c) (Am c) pr) else (f_den up dn td (Ex c)) / f_g (f_den up dn td (Ex c)) (f_num up dn dv td (K c) (St c) (Ex c) (Am c) pr)))] (wM ad cI cJ cZ 0 td pr up dn dv n K St Ex Am Ov Bj Aj BL AL He Co Ca mo sh co sd Cz ab_2 b_2 ++ (wH ha cA hA nA ed cI cJ cZ td pr up dn dv r8_1 sd mc n mo sh co Ca Cz K St Ex Am Bi As BL AL He Co ++ ((o, .inl (cJ, 1, .inr (.inl (lA (va_up F 0 (if vb = 0 then (f_num up dn dv td (K c) (St c) (Ex c) (Am c) pr) / f_g (f_den up dn td (Ex c)) (f_num up dn dv td (K c) (St c) (Ex c) (Am c) pr) else (f_den up dn td (Ex c)) / f_g (f_den up dn td (Ex c)) (f_num up dn dv td (K c) (St c) (Ex c) (Am c) pr))))))) :: GG)))
  refine jj_lstore C0 (lv' := [(6, .long (lI (if vb = 0 then (f_num up dn dv td (K c) (St c) (Ex c) (Am c) pr) / f_g (f_den up dn td (Ex c)) (f_num up dn dv td (K c) (St c) (Ex c) (Am c) pr) else (f_den up dn td (Ex c)) / f_g (f_den up dn td (Ex c)) (f_num up dn dv td (K c) (St c) (Ex c) (Am c) pr)))), (5, .int (iI 0)), (4, .int (iI (i : Int))), (3, .ref o), (2, .ref (ad 0)), (1, .ref (ha 0)), (0, .ref b)]) (by decide) rfl dL_law_1058 ?_
  refine jj_aload_n C0 4 rfl dL_law_1060 ?_
  refine jj_callVi C0 (cells' := cells) (slots' := slots) (cc_X4_thrown hEV  ) (cwV 0 hw (lw_gV hU_865 hU_866 hU_867 hU_66 hU_868) rfl rfl rfl (by decide +kernel) ⟨Nat.le_of_ble_eq_true rfl, Nat.le_of_ble_eq_true rfl⟩) (ci := 5) (q0 := 0) rfl (rfl) rfl rfl (Nat.le_of_ble_eq_true rfl) ⟨by show cells + 0 ≤ 601024; omega, by show slots + 0 ≤ 7293034; omega⟩ rfl rfl dL_law_1061 ?_
  intro _ hu
  show jj_W _ _ _ _ _ _ _ _ _ _ _ _ _ _ _ _ _ 1064 _ [.int (iI 0)] (wM ad cI cJ cZ 0 td pr up dn dv n K St Ex Am Ov Bj Aj BL AL He Co Ca mo sh co sd Cz ab_2 b_2 ++ (wH ha cA hA nA ed cI cJ cZ td pr up dn dv r8_1 sd mc n mo sh co Ca Cz K St Ex Am Bi As BL AL He Co ++ ((o, .inl (cJ, 1, .inr (.inl (lA (va_up F 0 (if vb = 0 then (f_num up dn dv td (K c) (St c) (Ex c) (Am c) pr) / f_g (f_den up dn td (Ex c)) (f_num up dn dv td (K c) (St c) (Ex c) (Am c) pr) else (f_den up dn td (Ex c)) / f_g (f_den up dn td (Ex c)) (f_num up dn dv td (K c) (St c) (Ex c) (Am c) pr))))))) :: GG)))
  refine jj_iload C0 1 rfl dL_law_1064 ?_
  refine jj_icmp_eq C0 (by omega) (by omega) dL_law_1066 (tgt := 1071) (by decide) (fun c_3 => ?_) (fun c_3 => absurd c_3 (by omega))
  refine jj_iload C0 1 rfl dL_law_1071 ?_
  refine jj_if_ne C0 (by omega) dL_law_1073 (tgt := 1087) (by decide) (fun c_4 => absurd c_4 (by omega)) (fun c_4 => ?_)
  refine jj_toH ?_
  refine jj_aload_n C0 3 rfl dL_law_1076 ?_
  refine jj_iconst C0 dL_law_1077 ?_
  refine jj_lald C0 (q0 := (8 + (3 * n + 0))) (t0 := 1) (f := (va_up F 0 (if vb = 0 then (f_num up dn dv td (K c) (St c) (Ex c) (Am c) pr) / f_g (f_den up dn td (Ex c)) (f_num up dn dv td (K c) (St c) (Ex c) (Am c) pr) else (f_den up dn td (Ex c)) / f_g (f_den up dn td (Ex c)) (f_num up dn dv td (K c) (St c) (Ex c) (Am c) pr)))) ((wH_ee (n := n) rfl)) rfl (k := 0) (by omega) (by omega) (by decide) dL_law_1078 ?_
  refine jj_topl (b := (if vb = 0 then (f_num up dn dv td (K c) (St c) (Ex c) (Am c) pr) / f_g (f_den up dn td (Ex c)) (f_num up dn dv td (K c) (St c) (Ex c) (Am c) pr) else (f_den up dn td (Ex c)) / f_g (f_den up dn td (Ex c)) (f_num up dn dv td (K c) (St c) (Ex c) (Am c) pr))) (va_up_self _ _ _) ?_
  refine jj_lload C0 0 rfl dL_law_1079 ?_
  refine jj_lcmpS C0 dL_law_1081 dL_law_1082 (tgt := 1087) (by decide) ?_
  refine jj_goto C0 (tgt := 1530) dL_law_1087 (by decide) ?_
  refine jj_lv [2, 3, 4, 5, 6] rfl ?_
  exact kK cA hA nA ed r8_1 (va_up F 0 (if vb = 0 then (f_num up dn dv td (K c) (St c) (Ex c) (Am c) pr) / f_g (f_den up dn td (Ex c)) (f_num up dn dv td (K c) (St c) (Ex c) (Am c) pr) else (f_den up dn td (Ex c)) / f_g (f_den up dn td (Ex c)) (f_num up dn dv td (K c) (St c) (Ex c) (Am c) pr))) mc GG 0 b_2 ab_2 td pr up dn dv sd n mo sh co Ca Cz K St Ex Am Ov Bi As Bj Aj BL AL He Co _ _ (f_IV_k hV) (hG) (by omega) (by omega)
set_option maxHeartbeats 4000000 in
set_option maxRecDepth 100000 in
theorem ll_value_r (hC9 : f_CC p l s m args meth c9 dC dI A cI cJ cZ cO es mi sa b L xs) (hi : i + 5 ≤ L) (hik : i = 5 * k) (hcs : cells + 8 ≤ 601024 ∧ slots + 80 ≤ 7293034) (hI : f_IV k td n pr up dn dv sd mo sh Ca K St Ex Am Ov Bi As Bj Aj BL AL He Co) (hG : f_LG cO es n ed cA GG) (kK : f_KK p l e s m args below meth c9 dC dI A Q ha ad cI cJ cZ cO o es b i k cells slots) {a1 a2 vb : Int} (h1 : (xs (i + 1)).toInt = a1) (h2 : (xs (i + 2)).toInt = a2) (hr1 : iR a1) (hr2 : iR a2) (hvb : (a2 ≠ 0 ∧ vb = 1) ∨ (a2 = 0 ∧ vb = 0)) (hb : ¬ (0 ≤ a1 ∧ a1 < (n : Int))) : jj_W p l e room_1 s m args below meth c9 (dC, dI) vwCl A 8 cells slots Q 1007 [(4, .int (iI (i : Int))), (3, .ref o), (2, .ref (ad 0)), (1, .ref (ha 0)), (0, .ref b)] [] (wH ha cA hA nA ed cI cJ cZ td pr up dn dv rw sd mc n mo sh co Ca Cz K St Ex Am Bi As BL AL He Co ++ ((o, .inl (cJ, 1, .inr (.inl (lA F)))) :: (GG ++ wM ad cI cJ cZ th td pr up dn dv n K St Ex Am Ov Bj Aj BL AL He Co Ca mo sh co sd Cz Ab be))) := by
  obtain ⟨C0, hl, hX, hbl, hbA, hL⟩ := hC9
  have hw := C0.2.2.2.2.1
  have hEV := hEVW es mi sa
  have hV := hI
  obtain ⟨⟨htd, hn, hpr, hup, hdn, hdv, hsd, hmo, hsh⟩, ⟨hK, hSt, hEx, hAm, hOv, hovs, hexs, hovn⟩, hQ9, ⟨hHe, hsums, hHz⟩, ⟨hCo, hCz⟩, hCa⟩ := hI
  have hQ := hQ9
  obtain ⟨hBi, hAs, hBj, hAj, hBL, hAL, hQt, hQ0, hQn, hQo⟩ := hQ9
  have hED0 : 0 < n → f_ED cA n ed cO (GG ++ wM ad cI cJ cZ th td pr up dn dv n K St Ex Am Ov Bj Aj BL AL He Co Ca mo sh co sd Cz Ab be) := f_LG_ED hG
  have hexs1 : ∀ c, c < n → Ex c ≤ (td : Int) + 10 := fun c hc => (hexs c hc).1
  have hk5 : k ≤ 511 := by omega
  have hHe9 : ∀ j, -999000 ≤ He j ∧ He j ≤ 999000 := fun j => by have := hHe j; omega
  have hHe6 : ∀ j, -1000000 ≤ He j ∧ He j ≤ 1000000 := fun j => by have := hHe j; omega
  have hCa9 : ∀ j, -100000000000000000 ≤ Ca j ∧ Ca j ≤ 100000000000000000 := fun j => by have := hCa j; omega
  refine jj_aload_n C0 3 rfl dL_law_1007 ?_
  refine jj_aload_n C0 4 rfl dL_law_1008 ?_
  refine jj_iload C0 0 rfl dL_law_1009 ?_
  refine jj_iconst C0 dL_law_1011 ?_
  refine jj_iadd C0 dL_law_1012 ?_
  refine jj_sald C0 hX hbl hbA hL (k := (i + 1)) (by omega) (by omega) dL_law_1013 ?_
  refine jj_topi (b := a1) h1 ?_
  refine jj_aload_n C0 4 rfl dL_law_1014 ?_
  refine jj_iload C0 0 rfl dL_law_1015 ?_
  refine jj_iconst C0 dL_law_1017 ?_
  refine jj_iadd C0 dL_law_1018 ?_
  refine jj_sald C0 hX hbl hbA hL (k := (i + 2)) (by omega) (by omega) dL_law_1019 ?_
  refine jj_topi (b := a2) h2 ?_
  refine jj_bool C0 (by omega) hvb dL_law_1020 dL_law_1023 dL_law_1024 dL_law_1027 ?_
  refine jj_aload_n C0 1 rfl dL_law_1028 ?_
  refine jj_callSWi C0 (cells' := cells + 1) (slots' := slots + 6) (jj_weaki (fun A U H h => h.1) (cr_L_value hl (z := a1) (v := vb) hb hr1 hn hED0)) (vx_cwSW 4 hw (lw_gW hU_711 hU_712 hU_59 hU_713) rfl rfl rfl (by decide +kernel) ⟨Nat.le_of_ble_eq_true rfl, Nat.le_of_ble_eq_true rfl⟩) rfl rfl (Nat.le_of_ble_eq_true rfl) ⟨by show cells + 1 ≤ 601024; omega, by show slots + 6 ≤ 7293034; omega⟩ rfl rfl dL_law_1029 ?_
  intro _ hu
  show jj_W _ _ _ _ _ _ _ _ _ _ _ _ _ _ _ _ _ 1032 _ [.int (iI 1)] (wH ha cA hA nA ed cI cJ cZ td pr up dn dv rw sd mc n mo sh co Ca Cz K St Ex Am Bi As BL AL He Co ++ ((o, .inl (cJ, 1, .inr (.inl (lA F)))) :: (GG ++ wM ad cI cJ cZ th td pr up dn dv n K St Ex Am Ov Bj Aj BL AL He Co Ca mo sh co sd Cz Ab be)))
  refine jj_istore C0 (lv' := [(5, .int (iI 1)), (4, .int (iI (i : Int))), (3, .ref o), (2, .ref (ad 0)), (1, .ref (ha 0)), (0, .ref b)]) (by decide) rfl dL_law_1032 ?_
  refine jj_toM ?_
  refine jj_aload_n C0 3 rfl dL_law_1034 ?_
  refine jj_aload_n C0 5 rfl dL_law_1035 ?_
  refine jj_iload C0 1 rfl dL_law_1036 ?_
  refine jj_iconst C0 dL_law_1038 ?_
  refine jj_iadd C0 dL_law_1039 ?_
  refine jj_sald C0 hX hbl hbA hL (k := (i + 1)) (by omega) (by omega) dL_law_1040 ?_
  refine jj_topi (b := a1) h1 ?_
  refine jj_aload_n C0 5 rfl dL_law_1041 ?_
  refine jj_iload C0 1 rfl dL_law_1042 ?_
  refine jj_iconst C0 dL_law_1044 ?_
  refine jj_iadd C0 dL_law_1045 ?_
  refine jj_sald C0 hX hbl hbA hL (k := (i + 2)) (by omega) (by omega) dL_law_1046 ?_
  refine jj_topi (b := a2) h2 ?_
  refine jj_bool C0 (by omega) hvb dL_law_1047 dL_law_1050 dL_law_1051 dL_law_1054 ?_
  refine jj_callVl C0 (cells' := (cells + 1)) (slots' := (slots + 6)) (cb_X4_value hEV (z := a1) (v := vb) (kk := 1) hr1 hn (⟨hb, rfl⟩)) (cwV 2 hw (lw_gV hU_1017 hU_1018 hU_1019 hU_66 hU_1020) rfl rfl rfl (by decide +kernel) ⟨Nat.le_of_ble_eq_true rfl, Nat.le_of_ble_eq_true rfl⟩) (ci := 5) (q0 := 0) rfl (rfl) rfl rfl (Nat.le_of_ble_eq_true rfl) ⟨by show (cells + 1) + 0 ≤ 601024; omega, by show (slots + 6) + 0 ≤ 7293034; omega⟩ rfl rfl dL_law_1055 ?_
  intro u_1 hu
  show jj_W _ _ _ _ _ _ _ _ _ _ _ _ _ _ _ _ _ 1058 _ [.long (lI u_1)] (wM ad cI cJ cZ 1 td pr up dn dv n K St Ex Am Ov Bj Aj BL AL He Co Ca mo sh co sd Cz Ab be ++ (wH ha cA hA nA ed cI cJ cZ td pr up dn dv rw sd mc n mo sh co Ca Cz K St Ex Am Bi As BL AL He Co ++ ((o, .inl (cJ, 1, .inr (.inl (lA F)))) :: GG)))
  refine jj_lstore C0 (lv' := [(6, .long (lI u_1)), (5, .int (iI 1)), (4, .int (iI (i : Int))), (3, .ref o), (2, .ref (ad 0)), (1, .ref (ha 0)), (0, .ref b)]) (by decide) rfl dL_law_1058 ?_
  refine jj_aload_n C0 4 rfl dL_law_1060 ?_
  refine jj_callVi C0 (cells' := (cells + 1)) (slots' := (slots + 6)) (cc_X4_thrown hEV  ) (cwV 0 hw (lw_gV hU_865 hU_866 hU_867 hU_66 hU_868) rfl rfl rfl (by decide +kernel) ⟨Nat.le_of_ble_eq_true rfl, Nat.le_of_ble_eq_true rfl⟩) (ci := 5) (q0 := 0) rfl (rfl) rfl rfl (Nat.le_of_ble_eq_true rfl) ⟨by show (cells + 1) + 0 ≤ 601024; omega, by show (slots + 6) + 0 ≤ 7293034; omega⟩ rfl rfl dL_law_1061 ?_
  intro _ hu
  show jj_W _ _ _ _ _ _ _ _ _ _ _ _ _ _ _ _ _ 1064 _ [.int (iI 1)] (wM ad cI cJ cZ 1 td pr up dn dv n K St Ex Am Ov Bj Aj BL AL He Co Ca mo sh co sd Cz Ab be ++ (wH ha cA hA nA ed cI cJ cZ td pr up dn dv rw sd mc n mo sh co Ca Cz K St Ex Am Bi As BL AL He Co ++ ((o, .inl (cJ, 1, .inr (.inl (lA F)))) :: GG)))
  refine jj_iload C0 1 rfl dL_law_1064 ?_
  refine jj_icmp_eq C0 (by omega) (by omega) dL_law_1066 (tgt := 1071) (by decide) (fun c_2 => ?_) (fun c_2 => absurd c_2 (by omega))
  refine jj_iload C0 1 rfl dL_law_1071 ?_
  refine jj_if_ne C0 (by omega) dL_law_1073 (tgt := 1087) (by decide) (fun c_3 => ?_) (fun c_3 => absurd c_3 (by omega))
  refine jj_goto C0 (tgt := 1530) dL_law_1087 (by decide) ?_
  refine jj_toH ?_
  refine jj_lv [2, 3, 4, 5, 6] rfl ?_
  exact kK cA hA nA ed rw F mc GG 1 be Ab td pr up dn dv sd n mo sh co Ca Cz K St Ex Am Ov Bi As Bj Aj BL AL He Co _ _ (f_IV_k hV) (hG) (by omega) (by omega)
set_option maxHeartbeats 4000000 in
set_option maxRecDepth 100000 in
theorem ll_mark (hC9 : f_CC p l s m args meth c9 dC dI A cI cJ cZ cO es mi sa b L xs) (hi : i + 5 ≤ L) (hik : i = 5 * k) (hcs : cells + 8 ≤ 601024 ∧ slots + 80 ≤ 7293034) (hI : f_IV k td n pr up dn dv sd mo sh Ca K St Ex Am Ov Bi As Bj Aj BL AL He Co) (hG : f_LG cO es n ed cA GG) (kK : f_KK p l e s m args below meth c9 dC dI A Q ha ad cI cJ cZ cO o es b i k cells slots) {c : Nat} (h1 : (xs (i + 1)).toInt = (c : Int)) (hcn : c < n) : jj_W p l e room_1 s m args below meth c9 (dC, dI) vwCl A 8 cells slots Q 1090 [(4, .int (iI (i : Int))), (3, .ref o), (2, .ref (ad 0)), (1, .ref (ha 0)), (0, .ref b)] [] (wH ha cA hA nA ed cI cJ cZ td pr up dn dv rw sd mc n mo sh co Ca Cz K St Ex Am Bi As BL AL He Co ++ ((o, .inl (cJ, 1, .inr (.inl (lA F)))) :: (GG ++ wM ad cI cJ cZ th td pr up dn dv n K St Ex Am Ov Bj Aj BL AL He Co Ca mo sh co sd Cz Ab be))) := by
  obtain ⟨C0, hl, hX, hbl, hbA, hL⟩ := hC9
  have hw := C0.2.2.2.2.1
  have hEV := hEVW es mi sa
  have hV := hI
  obtain ⟨⟨htd, hn, hpr, hup, hdn, hdv, hsd, hmo, hsh⟩, ⟨hK, hSt, hEx, hAm, hOv, hovs, hexs, hovn⟩, hQ9, ⟨hHe, hsums, hHz⟩, ⟨hCo, hCz⟩, hCa⟩ := hI
  have hQ := hQ9
  obtain ⟨hBi, hAs, hBj, hAj, hBL, hAL, hQt, hQ0, hQn, hQo⟩ := hQ9
  have hED0 : 0 < n → f_ED cA n ed cO (GG ++ wM ad cI cJ cZ th td pr up dn dv n K St Ex Am Ov Bj Aj BL AL He Co Ca mo sh co sd Cz Ab be) := f_LG_ED hG
  have hexs1 : ∀ c, c < n → Ex c ≤ (td : Int) + 10 := fun c hc => (hexs c hc).1
  have hk5 : k ≤ 511 := by omega
  have hHe9 : ∀ j, -999000 ≤ He j ∧ He j ≤ 999000 := fun j => by have := hHe j; omega
  have hHe6 : ∀ j, -1000000 ≤ He j ∧ He j ≤ 1000000 := fun j => by have := hHe j; omega
  have hCa9 : ∀ j, -100000000000000000 ≤ Ca j ∧ Ca j ≤ 100000000000000000 := fun j => by have := hCa j; omega
  have hm9 := f_mark_bd hup hdn hdv (hSt c) (fr := pr) (by omega) (hexs1 c hcn) (ki := K c) (am := Am c)
  refine jj_aload_n C0 3 rfl dL_law_1090 ?_
  refine jj_aload_n C0 4 rfl dL_law_1091 ?_
  refine jj_iload C0 0 rfl dL_law_1092 ?_
  refine jj_iconst C0 dL_law_1094 ?_
  refine jj_iadd C0 dL_law_1095 ?_
  refine jj_sald C0 hX hbl hbA hL (k := (i + 1)) (by omega) (by omega) dL_law_1096 ?_
  refine jj_topi (b := (c : Int)) h1 ?_
  refine jj_aload_n C0 1 rfl dL_law_1097 ?_
  refine jj_callSWi C0 (cells' := cells) (slots' := slots) (jj_weaki (fun A U H h => h.1) (cw_L_mark hl (c := c) hcn hpr hexs1 hn htd hup hdn hdv hK hSt hEx hAm hED0 (by omega))) (vx_cwSW 3 hw (lw_gW hU_723 hU_724 hU_59 hU_725) rfl rfl rfl (by decide +kernel) ⟨Nat.le_of_ble_eq_true rfl, Nat.le_of_ble_eq_true rfl⟩) rfl rfl (Nat.le_of_ble_eq_true rfl) ⟨by show cells + 0 ≤ 601024; omega, by show slots + 0 ≤ 7293034; omega⟩ rfl rfl dL_law_1098 ?_
  intro r8_1 hu
  show jj_W _ _ _ _ _ _ _ _ _ _ _ _ _ _ _ _ _ 1101 _ [.int (iI 0)] (wH ha cA hA nA ed cI cJ cZ td pr up dn dv r8_1 sd mc n mo sh co Ca Cz K St Ex Am Bi As BL AL He Co ++ ((o, .inl (cJ, 1, .inr (.inl (lA (va_up F 0 (f_mark up dn dv td (K c) (St c) (Ex c) (Am c) pr)))))) :: (GG ++ wM ad cI cJ cZ th td pr up dn dv n K St Ex Am Ov Bj Aj BL AL He Co Ca mo sh co sd Cz Ab be)))
  refine jj_istore C0 (lv' := [(5, .int (iI 0)), (4, .int (iI (i : Int))), (3, .ref o), (2, .ref (ad 0)), (1, .ref (ha 0)), (0, .ref b)]) (by decide) rfl dL_law_1101 ?_
  refine jj_toM ?_
  refine jj_aload_n C0 3 rfl dL_law_1103 ?_
  refine jj_aload_n C0 5 rfl dL_law_1104 ?_
  refine jj_iload C0 1 rfl dL_law_1105 ?_
  refine jj_iconst C0 dL_law_1107 ?_
  refine jj_iadd C0 dL_law_1108 ?_
  refine jj_sald C0 hX hbl hbA hL (k := (i + 1)) (by omega) (by omega) dL_law_1109 ?_
  refine jj_topi (b := (c : Int)) h1 ?_
  refine jj_callVi C0 (cells' := cells) (slots' := slots) (cc_X4_mark hEV (c := c) hcn hovs hexs hn htd hpr hup hdn hdv hK hSt hEx hAm hOv) (cwV 1 hw (lw_gV hU_1024 hU_1025 hU_1026 hU_66 hU_1027) rfl rfl rfl (by decide +kernel) ⟨Nat.le_of_ble_eq_true rfl, Nat.le_of_ble_eq_true rfl⟩) (ci := 5) (q0 := 0) rfl (rfl) rfl rfl (Nat.le_of_ble_eq_true rfl) ⟨by show cells + 0 ≤ 601024; omega, by show slots + 0 ≤ 7293034; omega⟩ rfl rfl dL_law_1110 ?_
  intro u hu
  obtain ⟨ab_2, b_2⟩ := u
  show jj_W _ _ _ _ _ _ _ _ _ _ _ _ _ _ _ _ _ 1113 _ [.int (iI (f_mark up dn dv td (K c) (St c) (Ex c) (Am c) pr))] (wM ad cI cJ cZ 0 td pr up dn dv n K St Ex Am Ov Bj Aj BL AL He Co Ca mo sh co sd Cz ab_2 b_2 ++ (wH ha cA hA nA ed cI cJ cZ td pr up dn dv r8_1 sd mc n mo sh co Ca Cz K St Ex Am Bi As BL AL He Co ++ ((o, .inl (cJ, 1, .inr (.inl (lA (va_up F 0 (f_mark up dn dv td (K c) (St c) (Ex c) (Am c) pr)))))) :: GG)))
  refine jj_istore C0 (lv' := [(6, .int (iI (f_mark up dn dv td (K c) (St c) (Ex c) (Am c) pr))), (5, .int (iI 0)), (4, .int (iI (i : Int))), (3, .ref o), (2, .ref (ad 0)), (1, .ref (ha 0)), (0, .ref b)]) (by decide) rfl dL_law_1113 ?_
  refine jj_aload_n C0 4 rfl dL_law_1115 ?_
  refine jj_callVi C0 (cells' := cells) (slots' := slots) (cc_X4_thrown hEV  ) (cwV 0 hw (lw_gV hU_865 hU_866 hU_867 hU_66 hU_868) rfl rfl rfl (by decide +kernel) ⟨Nat.le_of_ble_eq_true rfl, Nat.le_of_ble_eq_true rfl⟩) (ci := 5) (q0 := 0) rfl (rfl) rfl rfl (Nat.le_of_ble_eq_true rfl) ⟨by show cells + 0 ≤ 601024; omega, by show slots + 0 ≤ 7293034; omega⟩ rfl rfl dL_law_1116 ?_
  intro _ hu
  show jj_W _ _ _ _ _ _ _ _ _ _ _ _ _ _ _ _ _ 1119 _ [.int (iI 0)] (wM ad cI cJ cZ 0 td pr up dn dv n K St Ex Am Ov Bj Aj BL AL He Co Ca mo sh co sd Cz ab_2 b_2 ++ (wH ha cA hA nA ed cI cJ cZ td pr up dn dv r8_1 sd mc n mo sh co Ca Cz K St Ex Am Bi As BL AL He Co ++ ((o, .inl (cJ, 1, .inr (.inl (lA (va_up F 0 (f_mark up dn dv td (K c) (St c) (Ex c) (Am c) pr)))))) :: GG)))
  refine jj_iload C0 1 rfl dL_law_1119 ?_
  refine jj_icmp_eq C0 (by omega) (by omega) dL_law_1121 (tgt := 1126) (by decide) (fun c_3 => ?_) (fun c_3 => absurd c_3 (by omega))
  refine jj_iload C0 1 rfl dL_law_1126 ?_
  refine jj_if_ne C0 (by omega) dL_law_1128 (tgt := 1143) (by decide) (fun c_4 => absurd c_4 (by omega)) (fun c_4 => ?_)
  refine jj_toH ?_
  refine jj_aload_n C0 3 rfl dL_law_1131 ?_
  refine jj_iconst C0 dL_law_1132 ?_
  refine jj_lald C0 (q0 := (8 + (3 * n + 0))) (t0 := 1) (f := (va_up F 0 (f_mark up dn dv td (K c) (St c) (Ex c) (Am c) pr))) ((wH_ee (n := n) rfl)) rfl (k := 0) (by omega) (by omega) (by decide) dL_law_1133 ?_
  refine jj_topl (b := (f_mark up dn dv td (K c) (St c) (Ex c) (Am c) pr)) (va_up_self _ _ _) ?_
  refine jj_iload C0 0 rfl dL_law_1134 ?_
  refine jj_i2l C0 (by omega) dL_law_1136 ?_
  refine jj_lcmpS C0 dL_law_1137 dL_law_1138 (tgt := 1143) (by decide) ?_
  refine jj_goto C0 (tgt := 1530) dL_law_1143 (by decide) ?_
  refine jj_lv [2, 3, 4, 5, 6] rfl ?_
  exact kK cA hA nA ed r8_1 (va_up F 0 (f_mark up dn dv td (K c) (St c) (Ex c) (Am c) pr)) mc GG 0 b_2 ab_2 td pr up dn dv sd n mo sh co Ca Cz K St Ex Am Ov Bi As Bj Aj BL AL He Co _ _ (f_IV_k hV) (hG) (by omega) (by omega)
set_option maxHeartbeats 4000000 in
set_option maxRecDepth 100000 in
theorem ll_mark_r (hC9 : f_CC p l s m args meth c9 dC dI A cI cJ cZ cO es mi sa b L xs) (hi : i + 5 ≤ L) (hik : i = 5 * k) (hcs : cells + 8 ≤ 601024 ∧ slots + 80 ≤ 7293034) (hI : f_IV k td n pr up dn dv sd mo sh Ca K St Ex Am Ov Bi As Bj Aj BL AL He Co) (hG : f_LG cO es n ed cA GG) (kK : f_KK p l e s m args below meth c9 dC dI A Q ha ad cI cJ cZ cO o es b i k cells slots) {a1 : Int} (h1 : (xs (i + 1)).toInt = a1) (hr1 : iR a1) (hb : ¬ (0 ≤ a1 ∧ a1 < (n : Int))) : jj_W p l e room_1 s m args below meth c9 (dC, dI) vwCl A 8 cells slots Q 1090 [(4, .int (iI (i : Int))), (3, .ref o), (2, .ref (ad 0)), (1, .ref (ha 0)), (0, .ref b)] [] (wH ha cA hA nA ed cI cJ cZ td pr up dn dv rw sd mc n mo sh co Ca Cz K St Ex Am Bi As BL AL He Co ++ ((o, .inl (cJ, 1, .inr (.inl (lA F)))) :: (GG ++ wM ad cI cJ cZ th td pr up dn dv n K St Ex Am Ov Bj Aj BL AL He Co Ca mo sh co sd Cz Ab be))) := by
  obtain ⟨C0, hl, hX, hbl, hbA, hL⟩ := hC9
  have hw := C0.2.2.2.2.1
  have hEV := hEVW es mi sa
  have hV := hI
  obtain ⟨⟨htd, hn, hpr, hup, hdn, hdv, hsd, hmo, hsh⟩, ⟨hK, hSt, hEx, hAm, hOv, hovs, hexs, hovn⟩, hQ9, ⟨hHe, hsums, hHz⟩, ⟨hCo, hCz⟩, hCa⟩ := hI
  have hQ := hQ9
  obtain ⟨hBi, hAs, hBj, hAj, hBL, hAL, hQt, hQ0, hQn, hQo⟩ := hQ9
  have hED0 : 0 < n → f_ED cA n ed cO (GG ++ wM ad cI cJ cZ th td pr up dn dv n K St Ex Am Ov Bj Aj BL AL He Co Ca mo sh co sd Cz Ab be) := f_LG_ED hG
  have hexs1 : ∀ c, c < n → Ex c ≤ (td : Int) + 10 := fun c hc => (hexs c hc).1
  have hk5 : k ≤ 511 := by omega
  have hHe9 : ∀ j, -999000 ≤ He j ∧ He j ≤ 999000 := fun j => by have := hHe j; omega
  have hHe6 : ∀ j, -1000000 ≤ He j ∧ He j ≤ 1000000 := fun j => by have := hHe j; omega
  have hCa9 : ∀ j, -100000000000000000 ≤ Ca j ∧ Ca j ≤ 100000000000000000 := fun j => by have := hCa j; omega
  refine jj_aload_n C0 3 rfl dL_law_1090 ?_
  refine jj_aload_n C0 4 rfl dL_law_1091 ?_
  refine jj_iload C0 0 rfl dL_law_1092 ?_
  refine jj_iconst C0 dL_law_1094 ?_
  refine jj_iadd C0 dL_law_1095 ?_
  refine jj_sald C0 hX hbl hbA hL (k := (i + 1)) (by omega) (by omega) dL_law_1096 ?_
  refine jj_topi (b := a1) h1 ?_
  refine jj_aload_n C0 1 rfl dL_law_1097 ?_
  refine jj_callSWi C0 (cells' := cells + 1) (slots' := slots + 6) (jj_weaki (fun A U H h => h.1) (cr_L_mark hl (z := a1) hb hr1 hn hED0)) (vx_cwSW 3 hw (lw_gW hU_723 hU_724 hU_59 hU_725) rfl rfl rfl (by decide +kernel) ⟨Nat.le_of_ble_eq_true rfl, Nat.le_of_ble_eq_true rfl⟩) rfl rfl (Nat.le_of_ble_eq_true rfl) ⟨by show cells + 1 ≤ 601024; omega, by show slots + 6 ≤ 7293034; omega⟩ rfl rfl dL_law_1098 ?_
  intro _ hu
  show jj_W _ _ _ _ _ _ _ _ _ _ _ _ _ _ _ _ _ 1101 _ [.int (iI 1)] (wH ha cA hA nA ed cI cJ cZ td pr up dn dv rw sd mc n mo sh co Ca Cz K St Ex Am Bi As BL AL He Co ++ ((o, .inl (cJ, 1, .inr (.inl (lA F)))) :: (GG ++ wM ad cI cJ cZ th td pr up dn dv n K St Ex Am Ov Bj Aj BL AL He Co Ca mo sh co sd Cz Ab be)))
  refine jj_istore C0 (lv' := [(5, .int (iI 1)), (4, .int (iI (i : Int))), (3, .ref o), (2, .ref (ad 0)), (1, .ref (ha 0)), (0, .ref b)]) (by decide) rfl dL_law_1101 ?_
  refine jj_toM ?_
  refine jj_aload_n C0 3 rfl dL_law_1103 ?_
  refine jj_aload_n C0 5 rfl dL_law_1104 ?_
  refine jj_iload C0 1 rfl dL_law_1105 ?_
  refine jj_iconst C0 dL_law_1107 ?_
  refine jj_iadd C0 dL_law_1108 ?_
  refine jj_sald C0 hX hbl hbA hL (k := (i + 1)) (by omega) (by omega) dL_law_1109 ?_
  refine jj_topi (b := a1) h1 ?_
  refine jj_callVi C0 (cells' := (cells + 1)) (slots' := (slots + 6)) (cb_X4_mark hEV (z := a1) (kk := 1) hr1 hn (⟨hb, rfl⟩)) (cwV 1 hw (lw_gV hU_1024 hU_1025 hU_1026 hU_66 hU_1027) rfl rfl rfl (by decide +kernel) ⟨Nat.le_of_ble_eq_true rfl, Nat.le_of_ble_eq_true rfl⟩) (ci := 5) (q0 := 0) rfl (rfl) rfl rfl (Nat.le_of_ble_eq_true rfl) ⟨by show (cells + 1) + 0 ≤ 601024; omega, by show (slots + 6) + 0 ≤ 7293034; omega⟩ rfl rfl dL_law_1110 ?_
  intro u_1 hu
  show jj_W _ _ _ _ _ _ _ _ _ _ _ _ _ _ _ _ _ 1113 _ [.int (iI u_1)] (wM ad cI cJ cZ 1 td pr up dn dv n K St Ex Am Ov Bj Aj BL AL He Co Ca mo sh co sd Cz Ab be ++ (wH ha cA hA nA ed cI cJ cZ td pr up dn dv rw sd mc n mo sh co Ca Cz K St Ex Am Bi As BL AL He Co ++ ((o, .inl (cJ, 1, .inr (.inl (lA F)))) :: GG)))
  refine jj_istore C0 (lv' := [(6, .int (iI u_1)), (5, .int (iI 1)), (4, .int (iI (i : Int))), (3, .ref o), (2, .ref (ad 0)), (1, .ref (ha 0)), (0, .ref b)]) (by decide) rfl dL_law_1113 ?_
  refine jj_aload_n C0 4 rfl dL_law_1115 ?_
  refine jj_callVi C0 (cells' := (cells + 1)) (slots' := (slots + 6)) (cc_X4_thrown hEV  ) (cwV 0 hw (lw_gV hU_865 hU_866 hU_867 hU_66 hU_868) rfl rfl rfl (by decide +kernel) ⟨Nat.le_of_ble_eq_true rfl, Nat.le_of_ble_eq_true rfl⟩) (ci := 5) (q0 := 0) rfl (rfl) rfl rfl (Nat.le_of_ble_eq_true rfl) ⟨by show (cells + 1) + 0 ≤ 601024; omega, by show (slots + 6) + 0 ≤ 7293034; omega⟩ rfl rfl dL_law_1116 ?_
  intro _ hu
  show jj_W _ _ _ _ _ _ _ _ _ _ _ _ _ _ _ _ _ 1119 _ [.int (iI 1)] (wM ad cI cJ cZ 1 td pr up dn dv n K St Ex Am Ov Bj Aj BL AL He Co Ca mo sh co sd Cz Ab be ++ (wH ha cA hA nA ed cI cJ cZ td pr up dn dv rw sd mc n mo sh co Ca Cz K St Ex Am Bi As BL AL He Co ++ ((o, .inl (cJ, 1, .inr (.inl (lA F)))) :: GG)))
  refine jj_iload C0 1 rfl dL_law_1119 ?_
  refine jj_icmp_eq C0 (by omega) (by omega) dL_law_1121 (tgt := 1126) (by decide) (fun c_2 => ?_) (fun c_2 => absurd c_2 (by omega))
  refine jj_iload C0 1 rfl dL_law_1126 ?_
  refine jj_if_ne C0 (by omega) dL_law_1128 (tgt := 1143) (by decide) (fun c_3 => ?_) (fun c_3 => absurd c_3 (by omega))
  refine jj_goto C0 (tgt := 1530) dL_law_1143 (by decide) ?_
  refine jj_toH ?_
  refine jj_lv [2, 3, 4, 5, 6] rfl ?_
  exact kK cA hA nA ed rw F mc GG 1 be Ab td pr up dn dv sd n mo sh co Ca Cz K St Ex Am Ov Bi As Bj Aj BL AL He Co _ _ (f_IV_k hV) (hG) (by omega) (by omega)
set_option maxHeartbeats 4000000 in
set_option maxRecDepth 100000 in
theorem ll_markByWays (hC9 : f_CC p l s m args meth c9 dC dI A cI cJ cZ cO es mi sa b L xs) (hi : i + 5 ≤ L) (hik : i = 5 * k) (hcs : cells + 8 ≤ 601024 ∧ slots + 80 ≤ 7293034) (hI : f_IV k td n pr up dn dv sd mo sh Ca K St Ex Am Ov Bi As Bj Aj BL AL He Co) (hG : f_LG cO es n ed cA GG) (kK : f_KK p l e s m args below meth c9 dC dI A Q ha ad cI cJ cZ cO o es b i k cells slots) {c : Nat} (h1 : (xs (i + 1)).toInt = (c : Int)) (hcn : c < n) : jj_W p l e room_1 s m args below meth c9 (dC, dI) vwCl A 8 cells slots Q 1146 [(4, .int (iI (i : Int))), (3, .ref o), (2, .ref (ad 0)), (1, .ref (ha 0)), (0, .ref b)] [] (wH ha cA hA nA ed cI cJ cZ td pr up dn dv rw sd mc n mo sh co Ca Cz K St Ex Am Bi As BL AL He Co ++ ((o, .inl (cJ, 1, .inr (.inl (lA F)))) :: (GG ++ wM ad cI cJ cZ th td pr up dn dv n K St Ex Am Ov Bj Aj BL AL He Co Ca mo sh co sd Cz Ab be))) := by
  obtain ⟨C0, hl, hX, hbl, hbA, hL⟩ := hC9
  have hw := C0.2.2.2.2.1
  have hEV := hEVW es mi sa
  have hV := hI
  obtain ⟨⟨htd, hn, hpr, hup, hdn, hdv, hsd, hmo, hsh⟩, ⟨hK, hSt, hEx, hAm, hOv, hovs, hexs, hovn⟩, hQ9, ⟨hHe, hsums, hHz⟩, ⟨hCo, hCz⟩, hCa⟩ := hI
  have hQ := hQ9
  obtain ⟨hBi, hAs, hBj, hAj, hBL, hAL, hQt, hQ0, hQn, hQo⟩ := hQ9
  have hED0 : 0 < n → f_ED cA n ed cO (GG ++ wM ad cI cJ cZ th td pr up dn dv n K St Ex Am Ov Bj Aj BL AL He Co Ca mo sh co sd Cz Ab be) := f_LG_ED hG
  have hexs1 : ∀ c, c < n → Ex c ≤ (td : Int) + 10 := fun c hc => (hexs c hc).1
  have hk5 : k ≤ 511 := by omega
  have hHe9 : ∀ j, -999000 ≤ He j ∧ He j ≤ 999000 := fun j => by have := hHe j; omega
  have hHe6 : ∀ j, -1000000 ≤ He j ∧ He j ≤ 1000000 := fun j => by have := hHe j; omega
  have hCa9 : ∀ j, -100000000000000000 ≤ Ca j ∧ Ca j ≤ 100000000000000000 := fun j => by have := hCa j; omega
  have hm9 := f_mark_bd hup hdn hdv (hSt c) (fr := pr) (by omega) (hexs1 c hcn) (ki := K c) (am := Am c)
  refine jj_aload_n C0 3 rfl dL_law_1146 ?_
  refine jj_aload_n C0 4 rfl dL_law_1147 ?_
  refine jj_iload C0 0 rfl dL_law_1148 ?_
  refine jj_iconst C0 dL_law_1150 ?_
  refine jj_iadd C0 dL_law_1151 ?_
  refine jj_sald C0 hX hbl hbA hL (k := (i + 1)) (by omega) (by omega) dL_law_1152 ?_
  refine jj_topi (b := (c : Int)) h1 ?_
  refine jj_aload_n C0 1 rfl dL_law_1153 ?_
  refine jj_callSWi C0 (cells' := cells) (slots' := slots) (jj_weaki (fun A U H h => h.1) (cw_L_markByWays hl (c := c) hcn hpr hexs1 hn htd hup hdn hdv hK hSt hEx hAm hED0 (by omega))) (vx_cwSW 3 hw (lw_gW hU_730 hU_731 hU_59 hU_732) rfl rfl rfl (by decide +kernel) ⟨Nat.le_of_ble_eq_true rfl, Nat.le_of_ble_eq_true rfl⟩) rfl rfl (Nat.le_of_ble_eq_true rfl) ⟨by show cells + 0 ≤ 601024; omega, by show slots + 0 ≤ 7293034; omega⟩ rfl rfl dL_law_1154 ?_
  intro _ hu
  show jj_W _ _ _ _ _ _ _ _ _ _ _ _ _ _ _ _ _ 1157 _ [.int (iI 0)] (wH ha cA hA nA ed cI cJ cZ td pr up dn dv rw sd mc n mo sh co Ca Cz K St Ex Am Bi As BL AL He Co ++ ((o, .inl (cJ, 1, .inr (.inl (lA (va_up F 0 (f_mark up dn dv td (K c) (St c) (Ex c) (Am c) pr)))))) :: (GG ++ wM ad cI cJ cZ th td pr up dn dv n K St Ex Am Ov Bj Aj BL AL He Co Ca mo sh co sd Cz Ab be)))
  refine jj_istore C0 (lv' := [(5, .int (iI 0)), (4, .int (iI (i : Int))), (3, .ref o), (2, .ref (ad 0)), (1, .ref (ha 0)), (0, .ref b)]) (by decide) rfl dL_law_1157 ?_
  refine jj_toM ?_
  refine jj_aload_n C0 3 rfl dL_law_1159 ?_
  refine jj_aload_n C0 5 rfl dL_law_1160 ?_
  refine jj_iload C0 1 rfl dL_law_1161 ?_
  refine jj_iconst C0 dL_law_1163 ?_
  refine jj_iadd C0 dL_law_1164 ?_
  refine jj_sald C0 hX hbl hbA hL (k := (i + 1)) (by omega) (by omega) dL_law_1165 ?_
  refine jj_topi (b := (c : Int)) h1 ?_
  refine jj_callVi C0 (cells' := cells) (slots' := slots) (cc_X4_markByWays hEV (c := c) hcn hovs hexs hn htd hpr hup hdn hdv hK hSt hEx hAm hOv) (cwV 1 hw (lw_gV hU_1028 hU_1029 hU_1030 hU_66 hU_1031) rfl rfl rfl (by decide +kernel) ⟨Nat.le_of_ble_eq_true rfl, Nat.le_of_ble_eq_true rfl⟩) (ci := 5) (q0 := 0) rfl (rfl) rfl rfl (Nat.le_of_ble_eq_true rfl) ⟨by show cells + 0 ≤ 601024; omega, by show slots + 0 ≤ 7293034; omega⟩ rfl rfl dL_law_1166 ?_
  intro u hu
  obtain ⟨ab_1, b_1⟩ := u
  show jj_W _ _ _ _ _ _ _ _ _ _ _ _ _ _ _ _ _ 1169 _ [.int (iI (f_mark up dn dv td (K c) (St c) (Ex c) (Am c) pr))] (wM ad cI cJ cZ 0 td pr up dn dv n K St Ex Am Ov Bj Aj BL AL He Co Ca mo sh co sd Cz ab_1 b_1 ++ (wH ha cA hA nA ed cI cJ cZ td pr up dn dv rw sd mc n mo sh co Ca Cz K St Ex Am Bi As BL AL He Co ++ ((o, .inl (cJ, 1, .inr (.inl (lA (va_up F 0 (f_mark up dn dv td (K c) (St c) (Ex c) (Am c) pr)))))) :: GG)))
  refine jj_istore C0 (lv' := [(6, .int (iI (f_mark up dn dv td (K c) (St c) (Ex c) (Am c) pr))), (5, .int (iI 0)), (4, .int (iI (i : Int))), (3, .ref o), (2, .ref (ad 0)), (1, .ref (ha 0)), (0, .ref b)]) (by decide) rfl dL_law_1169 ?_
  refine jj_aload_n C0 4 rfl dL_law_1171 ?_
  refine jj_callVi C0 (cells' := cells) (slots' := slots) (cc_X4_thrown hEV  ) (cwV 0 hw (lw_gV hU_865 hU_866 hU_867 hU_66 hU_868) rfl rfl rfl (by decide +kernel) ⟨Nat.le_of_ble_eq_true rfl, Nat.le_of_ble_eq_true rfl⟩) (ci := 5) (q0 := 0) rfl (rfl) rfl rfl (Nat.le_of_ble_eq_true rfl) ⟨by show cells + 0 ≤ 601024; omega, by show slots + 0 ≤ 7293034; omega⟩ rfl rfl dL_law_1172 ?_
  intro _ hu
  show jj_W _ _ _ _ _ _ _ _ _ _ _ _ _ _ _ _ _ 1175 _ [.int (iI 0)] (wM ad cI cJ cZ 0 td pr up dn dv n K St Ex Am Ov Bj Aj BL AL He Co Ca mo sh co sd Cz ab_1 b_1 ++ (wH ha cA hA nA ed cI cJ cZ td pr up dn dv rw sd mc n mo sh co Ca Cz K St Ex Am Bi As BL AL He Co ++ ((o, .inl (cJ, 1, .inr (.inl (lA (va_up F 0 (f_mark up dn dv td (K c) (St c) (Ex c) (Am c) pr)))))) :: GG)))
  refine jj_iload C0 1 rfl dL_law_1175 ?_
  refine jj_icmp_eq C0 (by omega) (by omega) dL_law_1177 (tgt := 1182) (by decide) (fun c_2 => ?_) (fun c_2 => absurd c_2 (by omega))
  refine jj_iload C0 1 rfl dL_law_1182 ?_
  refine jj_if_ne C0 (by omega) dL_law_1184 (tgt := 1199) (by decide) (fun c_3 => absurd c_3 (by omega)) (fun c_3 => ?_)
  refine jj_toH ?_
  refine jj_aload_n C0 3 rfl dL_law_1187 ?_
  refine jj_iconst C0 dL_law_1188 ?_
  refine jj_lald C0 (q0 := (8 + (3 * n + 0))) (t0 := 1) (f := (va_up F 0 (f_mark up dn dv td (K c) (St c) (Ex c) (Am c) pr))) ((wH_ee (n := n) rfl)) rfl (k := 0) (by omega) (by omega) (by decide) dL_law_1189 ?_
  refine jj_topl (b := (f_mark up dn dv td (K c) (St c) (Ex c) (Am c) pr)) (va_up_self _ _ _) ?_
  refine jj_iload C0 0 rfl dL_law_1190 ?_
  refine jj_i2l C0 (by omega) dL_law_1192 ?_
  refine jj_lcmpS C0 dL_law_1193 dL_law_1194 (tgt := 1199) (by decide) ?_
  refine jj_goto C0 (tgt := 1530) dL_law_1199 (by decide) ?_
  refine jj_lv [2, 3, 4, 5, 6] rfl ?_
  exact kK cA hA nA ed rw (va_up F 0 (f_mark up dn dv td (K c) (St c) (Ex c) (Am c) pr)) mc GG 0 b_1 ab_1 td pr up dn dv sd n mo sh co Ca Cz K St Ex Am Ov Bi As Bj Aj BL AL He Co _ _ (f_IV_k hV) (hG) (by omega) (by omega)
set_option maxHeartbeats 4000000 in
set_option maxRecDepth 100000 in
theorem ll_markByWays_r (hC9 : f_CC p l s m args meth c9 dC dI A cI cJ cZ cO es mi sa b L xs) (hi : i + 5 ≤ L) (hik : i = 5 * k) (hcs : cells + 8 ≤ 601024 ∧ slots + 80 ≤ 7293034) (hI : f_IV k td n pr up dn dv sd mo sh Ca K St Ex Am Ov Bi As Bj Aj BL AL He Co) (hG : f_LG cO es n ed cA GG) (kK : f_KK p l e s m args below meth c9 dC dI A Q ha ad cI cJ cZ cO o es b i k cells slots) {a1 : Int} (h1 : (xs (i + 1)).toInt = a1) (hr1 : iR a1) (hb : ¬ (0 ≤ a1 ∧ a1 < (n : Int))) : jj_W p l e room_1 s m args below meth c9 (dC, dI) vwCl A 8 cells slots Q 1146 [(4, .int (iI (i : Int))), (3, .ref o), (2, .ref (ad 0)), (1, .ref (ha 0)), (0, .ref b)] [] (wH ha cA hA nA ed cI cJ cZ td pr up dn dv rw sd mc n mo sh co Ca Cz K St Ex Am Bi As BL AL He Co ++ ((o, .inl (cJ, 1, .inr (.inl (lA F)))) :: (GG ++ wM ad cI cJ cZ th td pr up dn dv n K St Ex Am Ov Bj Aj BL AL He Co Ca mo sh co sd Cz Ab be))) := by
  obtain ⟨C0, hl, hX, hbl, hbA, hL⟩ := hC9
  have hw := C0.2.2.2.2.1
  have hEV := hEVW es mi sa
  have hV := hI
  obtain ⟨⟨htd, hn, hpr, hup, hdn, hdv, hsd, hmo, hsh⟩, ⟨hK, hSt, hEx, hAm, hOv, hovs, hexs, hovn⟩, hQ9, ⟨hHe, hsums, hHz⟩, ⟨hCo, hCz⟩, hCa⟩ := hI
  have hQ := hQ9
  obtain ⟨hBi, hAs, hBj, hAj, hBL, hAL, hQt, hQ0, hQn, hQo⟩ := hQ9
  have hED0 : 0 < n → f_ED cA n ed cO (GG ++ wM ad cI cJ cZ th td pr up dn dv n K St Ex Am Ov Bj Aj BL AL He Co Ca mo sh co sd Cz Ab be) := f_LG_ED hG
  have hexs1 : ∀ c, c < n → Ex c ≤ (td : Int) + 10 := fun c hc => (hexs c hc).1
  have hk5 : k ≤ 511 := by omega
  have hHe9 : ∀ j, -999000 ≤ He j ∧ He j ≤ 999000 := fun j => by have := hHe j; omega
  have hHe6 : ∀ j, -1000000 ≤ He j ∧ He j ≤ 1000000 := fun j => by have := hHe j; omega
  have hCa9 : ∀ j, -100000000000000000 ≤ Ca j ∧ Ca j ≤ 100000000000000000 := fun j => by have := hCa j; omega
  refine jj_aload_n C0 3 rfl dL_law_1146 ?_
  refine jj_aload_n C0 4 rfl dL_law_1147 ?_
  refine jj_iload C0 0 rfl dL_law_1148 ?_
  refine jj_iconst C0 dL_law_1150 ?_
  refine jj_iadd C0 dL_law_1151 ?_
  refine jj_sald C0 hX hbl hbA hL (k := (i + 1)) (by omega) (by omega) dL_law_1152 ?_
  refine jj_topi (b := a1) h1 ?_
  refine jj_aload_n C0 1 rfl dL_law_1153 ?_
  refine jj_callSWi C0 (cells' := cells + 1) (slots' := slots + 6) (jj_weaki (fun A U H h => h.1) (cr_L_markByWays hl (z := a1) hb hr1 hn hED0)) (vx_cwSW 3 hw (lw_gW hU_730 hU_731 hU_59 hU_732) rfl rfl rfl (by decide +kernel) ⟨Nat.le_of_ble_eq_true rfl, Nat.le_of_ble_eq_true rfl⟩) rfl rfl (Nat.le_of_ble_eq_true rfl) ⟨by show cells + 1 ≤ 601024; omega, by show slots + 6 ≤ 7293034; omega⟩ rfl rfl dL_law_1154 ?_
  intro _ hu
  show jj_W _ _ _ _ _ _ _ _ _ _ _ _ _ _ _ _ _ 1157 _ [.int (iI 1)] (wH ha cA hA nA ed cI cJ cZ td pr up dn dv rw sd mc n mo sh co Ca Cz K St Ex Am Bi As BL AL He Co ++ ((o, .inl (cJ, 1, .inr (.inl (lA F)))) :: (GG ++ wM ad cI cJ cZ th td pr up dn dv n K St Ex Am Ov Bj Aj BL AL He Co Ca mo sh co sd Cz Ab be)))
  refine jj_istore C0 (lv' := [(5, .int (iI 1)), (4, .int (iI (i : Int))), (3, .ref o), (2, .ref (ad 0)), (1, .ref (ha 0)), (0, .ref b)]) (by decide) rfl dL_law_1157 ?_
  refine jj_toM ?_
  refine jj_aload_n C0 3 rfl dL_law_1159 ?_
  refine jj_aload_n C0 5 rfl dL_law_1160 ?_
  refine jj_iload C0 1 rfl dL_law_1161 ?_
  refine jj_iconst C0 dL_law_1163 ?_
  refine jj_iadd C0 dL_law_1164 ?_
  refine jj_sald C0 hX hbl hbA hL (k := (i + 1)) (by omega) (by omega) dL_law_1165 ?_
  refine jj_topi (b := a1) h1 ?_
  refine jj_callVi C0 (cells' := (cells + 1)) (slots' := (slots + 6)) (cb_X4_markByWays hEV (z := a1) (kk := 1) hr1 hn (⟨hb, rfl⟩)) (cwV 1 hw (lw_gV hU_1028 hU_1029 hU_1030 hU_66 hU_1031) rfl rfl rfl (by decide +kernel) ⟨Nat.le_of_ble_eq_true rfl, Nat.le_of_ble_eq_true rfl⟩) (ci := 5) (q0 := 0) rfl (rfl) rfl rfl (Nat.le_of_ble_eq_true rfl) ⟨by show (cells + 1) + 0 ≤ 601024; omega, by show (slots + 6) + 0 ≤ 7293034; omega⟩ rfl rfl dL_law_1166 ?_
  intro u_1 hu
  show jj_W _ _ _ _ _ _ _ _ _ _ _ _ _ _ _ _ _ 1169 _ [.int (iI u_1)] (wM ad cI cJ cZ 1 td pr up dn dv n K St Ex Am Ov Bj Aj BL AL He Co Ca mo sh co sd Cz Ab be ++ (wH ha cA hA nA ed cI cJ cZ td pr up dn dv rw sd mc n mo sh co Ca Cz K St Ex Am Bi As BL AL He Co ++ ((o, .inl (cJ, 1, .inr (.inl (lA F)))) :: GG)))
  refine jj_istore C0 (lv' := [(6, .int (iI u_1)), (5, .int (iI 1)), (4, .int (iI (i : Int))), (3, .ref o), (2, .ref (ad 0)), (1, .ref (ha 0)), (0, .ref b)]) (by decide) rfl dL_law_1169 ?_
  refine jj_aload_n C0 4 rfl dL_law_1171 ?_
  refine jj_callVi C0 (cells' := (cells + 1)) (slots' := (slots + 6)) (cc_X4_thrown hEV  ) (cwV 0 hw (lw_gV hU_865 hU_866 hU_867 hU_66 hU_868) rfl rfl rfl (by decide +kernel) ⟨Nat.le_of_ble_eq_true rfl, Nat.le_of_ble_eq_true rfl⟩) (ci := 5) (q0 := 0) rfl (rfl) rfl rfl (Nat.le_of_ble_eq_true rfl) ⟨by show (cells + 1) + 0 ≤ 601024; omega, by show (slots + 6) + 0 ≤ 7293034; omega⟩ rfl rfl dL_law_1172 ?_
  intro _ hu
  show jj_W _ _ _ _ _ _ _ _ _ _ _ _ _ _ _ _ _ 1175 _ [.int (iI 1)] (wM ad cI cJ cZ 1 td pr up dn dv n K St Ex Am Ov Bj Aj BL AL He Co Ca mo sh co sd Cz Ab be ++ (wH ha cA hA nA ed cI cJ cZ td pr up dn dv rw sd mc n mo sh co Ca Cz K St Ex Am Bi As BL AL He Co ++ ((o, .inl (cJ, 1, .inr (.inl (lA F)))) :: GG)))
  refine jj_iload C0 1 rfl dL_law_1175 ?_
  refine jj_icmp_eq C0 (by omega) (by omega) dL_law_1177 (tgt := 1182) (by decide) (fun c_2 => ?_) (fun c_2 => absurd c_2 (by omega))
  refine jj_iload C0 1 rfl dL_law_1182 ?_
  refine jj_if_ne C0 (by omega) dL_law_1184 (tgt := 1199) (by decide) (fun c_3 => ?_) (fun c_3 => absurd c_3 (by omega))
  refine jj_goto C0 (tgt := 1530) dL_law_1199 (by decide) ?_
  refine jj_toH ?_
  refine jj_lv [2, 3, 4, 5, 6] rfl ?_
  exact kK cA hA nA ed rw F mc GG 1 be Ab td pr up dn dv sd n mo sh co Ca Cz K St Ex Am Ov Bi As Bj Aj BL AL He Co _ _ (f_IV_k hV) (hG) (by omega) (by omega)
set_option maxHeartbeats 4000000 in
set_option maxRecDepth 100000 in
theorem ll_fault (hC9 : f_CC p l s m args meth c9 dC dI A cI cJ cZ cO es mi sa b L xs) (hi : i + 5 ≤ L) (hik : i = 5 * k) (hcs : cells + 8 ≤ 601024 ∧ slots + 80 ≤ 7293034) (hI : f_IV k td n pr up dn dv sd mo sh Ca K St Ex Am Ov Bi As Bj Aj BL AL He Co) (hG : f_LG cO es n ed cA GG) (kK : f_KK p l e s m args below meth c9 dC dI A Q ha ad cI cJ cZ cO o es b i k cells slots)    : jj_W p l e room_1 s m args below meth c9 (dC, dI) vwCl A 8 cells slots Q 1202 [(4, .int (iI (i : Int))), (3, .ref o), (2, .ref (ad 0)), (1, .ref (ha 0)), (0, .ref b)] [] (wH ha cA hA nA ed cI cJ cZ td pr up dn dv rw sd mc n mo sh co Ca Cz K St Ex Am Bi As BL AL He Co ++ ((o, .inl (cJ, 1, .inr (.inl (lA F)))) :: (GG ++ wM ad cI cJ cZ th td pr up dn dv n K St Ex Am Ov Bj Aj BL AL He Co Ca mo sh co sd Cz Ab be))) := by
  obtain ⟨C0, hl, hX, hbl, hbA, hL⟩ := hC9
  have hw := C0.2.2.2.2.1
  have hEV := hEVW es mi sa
  have hV := hI
  obtain ⟨⟨htd, hn, hpr, hup, hdn, hdv, hsd, hmo, hsh⟩, ⟨hK, hSt, hEx, hAm, hOv, hovs, hexs, hovn⟩, hQ9, ⟨hHe, hsums, hHz⟩, ⟨hCo, hCz⟩, hCa⟩ := hI
  have hQ := hQ9
  obtain ⟨hBi, hAs, hBj, hAj, hBL, hAL, hQt, hQ0, hQn, hQo⟩ := hQ9
  have hED0 : 0 < n → f_ED cA n ed cO (GG ++ wM ad cI cJ cZ th td pr up dn dv n K St Ex Am Ov Bj Aj BL AL He Co Ca mo sh co sd Cz Ab be) := f_LG_ED hG
  have hexs1 : ∀ c, c < n → Ex c ≤ (td : Int) + 10 := fun c hc => (hexs c hc).1
  have hk5 : k ≤ 511 := by omega
  have hHe9 : ∀ j, -999000 ≤ He j ∧ He j ≤ 999000 := fun j => by have := hHe j; omega
  have hHe6 : ∀ j, -1000000 ≤ He j ∧ He j ≤ 1000000 := fun j => by have := hHe j; omega
  have hCa9 : ∀ j, -100000000000000000 ≤ Ca j ∧ Ca j ≤ 100000000000000000 := fun j => by have := hCa j; omega
  refine jj_aload_n C0 3 rfl dL_law_1202 ?_
  refine jj_callVi C0 (cells' := cells) (slots' := slots) (jj_weaki (fun A U H h => EVW_h h) (cc_X3_fault   hn (fun h => f_ED_cons (hED0 h)) hK hSt hEx hAm hBi hAs hBL hAL)) (cwV 0 hw (lw_gV hU_217 hU_218 hU_219 hU_60 hU_220) rfl rfl rfl (by decide +kernel) ⟨Nat.le_of_ble_eq_true rfl, Nat.le_of_ble_eq_true rfl⟩) (ci := 4) (q0 := 0) rfl (rfl) rfl rfl (Nat.le_of_ble_eq_true rfl) ⟨by show cells + 0 ≤ 601024; omega, by show slots + 0 ≤ 7293034; omega⟩ rfl rfl dL_law_1203 ?_
  intro u_1 hu
  have hu_1203 : (u_1 = 1 ∧ (∃ a, a < n ∧ ((0 < BL a ∧ 0 < AL a) ∧ As a ≤ Bi a))) ∨ (u_1 = 2 ∧ ¬ (∃ a, a < n ∧ ((0 < BL a ∧ 0 < AL a) ∧ As a ≤ Bi a)) ∧ (∃ a b, a < n ∧ b < n ∧ (((0 < BL a ∧ 0 < AL a) ∧ (0 < BL b ∧ 0 < AL b) ∧ St a < St b ∧ K a = K b ∧ Ex a = Ex b ∧ Am a = Am b) ∧ ((K a = 0 ∧ As a < Bi b) ∨ (K a ≠ 0 ∧ As b < Bi a))))) ∨ (u_1 = 3 ∧ ¬ (∃ a, a < n ∧ ((0 < BL a ∧ 0 < AL a) ∧ As a ≤ Bi a)) ∧ ¬ (∃ a b, a < n ∧ b < n ∧ (((0 < BL a ∧ 0 < AL a) ∧ (0 < BL b ∧ 0 < AL b) ∧ St a < St b ∧ K a = K b ∧ Ex a = Ex b ∧ Am a = Am b) ∧ ((K a = 0 ∧ As a < Bi b) ∨ (K a ≠ 0 ∧ As b < Bi a)))) ∧ (∃ a b, a < n ∧ b < n ∧ ∃ d, d < n ∧ (((0 < BL a ∧ 0 < AL a) ∧ (0 < BL b ∧ 0 < AL b) ∧ St a < St b ∧ K a = K b ∧ Ex a = Ex b ∧ Am a = Am b) ∧ ((0 < BL b ∧ 0 < AL b) ∧ (0 < BL d ∧ 0 < AL d) ∧ St b < St d ∧ K b = K d ∧ Ex b = Ex d ∧ Am b = Am d) ∧ St b - St a = St d - St b ∧ As a + As d < 2 * Bi b))) ∨ (u_1 = 4 ∧ ¬ (∃ a, a < n ∧ ((0 < BL a ∧ 0 < AL a) ∧ As a ≤ Bi a)) ∧ ¬ (∃ a b, a < n ∧ b < n ∧ (((0 < BL a ∧ 0 < AL a) ∧ (0 < BL b ∧ 0 < AL b) ∧ St a < St b ∧ K a = K b ∧ Ex a = Ex b ∧ Am a = Am b) ∧ ((K a = 0 ∧ As a < Bi b) ∨ (K a ≠ 0 ∧ As b < Bi a)))) ∧ ¬ (∃ a b, a < n ∧ b < n ∧ ∃ d, d < n ∧ (((0 < BL a ∧ 0 < AL a) ∧ (0 < BL b ∧ 0 < AL b) ∧ St a < St b ∧ K a = K b ∧ Ex a = Ex b ∧ Am a = Am b) ∧ ((0 < BL b ∧ 0 < AL b) ∧ (0 < BL d ∧ 0 < AL d) ∧ St b < St d ∧ K b = K d ∧ Ex b = Ex d ∧ Am b = Am d) ∧ St b - St a = St d - St b ∧ As a + As d < 2 * Bi b)) ∧ (∃ a b, a < n ∧ b < n ∧ ((0 < BL a ∧ 0 < AL a) ∧ (0 < BL b ∧ 0 < AL b) ∧ Ex a < Ex b ∧ Am a ≠ 0 ∧ Am b ≠ 0 ∧ K a = K b ∧ St a = St b ∧ As b < Bi a))) ∨ (u_1 = 0 ∧ ¬ (∃ a, a < n ∧ ((0 < BL a ∧ 0 < AL a) ∧ As a ≤ Bi a)) ∧ ¬ (∃ a b, a < n ∧ b < n ∧ (((0 < BL a ∧ 0 < AL a) ∧ (0 < BL b ∧ 0 < AL b) ∧ St a < St b ∧ K a = K b ∧ Ex a = Ex b ∧ Am a = Am b) ∧ ((K a = 0 ∧ As a < Bi b) ∨ (K a ≠ 0 ∧ As b < Bi a)))) ∧ ¬ (∃ a b, a < n ∧ b < n ∧ ∃ d, d < n ∧ (((0 < BL a ∧ 0 < AL a) ∧ (0 < BL b ∧ 0 < AL b) ∧ St a < St b ∧ K a = K b ∧ Ex a = Ex b ∧ Am a = Am b) ∧ ((0 < BL b ∧ 0 < AL b) ∧ (0 < BL d ∧ 0 < AL d) ∧ St b < St d ∧ K b = K d ∧ Ex b = Ex d ∧ Am b = Am d) ∧ St b - St a = St d - St b ∧ As a + As d < 2 * Bi b)) ∧ ¬ (∃ a b, a < n ∧ b < n ∧ ((0 < BL a ∧ 0 < AL a) ∧ (0 < BL b ∧ 0 < AL b) ∧ Ex a < Ex b ∧ Am a ≠ 0 ∧ Am b ≠ 0 ∧ K a = K b ∧ St a = St b ∧ As b < Bi a))) := hu
  show jj_W _ _ _ _ _ _ _ _ _ _ _ _ _ _ _ _ _ 1206 _ [.int (iI u_1)] (wH ha cA hA nA ed cI cJ cZ td pr up dn dv rw sd mc n mo sh co Ca Cz K St Ex Am Bi As BL AL He Co ++ ((o, .inl (cJ, 1, .inr (.inl (lA F)))) :: (GG ++ wM ad cI cJ cZ th td pr up dn dv n K St Ex Am Ov Bj Aj BL AL He Co Ca mo sh co sd Cz Ab be)))
  refine jj_toM ?_
  refine jj_aload_n C0 2 rfl dL_law_1206 ?_
  refine jj_callVi C0 (cells' := cells) (slots' := slots) (cc_X4_fault hEV  hn hK hSt hEx hAm hOv hBj hAj hBL hAL) (cwV 0 hw (lw_gV hU_1033 hU_1034 hU_1035 hU_66 hU_1036) rfl rfl rfl (by decide +kernel) ⟨Nat.le_of_ble_eq_true rfl, Nat.le_of_ble_eq_true rfl⟩) (ci := 5) (q0 := 0) rfl (rfl) rfl rfl (Nat.le_of_ble_eq_true rfl) ⟨by show cells + 0 ≤ 601024; omega, by show slots + 0 ≤ 7293034; omega⟩ rfl rfl dL_law_1207 ?_
  intro u_2 hu
  have hu_1207 : f_isF (f_F n K St Ex Am Ov Bj Aj BL AL) n u_2 := hu
  show jj_W _ _ _ _ _ _ _ _ _ _ _ _ _ _ _ _ _ 1210 _ [.int (iI u_2), .int (iI u_1)] (wM ad cI cJ cZ 0 td pr up dn dv n K St Ex Am Ov Bj Aj BL AL He Co Ca mo sh co sd Cz Ab be ++ (wH ha cA hA nA ed cI cJ cZ td pr up dn dv rw sd mc n mo sh co Ca Cz K St Ex Am Bi As BL AL He Co ++ ((o, .inl (cJ, 1, .inr (.inl (lA F)))) :: GG)))
  refine jj_topi (b := u_1) ((f_tie (f_qq_of hQ) hK hAm hu_1207 hu_1203).symm) ?_
  refine jj_icmpS C0 dL_law_1210 (tgt := 1530) (by decide) ?_
  refine jj_toH ?_
  exact kK cA hA nA ed rw F mc GG 0 be Ab td pr up dn dv sd n mo sh co Ca Cz K St Ex Am Ov Bi As Bj Aj BL AL He Co _ _ (f_IV_k hV) (hG) (by omega) (by omega)
set_option maxHeartbeats 4000000 in
set_option maxRecDepth 100000 in
theorem ll_quoted (hC9 : f_CC p l s m args meth c9 dC dI A cI cJ cZ cO es mi sa b L xs) (hi : i + 5 ≤ L) (hik : i = 5 * k) (hcs : cells + 8 ≤ 601024 ∧ slots + 80 ≤ 7293034) (hI : f_IV k td n pr up dn dv sd mo sh Ca K St Ex Am Ov Bi As Bj Aj BL AL He Co) (hG : f_LG cO es n ed cA GG) (kK : f_KK p l e s m args below meth c9 dC dI A Q ha ad cI cJ cZ cO o es b i k cells slots) {c : Nat} {a2 : Int} (h1 : (xs (i + 1)).toInt = (c : Int)) (h2 : (xs (i + 2)).toInt = a2) (hcn : c < n) (hx : 0 ≤ a2 ∧ a2 ≤ 3) : jj_W p l e room_1 s m args below meth c9 (dC, dI) vwCl A 8 cells slots Q 1215 [(4, .int (iI (i : Int))), (3, .ref o), (2, .ref (ad 0)), (1, .ref (ha 0)), (0, .ref b)] [] (wH ha cA hA nA ed cI cJ cZ td pr up dn dv rw sd mc n mo sh co Ca Cz K St Ex Am Bi As BL AL He Co ++ ((o, .inl (cJ, 1, .inr (.inl (lA F)))) :: (GG ++ wM ad cI cJ cZ th td pr up dn dv n K St Ex Am Ov Bj Aj BL AL He Co Ca mo sh co sd Cz Ab be))) := by
  obtain ⟨C0, hl, hX, hbl, hbA, hL⟩ := hC9
  have hw := C0.2.2.2.2.1
  have hEV := hEVW es mi sa
  have hV := hI
  obtain ⟨⟨htd, hn, hpr, hup, hdn, hdv, hsd, hmo, hsh⟩, ⟨hK, hSt, hEx, hAm, hOv, hovs, hexs, hovn⟩, hQ9, ⟨hHe, hsums, hHz⟩, ⟨hCo, hCz⟩, hCa⟩ := hI
  have hQ := hQ9
  obtain ⟨hBi, hAs, hBj, hAj, hBL, hAL, hQt, hQ0, hQn, hQo⟩ := hQ9
  have hED0 : 0 < n → f_ED cA n ed cO (GG ++ wM ad cI cJ cZ th td pr up dn dv n K St Ex Am Ov Bj Aj BL AL He Co Ca mo sh co sd Cz Ab be) := f_LG_ED hG
  have hexs1 : ∀ c, c < n → Ex c ≤ (td : Int) + 10 := fun c hc => (hexs c hc).1
  have hk5 : k ≤ 511 := by omega
  have hHe9 : ∀ j, -999000 ≤ He j ∧ He j ≤ 999000 := fun j => by have := hHe j; omega
  have hHe6 : ∀ j, -1000000 ≤ He j ∧ He j ≤ 1000000 := fun j => by have := hHe j; omega
  have hCa9 : ∀ j, -100000000000000000 ≤ Ca j ∧ Ca j ≤ 100000000000000000 := fun j => by have := hCa j; omega
  have hb1 := hBi c
  have hb2 := hAs c
  have hb3 := hBL c
  have hb4 := hAL c
  refine jj_aload_n C0 3 rfl dL_law_1215 ?_
  refine jj_aload_n C0 4 rfl dL_law_1216 ?_
  refine jj_iload C0 0 rfl dL_law_1217 ?_
  refine jj_iconst C0 dL_law_1219 ?_
  refine jj_iadd C0 dL_law_1220 ?_
  refine jj_sald C0 hX hbl hbA hL (k := (i + 1)) (by omega) (by omega) dL_law_1221 ?_
  refine jj_topi (b := (c : Int)) h1 ?_
  refine jj_aload_n C0 4 rfl dL_law_1222 ?_
  refine jj_iload C0 0 rfl dL_law_1223 ?_
  refine jj_iconst C0 dL_law_1225 ?_
  refine jj_iadd C0 dL_law_1226 ?_
  refine jj_sald C0 hX hbl hbA hL (k := (i + 2)) (by omega) (by omega) dL_law_1227 ?_
  refine jj_topi (b := a2) h2 ?_
  refine jj_aload_n C0 1 rfl dL_law_1228 ?_
  refine jj_callSWi C0 (cells' := cells) (slots' := slots) (jj_weaki (fun A U H h => h.1) (cw_L_quoted hl (c := c) (x := a2) hx hcn hn hED0 (by (repeat' split) <;> omega))) (vx_cwSW 4 hw (lw_gW hU_743 hU_744 hU_59 hU_745) rfl rfl rfl (by decide +kernel) ⟨Nat.le_of_ble_eq_true rfl, Nat.le_of_ble_eq_true rfl⟩) rfl rfl (Nat.le_of_ble_eq_true rfl) ⟨by show cells + 0 ≤ 601024; omega, by show slots + 0 ≤ 7293034; omega⟩ rfl rfl dL_law_1229 ?_
  intro _ hu
  show jj_W _ _ _ _ _ _ _ _ _ _ _ _ _ _ _ _ _ 1232 _ [.int (iI 0)] (wH ha cA hA nA ed cI cJ cZ td pr up dn dv rw sd mc n mo sh co Ca Cz K St Ex Am Bi As BL AL He Co ++ ((o, .inl (cJ, 1, .inr (.inl (lA (va_up F 0 (if a2 = 0 then Bi c else if a2 = 1 then As c else if a2 = 2 then BL c else AL c)))))) :: (GG ++ wM ad cI cJ cZ th td pr up dn dv n K St Ex Am Ov Bj Aj BL AL He Co Ca mo sh co sd Cz Ab be)))
  refine jj_istore C0 (lv' := [(5, .int (iI 0)), (4, .int (iI (i : Int))), (3, .ref o), (2, .ref (ad 0)), (1, .ref (ha 0)), (0, .ref b)]) (by decide) rfl dL_law_1232 ?_
  refine jj_toM ?_
  refine jj_aload_n C0 3 rfl dL_law_1234 ?_
  refine jj_aload_n C0 5 rfl dL_law_1235 ?_
  refine jj_iload C0 1 rfl dL_law_1236 ?_
  refine jj_iconst C0 dL_law_1238 ?_
  refine jj_iadd C0 dL_law_1239 ?_
  refine jj_sald C0 hX hbl hbA hL (k := (i + 1)) (by omega) (by omega) dL_law_1240 ?_
  refine jj_topi (b := (c : Int)) h1 ?_
  refine jj_aload_n C0 5 rfl dL_law_1241 ?_
  refine jj_iload C0 1 rfl dL_law_1242 ?_
  refine jj_iconst C0 dL_law_1244 ?_
  refine jj_iadd C0 dL_law_1245 ?_
  refine jj_sald C0 hX hbl hbA hL (k := (i + 2)) (by omega) (by omega) dL_law_1246 ?_
  refine jj_topi (b := a2) h2 ?_
  refine jj_callVi C0 (cells' := cells) (slots' := slots) (cc_X4_quoted hEV (c := c) (x := a2) hx hcn hn hBL hAL) (cwV 2 hw (lw_gV hU_1037 hU_1038 hU_1039 hU_66 hU_1040) rfl rfl rfl (by decide +kernel) ⟨Nat.le_of_ble_eq_true rfl, Nat.le_of_ble_eq_true rfl⟩) (ci := 5) (q0 := 0) rfl (rfl) rfl rfl (Nat.le_of_ble_eq_true rfl) ⟨by show cells + 0 ≤ 601024; omega, by show slots + 0 ≤ 7293034; omega⟩ rfl rfl dL_law_1247 ?_
  intro _ hu
  show jj_W _ _ _ _ _ _ _ _ _ _ _ _ _ _ _ _ _ 1250 _ [.int (iI (if 0 < BL c + AL c then (if a2 = 0 then Bj c else if a2 = 1 then Aj c else if a2 = 2 then BL c else AL c) else 0))] (wM ad cI cJ cZ 0 td pr up dn dv n K St Ex Am Ov Bj Aj BL AL He Co Ca mo sh co sd Cz Ab be ++ (wH ha cA hA nA ed cI cJ cZ td pr up dn dv rw sd mc n mo sh co Ca Cz K St Ex Am Bi As BL AL He Co ++ ((o, .inl (cJ, 1, .inr (.inl (lA (va_up F 0 (if a2 = 0 then Bi c else if a2 = 1 then As c else if a2 = 2 then BL c else AL c)))))) :: GG)))
  refine jj_istore C0 (lv' := [(6, .int (iI (if 0 < BL c + AL c then (if a2 = 0 then Bj c else if a2 = 1 then Aj c else if a2 = 2 then BL c else AL c) else 0))), (5, .int (iI 0)), (4, .int (iI (i : Int))), (3, .ref o), (2, .ref (ad 0)), (1, .ref (ha 0)), (0, .ref b)]) (by decide) rfl dL_law_1250 ?_
  refine jj_aload_n C0 4 rfl dL_law_1252 ?_
  refine jj_callVi C0 (cells' := cells) (slots' := slots) (cc_X4_thrown hEV  ) (cwV 0 hw (lw_gV hU_865 hU_866 hU_867 hU_66 hU_868) rfl rfl rfl (by decide +kernel) ⟨Nat.le_of_ble_eq_true rfl, Nat.le_of_ble_eq_true rfl⟩) (ci := 5) (q0 := 0) rfl (rfl) rfl rfl (Nat.le_of_ble_eq_true rfl) ⟨by show cells + 0 ≤ 601024; omega, by show slots + 0 ≤ 7293034; omega⟩ rfl rfl dL_law_1253 ?_
  intro _ hu
  show jj_W _ _ _ _ _ _ _ _ _ _ _ _ _ _ _ _ _ 1256 _ [.int (iI 0)] (wM ad cI cJ cZ 0 td pr up dn dv n K St Ex Am Ov Bj Aj BL AL He Co Ca mo sh co sd Cz Ab be ++ (wH ha cA hA nA ed cI cJ cZ td pr up dn dv rw sd mc n mo sh co Ca Cz K St Ex Am Bi As BL AL He Co ++ ((o, .inl (cJ, 1, .inr (.inl (lA (va_up F 0 (if a2 = 0 then Bi c else if a2 = 1 then As c else if a2 = 2 then BL c else AL c)))))) :: GG)))
  refine jj_iload C0 1 rfl dL_law_1256 ?_
  refine jj_icmp_eq C0 (by omega) (by omega) dL_law_1258 (tgt := 1263) (by decide) (fun c_1 => ?_) (fun c_1 => absurd c_1 (by omega))
  refine jj_iload C0 1 rfl dL_law_1263 ?_
  refine jj_if_ne C0 (by omega) dL_law_1265 (tgt := 1280) (by decide) (fun c_2 => absurd c_2 (by omega)) (fun c_2 => ?_)
  refine jj_toH ?_
  refine jj_aload_n C0 3 rfl dL_law_1268 ?_
  refine jj_iconst C0 dL_law_1269 ?_
  refine jj_lald C0 (q0 := (8 + (3 * n + 0))) (t0 := 1) (f := (va_up F 0 (if a2 = 0 then Bi c else if a2 = 1 then As c else if a2 = 2 then BL c else AL c))) ((wH_ee (n := n) rfl)) rfl (k := 0) (by omega) (by omega) (by decide) dL_law_1270 ?_
  refine jj_topl (b := (if a2 = 0 then Bi c else if a2 = 1 then As c else if a2 = 2 then BL c else AL c)) (va_up_self _ _ _) ?_
  refine jj_iload C0 0 rfl dL_law_1271 ?_
  refine jj_i2l C0 (by rw [f_tie_quoted hQ]; (repeat' split) <;> omega) dL_law_1273 ?_
  refine jj_topl (b := (if a2 = 0 then Bi c else if a2 = 1 then As c else if a2 = 2 then BL c else AL c)) (f_tie_quoted hQ) ?_
  refine jj_lcmpS C0 dL_law_1274 dL_law_1275 (tgt := 1280) (by decide) ?_
  refine jj_goto C0 (tgt := 1530) dL_law_1280 (by decide) ?_
  refine jj_lv [2, 3, 4, 5, 6] rfl ?_
  exact kK cA hA nA ed rw (va_up F 0 (if a2 = 0 then Bi c else if a2 = 1 then As c else if a2 = 2 then BL c else AL c)) mc GG 0 be Ab td pr up dn dv sd n mo sh co Ca Cz K St Ex Am Ov Bi As Bj Aj BL AL He Co _ _ (f_IV_k hV) (hG) (by omega) (by omega)
set_option maxHeartbeats 4000000 in
set_option maxRecDepth 100000 in
theorem ll_quoted_I (hC9 : f_CC p l s m args meth c9 dC dI A cI cJ cZ cO es mi sa b L xs) (hi : i + 5 ≤ L) (hik : i = 5 * k) (hcs : cells + 8 ≤ 601024 ∧ slots + 80 ≤ 7293034) (hI : f_IV k td n pr up dn dv sd mo sh Ca K St Ex Am Ov Bi As Bj Aj BL AL He Co) (hG : f_LG cO es n ed cA GG) (kK : f_KK p l e s m args below meth c9 dC dI A Q ha ad cI cJ cZ cO o es b i k cells slots) {a1 a2 : Int} (h1 : (xs (i + 1)).toInt = a1) (h2 : (xs (i + 2)).toInt = a2) (hr1 : iR a1) (hr2 : iR a2) (hb : ¬ (0 ≤ a1 ∧ a1 < (n : Int))) : jj_W p l e room_1 s m args below meth c9 (dC, dI) vwCl A 8 cells slots Q 1215 [(4, .int (iI (i : Int))), (3, .ref o), (2, .ref (ad 0)), (1, .ref (ha 0)), (0, .ref b)] [] (wH ha cA hA nA ed cI cJ cZ td pr up dn dv rw sd mc n mo sh co Ca Cz K St Ex Am Bi As BL AL He Co ++ ((o, .inl (cJ, 1, .inr (.inl (lA F)))) :: (GG ++ wM ad cI cJ cZ th td pr up dn dv n K St Ex Am Ov Bj Aj BL AL He Co Ca mo sh co sd Cz Ab be))) := by
  obtain ⟨C0, hl, hX, hbl, hbA, hL⟩ := hC9
  have hw := C0.2.2.2.2.1
  have hEV := hEVW es mi sa
  have hV := hI
  obtain ⟨⟨htd, hn, hpr, hup, hdn, hdv, hsd, hmo, hsh⟩, ⟨hK, hSt, hEx, hAm, hOv, hovs, hexs, hovn⟩, hQ9, ⟨hHe, hsums, hHz⟩, ⟨hCo, hCz⟩, hCa⟩ := hI
  have hQ := hQ9
  obtain ⟨hBi, hAs, hBj, hAj, hBL, hAL, hQt, hQ0, hQn, hQo⟩ := hQ9
  have hED0 : 0 < n → f_ED cA n ed cO (GG ++ wM ad cI cJ cZ th td pr up dn dv n K St Ex Am Ov Bj Aj BL AL He Co Ca mo sh co sd Cz Ab be) := f_LG_ED hG
  have hexs1 : ∀ c, c < n → Ex c ≤ (td : Int) + 10 := fun c hc => (hexs c hc).1
  have hk5 : k ≤ 511 := by omega
  have hHe9 : ∀ j, -999000 ≤ He j ∧ He j ≤ 999000 := fun j => by have := hHe j; omega
  have hHe6 : ∀ j, -1000000 ≤ He j ∧ He j ≤ 1000000 := fun j => by have := hHe j; omega
  have hCa9 : ∀ j, -100000000000000000 ≤ Ca j ∧ Ca j ≤ 100000000000000000 := fun j => by have := hCa j; omega
  refine jj_aload_n C0 3 rfl dL_law_1215 ?_
  refine jj_aload_n C0 4 rfl dL_law_1216 ?_
  refine jj_iload C0 0 rfl dL_law_1217 ?_
  refine jj_iconst C0 dL_law_1219 ?_
  refine jj_iadd C0 dL_law_1220 ?_
  refine jj_sald C0 hX hbl hbA hL (k := (i + 1)) (by omega) (by omega) dL_law_1221 ?_
  refine jj_topi (b := a1) h1 ?_
  refine jj_aload_n C0 4 rfl dL_law_1222 ?_
  refine jj_iload C0 0 rfl dL_law_1223 ?_
  refine jj_iconst C0 dL_law_1225 ?_
  refine jj_iadd C0 dL_law_1226 ?_
  refine jj_sald C0 hX hbl hbA hL (k := (i + 2)) (by omega) (by omega) dL_law_1227 ?_
  refine jj_topi (b := a2) h2 ?_
  refine jj_aload_n C0 1 rfl dL_law_1228 ?_
  refine jj_callSWi C0 (cells' := cells + 1) (slots' := slots + 6) (jj_weaki (fun A U H h => h.1) (cr_L_quoted hl (z := a1) (v := a2) hb hr1 hn hED0)) (vx_cwSW 4 hw (lw_gW hU_743 hU_744 hU_59 hU_745) rfl rfl rfl (by decide +kernel) ⟨Nat.le_of_ble_eq_true rfl, Nat.le_of_ble_eq_true rfl⟩) rfl rfl (Nat.le_of_ble_eq_true rfl) ⟨by show cells + 1 ≤ 601024; omega, by show slots + 6 ≤ 7293034; omega⟩ rfl rfl dL_law_1229 ?_
  intro _ hu
  show jj_W _ _ _ _ _ _ _ _ _ _ _ _ _ _ _ _ _ 1232 _ [.int (iI 1)] (wH ha cA hA nA ed cI cJ cZ td pr up dn dv rw sd mc n mo sh co Ca Cz K St Ex Am Bi As BL AL He Co ++ ((o, .inl (cJ, 1, .inr (.inl (lA F)))) :: (GG ++ wM ad cI cJ cZ th td pr up dn dv n K St Ex Am Ov Bj Aj BL AL He Co Ca mo sh co sd Cz Ab be)))
  refine jj_istore C0 (lv' := [(5, .int (iI 1)), (4, .int (iI (i : Int))), (3, .ref o), (2, .ref (ad 0)), (1, .ref (ha 0)), (0, .ref b)]) (by decide) rfl dL_law_1232 ?_
  refine jj_toM ?_
  refine jj_aload_n C0 3 rfl dL_law_1234 ?_
  refine jj_aload_n C0 5 rfl dL_law_1235 ?_
  refine jj_iload C0 1 rfl dL_law_1236 ?_
  refine jj_iconst C0 dL_law_1238 ?_
  refine jj_iadd C0 dL_law_1239 ?_
  refine jj_sald C0 hX hbl hbA hL (k := (i + 1)) (by omega) (by omega) dL_law_1240 ?_
  refine jj_topi (b := a1) h1 ?_
  refine jj_aload_n C0 5 rfl dL_law_1241 ?_
  refine jj_iload C0 1 rfl dL_law_1242 ?_
  refine jj_iconst C0 dL_law_1244 ?_
  refine jj_iadd C0 dL_law_1245 ?_
  refine jj_sald C0 hX hbl hbA hL (k := (i + 2)) (by omega) (by omega) dL_law_1246 ?_
  refine jj_topi (b := a2) h2 ?_
  refine jj_callVi C0 (cells' := (cells + 1)) (slots' := (slots + 6)) (cb_X4_quoted hEV (z := a1) (x := a2) (kk := 1) hr2 hr1 hn (Or.inl ⟨hb, rfl⟩)) (cwV 2 hw (lw_gV hU_1037 hU_1038 hU_1039 hU_66 hU_1040) rfl rfl rfl (by decide +kernel) ⟨Nat.le_of_ble_eq_true rfl, Nat.le_of_ble_eq_true rfl⟩) (ci := 5) (q0 := 0) rfl (rfl) rfl rfl (Nat.le_of_ble_eq_true rfl) ⟨by show (cells + 1) + 0 ≤ 601024; omega, by show (slots + 6) + 0 ≤ 7293034; omega⟩ rfl rfl dL_law_1247 ?_
  intro u_1 hu
  show jj_W _ _ _ _ _ _ _ _ _ _ _ _ _ _ _ _ _ 1250 _ [.int (iI u_1)] (wM ad cI cJ cZ 1 td pr up dn dv n K St Ex Am Ov Bj Aj BL AL He Co Ca mo sh co sd Cz Ab be ++ (wH ha cA hA nA ed cI cJ cZ td pr up dn dv rw sd mc n mo sh co Ca Cz K St Ex Am Bi As BL AL He Co ++ ((o, .inl (cJ, 1, .inr (.inl (lA F)))) :: GG)))
  refine jj_istore C0 (lv' := [(6, .int (iI u_1)), (5, .int (iI 1)), (4, .int (iI (i : Int))), (3, .ref o), (2, .ref (ad 0)), (1, .ref (ha 0)), (0, .ref b)]) (by decide) rfl dL_law_1250 ?_
  refine jj_aload_n C0 4 rfl dL_law_1252 ?_
  refine jj_callVi C0 (cells' := (cells + 1)) (slots' := (slots + 6)) (cc_X4_thrown hEV  ) (cwV 0 hw (lw_gV hU_865 hU_866 hU_867 hU_66 hU_868) rfl rfl rfl (by decide +kernel) ⟨Nat.le_of_ble_eq_true rfl, Nat.le_of_ble_eq_true rfl⟩) (ci := 5) (q0 := 0) rfl (rfl) rfl rfl (Nat.le_of_ble_eq_true rfl) ⟨by show (cells + 1) + 0 ≤ 601024; omega, by show (slots + 6) + 0 ≤ 7293034; omega⟩ rfl rfl dL_law_1253 ?_
  intro _ hu
  show jj_W _ _ _ _ _ _ _ _ _ _ _ _ _ _ _ _ _ 1256 _ [.int (iI 1)] (wM ad cI cJ cZ 1 td pr up dn dv n K St Ex Am Ov Bj Aj BL AL He Co Ca mo sh co sd Cz Ab be ++ (wH ha cA hA nA ed cI cJ cZ td pr up dn dv rw sd mc n mo sh co Ca Cz K St Ex Am Bi As BL AL He Co ++ ((o, .inl (cJ, 1, .inr (.inl (lA F)))) :: GG)))
  refine jj_iload C0 1 rfl dL_law_1256 ?_
  refine jj_icmp_eq C0 (by omega) (by omega) dL_law_1258 (tgt := 1263) (by decide) (fun c_2 => ?_) (fun c_2 => absurd c_2 (by omega))
  refine jj_iload C0 1 rfl dL_law_1263 ?_
  refine jj_if_ne C0 (by omega) dL_law_1265 (tgt := 1280) (by decide) (fun c_3 => ?_) (fun c_3 => absurd c_3 (by omega))
  refine jj_goto C0 (tgt := 1530) dL_law_1280 (by decide) ?_
  refine jj_toH ?_
  refine jj_lv [2, 3, 4, 5, 6] rfl ?_
  exact kK cA hA nA ed rw F mc GG 1 be Ab td pr up dn dv sd n mo sh co Ca Cz K St Ex Am Ov Bi As Bj Aj BL AL He Co _ _ (f_IV_k hV) (hG) (by omega) (by omega)
set_option maxHeartbeats 4000000 in
set_option maxRecDepth 100000 in
theorem ll_quoted_A (hC9 : f_CC p l s m args meth c9 dC dI A cI cJ cZ cO es mi sa b L xs) (hi : i + 5 ≤ L) (hik : i = 5 * k) (hcs : cells + 8 ≤ 601024 ∧ slots + 80 ≤ 7293034) (hI : f_IV k td n pr up dn dv sd mo sh Ca K St Ex Am Ov Bi As Bj Aj BL AL He Co) (hG : f_LG cO es n ed cA GG) (kK : f_KK p l e s m args below meth c9 dC dI A Q ha ad cI cJ cZ cO o es b i k cells slots) {c : Nat} {a2 : Int} (h1 : (xs (i + 1)).toInt = (c : Int)) (h2 : (xs (i + 2)).toInt = a2) (hr2 : iR a2) (hcn : c < n) (hb : ¬ (0 ≤ a2 ∧ a2 ≤ 3)) : jj_W p l e room_1 s m args below meth c9 (dC, dI) vwCl A 8 cells slots Q 1215 [(4, .int (iI (i : Int))), (3, .ref o), (2, .ref (ad 0)), (1, .ref (ha 0)), (0, .ref b)] [] (wH ha cA hA nA ed cI cJ cZ td pr up dn dv rw sd mc n mo sh co Ca Cz K St Ex Am Bi As BL AL He Co ++ ((o, .inl (cJ, 1, .inr (.inl (lA F)))) :: (GG ++ wM ad cI cJ cZ th td pr up dn dv n K St Ex Am Ov Bj Aj BL AL He Co Ca mo sh co sd Cz Ab be))) := by
  obtain ⟨C0, hl, hX, hbl, hbA, hL⟩ := hC9
  have hw := C0.2.2.2.2.1
  have hEV := hEVW es mi sa
  have hV := hI
  obtain ⟨⟨htd, hn, hpr, hup, hdn, hdv, hsd, hmo, hsh⟩, ⟨hK, hSt, hEx, hAm, hOv, hovs, hexs, hovn⟩, hQ9, ⟨hHe, hsums, hHz⟩, ⟨hCo, hCz⟩, hCa⟩ := hI
  have hQ := hQ9
  obtain ⟨hBi, hAs, hBj, hAj, hBL, hAL, hQt, hQ0, hQn, hQo⟩ := hQ9
  have hED0 : 0 < n → f_ED cA n ed cO (GG ++ wM ad cI cJ cZ th td pr up dn dv n K St Ex Am Ov Bj Aj BL AL He Co Ca mo sh co sd Cz Ab be) := f_LG_ED hG
  have hexs1 : ∀ c, c < n → Ex c ≤ (td : Int) + 10 := fun c hc => (hexs c hc).1
  have hk5 : k ≤ 511 := by omega
  have hHe9 : ∀ j, -999000 ≤ He j ∧ He j ≤ 999000 := fun j => by have := hHe j; omega
  have hHe6 : ∀ j, -1000000 ≤ He j ∧ He j ≤ 1000000 := fun j => by have := hHe j; omega
  have hCa9 : ∀ j, -100000000000000000 ≤ Ca j ∧ Ca j ≤ 100000000000000000 := fun j => by have := hCa j; omega
  refine jj_aload_n C0 3 rfl dL_law_1215 ?_
  refine jj_aload_n C0 4 rfl dL_law_1216 ?_
  refine jj_iload C0 0 rfl dL_law_1217 ?_
  refine jj_iconst C0 dL_law_1219 ?_
  refine jj_iadd C0 dL_law_1220 ?_
  refine jj_sald C0 hX hbl hbA hL (k := (i + 1)) (by omega) (by omega) dL_law_1221 ?_
  refine jj_topi (b := (c : Int)) h1 ?_
  refine jj_aload_n C0 4 rfl dL_law_1222 ?_
  refine jj_iload C0 0 rfl dL_law_1223 ?_
  refine jj_iconst C0 dL_law_1225 ?_
  refine jj_iadd C0 dL_law_1226 ?_
  refine jj_sald C0 hX hbl hbA hL (k := (i + 2)) (by omega) (by omega) dL_law_1227 ?_
  refine jj_topi (b := a2) h2 ?_
  refine jj_aload_n C0 1 rfl dL_law_1228 ?_
  refine jj_callSWi C0 (cells' := cells + 1) (slots' := slots + 6) (jj_weaki (fun A U H h => h.1) (cr_L_quoted_A hl (c := c) (x := a2) hb hr2 hcn hn hED0)) (vx_cwSW 4 hw (lw_gW hU_743 hU_744 hU_59 hU_745) rfl rfl rfl (by decide +kernel) ⟨Nat.le_of_ble_eq_true rfl, Nat.le_of_ble_eq_true rfl⟩) rfl rfl (Nat.le_of_ble_eq_true rfl) ⟨by show cells + 1 ≤ 601024; omega, by show slots + 6 ≤ 7293034; omega⟩ rfl rfl dL_law_1229 ?_
  intro _ hu
  show jj_W _ _ _ _ _ _ _ _ _ _ _ _ _ _ _ _ _ 1232 _ [.int (iI 2)] (wH ha cA hA nA ed cI cJ cZ td pr up dn dv rw sd mc n mo sh co Ca Cz K St Ex Am Bi As BL AL He Co ++ ((o, .inl (cJ, 1, .inr (.inl (lA F)))) :: (GG ++ wM ad cI cJ cZ th td pr up dn dv n K St Ex Am Ov Bj Aj BL AL He Co Ca mo sh co sd Cz Ab be)))
  refine jj_istore C0 (lv' := [(5, .int (iI 2)), (4, .int (iI (i : Int))), (3, .ref o), (2, .ref (ad 0)), (1, .ref (ha 0)), (0, .ref b)]) (by decide) rfl dL_law_1232 ?_
  refine jj_toM ?_
  refine jj_aload_n C0 3 rfl dL_law_1234 ?_
  refine jj_aload_n C0 5 rfl dL_law_1235 ?_
  refine jj_iload C0 1 rfl dL_law_1236 ?_
  refine jj_iconst C0 dL_law_1238 ?_
  refine jj_iadd C0 dL_law_1239 ?_
  refine jj_sald C0 hX hbl hbA hL (k := (i + 1)) (by omega) (by omega) dL_law_1240 ?_
  refine jj_topi (b := (c : Int)) h1 ?_
  refine jj_aload_n C0 5 rfl dL_law_1241 ?_
  refine jj_iload C0 1 rfl dL_law_1242 ?_
  refine jj_iconst C0 dL_law_1244 ?_
  refine jj_iadd C0 dL_law_1245 ?_
  refine jj_sald C0 hX hbl hbA hL (k := (i + 2)) (by omega) (by omega) dL_law_1246 ?_
  refine jj_topi (b := a2) h2 ?_
  refine jj_callVi C0 (cells' := (cells + 1)) (slots' := (slots + 6)) (cb_X4_quoted hEV (z := (c : Int)) (x := a2) (kk := 2) hr2 (by omega) hn (Or.inr ⟨by omega, hb, rfl⟩)) (cwV 2 hw (lw_gV hU_1037 hU_1038 hU_1039 hU_66 hU_1040) rfl rfl rfl (by decide +kernel) ⟨Nat.le_of_ble_eq_true rfl, Nat.le_of_ble_eq_true rfl⟩) (ci := 5) (q0 := 0) rfl (rfl) rfl rfl (Nat.le_of_ble_eq_true rfl) ⟨by show (cells + 1) + 0 ≤ 601024; omega, by show (slots + 6) + 0 ≤ 7293034; omega⟩ rfl rfl dL_law_1247 ?_
  intro u_1 hu
  show jj_W _ _ _ _ _ _ _ _ _ _ _ _ _ _ _ _ _ 1250 _ [.int (iI u_1)] (wM ad cI cJ cZ 2 td pr up dn dv n K St Ex Am Ov Bj Aj BL AL He Co Ca mo sh co sd Cz Ab be ++ (wH ha cA hA nA ed cI cJ cZ td pr up dn dv rw sd mc n mo sh co Ca Cz K St Ex Am Bi As BL AL He Co ++ ((o, .inl (cJ, 1, .inr (.inl (lA F)))) :: GG)))
  refine jj_istore C0 (lv' := [(6, .int (iI u_1)), (5, .int (iI 2)), (4, .int (iI (i : Int))), (3, .ref o), (2, .ref (ad 0)), (1, .ref (ha 0)), (0, .ref b)]) (by decide) rfl dL_law_1250 ?_
  refine jj_aload_n C0 4 rfl dL_law_1252 ?_
  refine jj_callVi C0 (cells' := (cells + 1)) (slots' := (slots + 6)) (cc_X4_thrown hEV  ) (cwV 0 hw (lw_gV hU_865 hU_866 hU_867 hU_66 hU_868) rfl rfl rfl (by decide +kernel) ⟨Nat.le_of_ble_eq_true rfl, Nat.le_of_ble_eq_true rfl⟩) (ci := 5) (q0 := 0) rfl (rfl) rfl rfl (Nat.le_of_ble_eq_true rfl) ⟨by show (cells + 1) + 0 ≤ 601024; omega, by show (slots + 6) + 0 ≤ 7293034; omega⟩ rfl rfl dL_law_1253 ?_
  intro _ hu
  show jj_W _ _ _ _ _ _ _ _ _ _ _ _ _ _ _ _ _ 1256 _ [.int (iI 2)] (wM ad cI cJ cZ 2 td pr up dn dv n K St Ex Am Ov Bj Aj BL AL He Co Ca mo sh co sd Cz Ab be ++ (wH ha cA hA nA ed cI cJ cZ td pr up dn dv rw sd mc n mo sh co Ca Cz K St Ex Am Bi As BL AL He Co ++ ((o, .inl (cJ, 1, .inr (.inl (lA F)))) :: GG)))
  refine jj_iload C0 1 rfl dL_law_1256 ?_
  refine jj_icmp_eq C0 (by omega) (by omega) dL_law_1258 (tgt := 1263) (by decide) (fun c_2 => ?_) (fun c_2 => absurd c_2 (by omega))
  refine jj_iload C0 1 rfl dL_law_1263 ?_
  refine jj_if_ne C0 (by omega) dL_law_1265 (tgt := 1280) (by decide) (fun c_3 => ?_) (fun c_3 => absurd c_3 (by omega))
  refine jj_goto C0 (tgt := 1530) dL_law_1280 (by decide) ?_
  refine jj_toH ?_
  refine jj_lv [2, 3, 4, 5, 6] rfl ?_
  exact kK cA hA nA ed rw F mc GG 2 be Ab td pr up dn dv sd n mo sh co Ca Cz K St Ex Am Ov Bi As Bj Aj BL AL He Co _ _ (f_IV_k hV) (hG) (by omega) (by omega)
set_option maxHeartbeats 4000000 in
set_option maxRecDepth 100000 in
theorem ll_lots (hC9 : f_CC p l s m args meth c9 dC dI A cI cJ cZ cO es mi sa b L xs) (hi : i + 5 ≤ L) (hik : i = 5 * k) (hcs : cells + 8 ≤ 601024 ∧ slots + 80 ≤ 7293034) (hI : f_IV k td n pr up dn dv sd mo sh Ca K St Ex Am Ov Bi As Bj Aj BL AL He Co) (hG : f_LG cO es n ed cA GG) (kK : f_KK p l e s m args below meth c9 dC dI A Q ha ad cI cJ cZ cO o es b i k cells slots) {h5 c : Nat} {a1 : Int} (h1 : (xs (i + 1)).toInt = a1) (h2 : (xs (i + 2)).toInt = (c : Int)) (hzk : (a1 = -1 ∧ h5 = 6) ∨ (a1 = (h5 : Int) ∧ h5 ≤ 5)) (hcn : c < n) : jj_W p l e room_1 s m args below meth c9 (dC, dI) vwCl A 8 cells slots Q 1283 [(4, .int (iI (i : Int))), (3, .ref o), (2, .ref (ad 0)), (1, .ref (ha 0)), (0, .ref b)] [] (wH ha cA hA nA ed cI cJ cZ td pr up dn dv rw sd mc n mo sh co Ca Cz K St Ex Am Bi As BL AL He Co ++ ((o, .inl (cJ, 1, .inr (.inl (lA F)))) :: (GG ++ wM ad cI cJ cZ th td pr up dn dv n K St Ex Am Ov Bj Aj BL AL He Co Ca mo sh co sd Cz Ab be))) := by
  obtain ⟨C0, hl, hX, hbl, hbA, hL⟩ := hC9
  have hw := C0.2.2.2.2.1
  have hEV := hEVW es mi sa
  have hV := hI
  obtain ⟨⟨htd, hn, hpr, hup, hdn, hdv, hsd, hmo, hsh⟩, ⟨hK, hSt, hEx, hAm, hOv, hovs, hexs, hovn⟩, hQ9, ⟨hHe, hsums, hHz⟩, ⟨hCo, hCz⟩, hCa⟩ := hI
  have hQ := hQ9
  obtain ⟨hBi, hAs, hBj, hAj, hBL, hAL, hQt, hQ0, hQn, hQo⟩ := hQ9
  have hED0 : 0 < n → f_ED cA n ed cO (GG ++ wM ad cI cJ cZ th td pr up dn dv n K St Ex Am Ov Bj Aj BL AL He Co Ca mo sh co sd Cz Ab be) := f_LG_ED hG
  have hexs1 : ∀ c, c < n → Ex c ≤ (td : Int) + 10 := fun c hc => (hexs c hc).1
  have hk5 : k ≤ 511 := by omega
  have hHe9 : ∀ j, -999000 ≤ He j ∧ He j ≤ 999000 := fun j => by have := hHe j; omega
  have hHe6 : ∀ j, -1000000 ≤ He j ∧ He j ≤ 1000000 := fun j => by have := hHe j; omega
  have hCa9 : ∀ j, -100000000000000000 ≤ Ca j ∧ Ca j ≤ 100000000000000000 := fun j => by have := hCa j; omega
  have hh9 := hHe6 (7 * c + h5)
  refine jj_aload_n C0 3 rfl dL_law_1283 ?_
  refine jj_aload_n C0 4 rfl dL_law_1284 ?_
  refine jj_iload C0 0 rfl dL_law_1285 ?_
  refine jj_iconst C0 dL_law_1287 ?_
  refine jj_iadd C0 dL_law_1288 ?_
  refine jj_sald C0 hX hbl hbA hL (k := (i + 1)) (by omega) (by omega) dL_law_1289 ?_
  refine jj_topi (b := a1) h1 ?_
  refine jj_aload_n C0 4 rfl dL_law_1290 ?_
  refine jj_iload C0 0 rfl dL_law_1291 ?_
  refine jj_iconst C0 dL_law_1293 ?_
  refine jj_iadd C0 dL_law_1294 ?_
  refine jj_sald C0 hX hbl hbA hL (k := (i + 2)) (by omega) (by omega) dL_law_1295 ?_
  refine jj_topi (b := (c : Int)) h2 ?_
  refine jj_aload_n C0 1 rfl dL_law_1296 ?_
  refine jj_callSWi C0 (cells' := cells) (slots' := slots) (jj_weaki (fun A U H h => h.1) (cw_L_lots hl (z := a1) (c := c) (k := h5) hzk hcn hn hED0 (by omega))) (vx_cwSW 4 hw (lw_gW hU_751 hU_752 hU_59 hU_753) rfl rfl rfl (by decide +kernel) ⟨Nat.le_of_ble_eq_true rfl, Nat.le_of_ble_eq_true rfl⟩) rfl rfl (Nat.le_of_ble_eq_true rfl) ⟨by show cells + 0 ≤ 601024; omega, by show slots + 0 ≤ 7293034; omega⟩ rfl rfl dL_law_1297 ?_
  intro _ hu
  show jj_W _ _ _ _ _ _ _ _ _ _ _ _ _ _ _ _ _ 1300 _ [.int (iI 0)] (wH ha cA hA nA ed cI cJ cZ td pr up dn dv rw sd mc n mo sh co Ca Cz K St Ex Am Bi As BL AL He Co ++ ((o, .inl (cJ, 1, .inr (.inl (lA (va_up F 0 (He (7 * c + h5))))))) :: (GG ++ wM ad cI cJ cZ th td pr up dn dv n K St Ex Am Ov Bj Aj BL AL He Co Ca mo sh co sd Cz Ab be)))
  refine jj_istore C0 (lv' := [(5, .int (iI 0)), (4, .int (iI (i : Int))), (3, .ref o), (2, .ref (ad 0)), (1, .ref (ha 0)), (0, .ref b)]) (by decide) rfl dL_law_1300 ?_
  refine jj_toM ?_
  refine jj_aload_n C0 3 rfl dL_law_1302 ?_
  refine jj_aload_n C0 5 rfl dL_law_1303 ?_
  refine jj_iload C0 1 rfl dL_law_1304 ?_
  refine jj_iconst C0 dL_law_1306 ?_
  refine jj_iadd C0 dL_law_1307 ?_
  refine jj_sald C0 hX hbl hbA hL (k := (i + 1)) (by omega) (by omega) dL_law_1308 ?_
  refine jj_topi (b := a1) h1 ?_
  refine jj_aload_n C0 5 rfl dL_law_1309 ?_
  refine jj_iload C0 1 rfl dL_law_1310 ?_
  refine jj_iconst C0 dL_law_1312 ?_
  refine jj_iadd C0 dL_law_1313 ?_
  refine jj_sald C0 hX hbl hbA hL (k := (i + 2)) (by omega) (by omega) dL_law_1314 ?_
  refine jj_topi (b := (c : Int)) h2 ?_
  refine jj_callVi C0 (cells' := cells) (slots' := slots) (cc_X4_lots hEV (z := a1) (c := c) (k := h5) hzk hcn hn) (cwV 2 hw (lw_gV hU_1042 hU_1043 hU_1044 hU_66 hU_1045) rfl rfl rfl (by decide +kernel) ⟨Nat.le_of_ble_eq_true rfl, Nat.le_of_ble_eq_true rfl⟩) (ci := 5) (q0 := 0) rfl (rfl) rfl rfl (Nat.le_of_ble_eq_true rfl) ⟨by show cells + 0 ≤ 601024; omega, by show slots + 0 ≤ 7293034; omega⟩ rfl rfl dL_law_1315 ?_
  intro _ hu
  show jj_W _ _ _ _ _ _ _ _ _ _ _ _ _ _ _ _ _ 1318 _ [.int (iI (He (7 * c + h5)))] (wM ad cI cJ cZ 0 td pr up dn dv n K St Ex Am Ov Bj Aj BL AL He Co Ca mo sh co sd Cz Ab be ++ (wH ha cA hA nA ed cI cJ cZ td pr up dn dv rw sd mc n mo sh co Ca Cz K St Ex Am Bi As BL AL He Co ++ ((o, .inl (cJ, 1, .inr (.inl (lA (va_up F 0 (He (7 * c + h5))))))) :: GG)))
  refine jj_istore C0 (lv' := [(6, .int (iI (He (7 * c + h5)))), (5, .int (iI 0)), (4, .int (iI (i : Int))), (3, .ref o), (2, .ref (ad 0)), (1, .ref (ha 0)), (0, .ref b)]) (by decide) rfl dL_law_1318 ?_
  refine jj_aload_n C0 4 rfl dL_law_1320 ?_
  refine jj_callVi C0 (cells' := cells) (slots' := slots) (cc_X4_thrown hEV  ) (cwV 0 hw (lw_gV hU_865 hU_866 hU_867 hU_66 hU_868) rfl rfl rfl (by decide +kernel) ⟨Nat.le_of_ble_eq_true rfl, Nat.le_of_ble_eq_true rfl⟩) (ci := 5) (q0 := 0) rfl (rfl) rfl rfl (Nat.le_of_ble_eq_true rfl) ⟨by show cells + 0 ≤ 601024; omega, by show slots + 0 ≤ 7293034; omega⟩ rfl rfl dL_law_1321 ?_
  intro _ hu
  show jj_W _ _ _ _ _ _ _ _ _ _ _ _ _ _ _ _ _ 1324 _ [.int (iI 0)] (wM ad cI cJ cZ 0 td pr up dn dv n K St Ex Am Ov Bj Aj BL AL He Co Ca mo sh co sd Cz Ab be ++ (wH ha cA hA nA ed cI cJ cZ td pr up dn dv rw sd mc n mo sh co Ca Cz K St Ex Am Bi As BL AL He Co ++ ((o, .inl (cJ, 1, .inr (.inl (lA (va_up F 0 (He (7 * c + h5))))))) :: GG)))
  refine jj_iload C0 1 rfl dL_law_1324 ?_
  refine jj_icmp_eq C0 (by omega) (by omega) dL_law_1326 (tgt := 1331) (by decide) (fun c_1 => ?_) (fun c_1 => absurd c_1 (by omega))
  refine jj_iload C0 1 rfl dL_law_1331 ?_
  refine jj_if_ne C0 (by omega) dL_law_1333 (tgt := 1348) (by decide) (fun c_2 => absurd c_2 (by omega)) (fun c_2 => ?_)
  refine jj_toH ?_
  refine jj_aload_n C0 3 rfl dL_law_1336 ?_
  refine jj_iconst C0 dL_law_1337 ?_
  refine jj_lald C0 (q0 := (8 + (3 * n + 0))) (t0 := 1) (f := (va_up F 0 (He (7 * c + h5)))) ((wH_ee (n := n) rfl)) rfl (k := 0) (by omega) (by omega) (by decide) dL_law_1338 ?_
  refine jj_topl (b := (He (7 * c + h5))) (va_up_self _ _ _) ?_
  refine jj_iload C0 0 rfl dL_law_1339 ?_
  refine jj_i2l C0 (by omega) dL_law_1341 ?_
  refine jj_lcmpS C0 dL_law_1342 dL_law_1343 (tgt := 1348) (by decide) ?_
  refine jj_goto C0 (tgt := 1530) dL_law_1348 (by decide) ?_
  refine jj_lv [2, 3, 4, 5, 6] rfl ?_
  exact kK cA hA nA ed rw (va_up F 0 (He (7 * c + h5))) mc GG 0 be Ab td pr up dn dv sd n mo sh co Ca Cz K St Ex Am Ov Bi As Bj Aj BL AL He Co _ _ (f_IV_k hV) (hG) (by omega) (by omega)
set_option maxHeartbeats 4000000 in
set_option maxRecDepth 100000 in
theorem ll_lots_1 (hC9 : f_CC p l s m args meth c9 dC dI A cI cJ cZ cO es mi sa b L xs) (hi : i + 5 ≤ L) (hik : i = 5 * k) (hcs : cells + 8 ≤ 601024 ∧ slots + 80 ≤ 7293034) (hI : f_IV k td n pr up dn dv sd mo sh Ca K St Ex Am Ov Bi As Bj Aj BL AL He Co) (hG : f_LG cO es n ed cA GG) (kK : f_KK p l e s m args below meth c9 dC dI A Q ha ad cI cJ cZ cO o es b i k cells slots) {a1 a2 : Int} (h1 : (xs (i + 1)).toInt = a1) (h2 : (xs (i + 2)).toInt = a2) (hr1 : iR a1) (hr2 : iR a2) (hb : ¬ (-1 ≤ a1 ∧ a1 ≤ 5)) : jj_W p l e room_1 s m args below meth c9 (dC, dI) vwCl A 8 cells slots Q 1283 [(4, .int (iI (i : Int))), (3, .ref o), (2, .ref (ad 0)), (1, .ref (ha 0)), (0, .ref b)] [] (wH ha cA hA nA ed cI cJ cZ td pr up dn dv rw sd mc n mo sh co Ca Cz K St Ex Am Bi As BL AL He Co ++ ((o, .inl (cJ, 1, .inr (.inl (lA F)))) :: (GG ++ wM ad cI cJ cZ th td pr up dn dv n K St Ex Am Ov Bj Aj BL AL He Co Ca mo sh co sd Cz Ab be))) := by
  obtain ⟨C0, hl, hX, hbl, hbA, hL⟩ := hC9
  have hw := C0.2.2.2.2.1
  have hEV := hEVW es mi sa
  have hV := hI
  obtain ⟨⟨htd, hn, hpr, hup, hdn, hdv, hsd, hmo, hsh⟩, ⟨hK, hSt, hEx, hAm, hOv, hovs, hexs, hovn⟩, hQ9, ⟨hHe, hsums, hHz⟩, ⟨hCo, hCz⟩, hCa⟩ := hI
  have hQ := hQ9
  obtain ⟨hBi, hAs, hBj, hAj, hBL, hAL, hQt, hQ0, hQn, hQo⟩ := hQ9
  have hED0 : 0 < n → f_ED cA n ed cO (GG ++ wM ad cI cJ cZ th td pr up dn dv n K St Ex Am Ov Bj Aj BL AL He Co Ca mo sh co sd Cz Ab be) := f_LG_ED hG
  have hexs1 : ∀ c, c < n → Ex c ≤ (td : Int) + 10 := fun c hc => (hexs c hc).1
  have hk5 : k ≤ 511 := by omega
  have hHe9 : ∀ j, -999000 ≤ He j ∧ He j ≤ 999000 := fun j => by have := hHe j; omega
  have hHe6 : ∀ j, -1000000 ≤ He j ∧ He j ≤ 1000000 := fun j => by have := hHe j; omega
  have hCa9 : ∀ j, -100000000000000000 ≤ Ca j ∧ Ca j ≤ 100000000000000000 := fun j => by have := hCa j; omega
  refine jj_aload_n C0 3 rfl dL_law_1283 ?_
  refine jj_aload_n C0 4 rfl dL_law_1284 ?_
  refine jj_iload C0 0 rfl dL_law_1285 ?_
  refine jj_iconst C0 dL_law_1287 ?_
  refine jj_iadd C0 dL_law_1288 ?_
  refine jj_sald C0 hX hbl hbA hL (k := (i + 1)) (by omega) (by omega) dL_law_1289 ?_
  refine jj_topi (b := a1) h1 ?_
  refine jj_aload_n C0 4 rfl dL_law_1290 ?_
  refine jj_iload C0 0 rfl dL_law_1291 ?_
  refine jj_iconst C0 dL_law_1293 ?_
  refine jj_iadd C0 dL_law_1294 ?_
  refine jj_sald C0 hX hbl hbA hL (k := (i + 2)) (by omega) (by omega) dL_law_1295 ?_
  refine jj_topi (b := a2) h2 ?_
  refine jj_aload_n C0 1 rfl dL_law_1296 ?_
  refine jj_callSWi C0 (cells' := cells + 1) (slots' := slots + 6) (jj_weaki (fun A U H h => h.1) (cr_L_lots_1 hl (w := a1) (z := a2) hb hr1 hED0)) (vx_cwSW 4 hw (lw_gW hU_751 hU_752 hU_59 hU_753) rfl rfl rfl (by decide +kernel) ⟨Nat.le_of_ble_eq_true rfl, Nat.le_of_ble_eq_true rfl⟩) rfl rfl (Nat.le_of_ble_eq_true rfl) ⟨by show cells + 1 ≤ 601024; omega, by show slots + 6 ≤ 7293034; omega⟩ rfl rfl dL_law_1297 ?_
  intro _ hu
  show jj_W _ _ _ _ _ _ _ _ _ _ _ _ _ _ _ _ _ 1300 _ [.int (iI 1)] (wH ha cA hA nA ed cI cJ cZ td pr up dn dv rw sd mc n mo sh co Ca Cz K St Ex Am Bi As BL AL He Co ++ ((o, .inl (cJ, 1, .inr (.inl (lA F)))) :: (GG ++ wM ad cI cJ cZ th td pr up dn dv n K St Ex Am Ov Bj Aj BL AL He Co Ca mo sh co sd Cz Ab be)))
  refine jj_istore C0 (lv' := [(5, .int (iI 1)), (4, .int (iI (i : Int))), (3, .ref o), (2, .ref (ad 0)), (1, .ref (ha 0)), (0, .ref b)]) (by decide) rfl dL_law_1300 ?_
  refine jj_toM ?_
  refine jj_aload_n C0 3 rfl dL_law_1302 ?_
  refine jj_aload_n C0 5 rfl dL_law_1303 ?_
  refine jj_iload C0 1 rfl dL_law_1304 ?_
  refine jj_iconst C0 dL_law_1306 ?_
  refine jj_iadd C0 dL_law_1307 ?_
  refine jj_sald C0 hX hbl hbA hL (k := (i + 1)) (by omega) (by omega) dL_law_1308 ?_
  refine jj_topi (b := a1) h1 ?_
  refine jj_aload_n C0 5 rfl dL_law_1309 ?_
  refine jj_iload C0 1 rfl dL_law_1310 ?_
  refine jj_iconst C0 dL_law_1312 ?_
  refine jj_iadd C0 dL_law_1313 ?_
  refine jj_sald C0 hX hbl hbA hL (k := (i + 2)) (by omega) (by omega) dL_law_1314 ?_
  refine jj_topi (b := a2) h2 ?_
  refine jj_callVi C0 (cells' := (cells + 1)) (slots' := (slots + 6)) (cb_X4_lots hEV (x := a1) (z := a2) (kk := 1) hr1 hr2 hn (⟨by omega, rfl⟩)) (cwV 2 hw (lw_gV hU_1042 hU_1043 hU_1044 hU_66 hU_1045) rfl rfl rfl (by decide +kernel) ⟨Nat.le_of_ble_eq_true rfl, Nat.le_of_ble_eq_true rfl⟩) (ci := 5) (q0 := 0) rfl (rfl) rfl rfl (Nat.le_of_ble_eq_true rfl) ⟨by show (cells + 1) + 0 ≤ 601024; omega, by show (slots + 6) + 0 ≤ 7293034; omega⟩ rfl rfl dL_law_1315 ?_
  intro u_1 hu
  show jj_W _ _ _ _ _ _ _ _ _ _ _ _ _ _ _ _ _ 1318 _ [.int (iI u_1)] (wM ad cI cJ cZ 1 td pr up dn dv n K St Ex Am Ov Bj Aj BL AL He Co Ca mo sh co sd Cz Ab be ++ (wH ha cA hA nA ed cI cJ cZ td pr up dn dv rw sd mc n mo sh co Ca Cz K St Ex Am Bi As BL AL He Co ++ ((o, .inl (cJ, 1, .inr (.inl (lA F)))) :: GG)))
  refine jj_istore C0 (lv' := [(6, .int (iI u_1)), (5, .int (iI 1)), (4, .int (iI (i : Int))), (3, .ref o), (2, .ref (ad 0)), (1, .ref (ha 0)), (0, .ref b)]) (by decide) rfl dL_law_1318 ?_
  refine jj_aload_n C0 4 rfl dL_law_1320 ?_
  refine jj_callVi C0 (cells' := (cells + 1)) (slots' := (slots + 6)) (cc_X4_thrown hEV  ) (cwV 0 hw (lw_gV hU_865 hU_866 hU_867 hU_66 hU_868) rfl rfl rfl (by decide +kernel) ⟨Nat.le_of_ble_eq_true rfl, Nat.le_of_ble_eq_true rfl⟩) (ci := 5) (q0 := 0) rfl (rfl) rfl rfl (Nat.le_of_ble_eq_true rfl) ⟨by show (cells + 1) + 0 ≤ 601024; omega, by show (slots + 6) + 0 ≤ 7293034; omega⟩ rfl rfl dL_law_1321 ?_
  intro _ hu
  show jj_W _ _ _ _ _ _ _ _ _ _ _ _ _ _ _ _ _ 1324 _ [.int (iI 1)] (wM ad cI cJ cZ 1 td pr up dn dv n K St Ex Am Ov Bj Aj BL AL He Co Ca mo sh co sd Cz Ab be ++ (wH ha cA hA nA ed cI cJ cZ td pr up dn dv rw sd mc n mo sh co Ca Cz K St Ex Am Bi As BL AL He Co ++ ((o, .inl (cJ, 1, .inr (.inl (lA F)))) :: GG)))
  refine jj_iload C0 1 rfl dL_law_1324 ?_
  refine jj_icmp_eq C0 (by omega) (by omega) dL_law_1326 (tgt := 1331) (by decide) (fun c_2 => ?_) (fun c_2 => absurd c_2 (by omega))
  refine jj_iload C0 1 rfl dL_law_1331 ?_
  refine jj_if_ne C0 (by omega) dL_law_1333 (tgt := 1348) (by decide) (fun c_3 => ?_) (fun c_3 => absurd c_3 (by omega))
  refine jj_goto C0 (tgt := 1530) dL_law_1348 (by decide) ?_
  refine jj_toH ?_
  refine jj_lv [2, 3, 4, 5, 6] rfl ?_
  exact kK cA hA nA ed rw F mc GG 1 be Ab td pr up dn dv sd n mo sh co Ca Cz K St Ex Am Ov Bi As Bj Aj BL AL He Co _ _ (f_IV_k hV) (hG) (by omega) (by omega)
set_option maxHeartbeats 4000000 in
set_option maxRecDepth 100000 in
theorem ll_lots_2 (hC9 : f_CC p l s m args meth c9 dC dI A cI cJ cZ cO es mi sa b L xs) (hi : i + 5 ≤ L) (hik : i = 5 * k) (hcs : cells + 8 ≤ 601024 ∧ slots + 80 ≤ 7293034) (hI : f_IV k td n pr up dn dv sd mo sh Ca K St Ex Am Ov Bi As Bj Aj BL AL He Co) (hG : f_LG cO es n ed cA GG) (kK : f_KK p l e s m args below meth c9 dC dI A Q ha ad cI cJ cZ cO o es b i k cells slots) {h5 : Nat} {a1 a2 : Int} (h1 : (xs (i + 1)).toInt = a1) (h2 : (xs (i + 2)).toInt = a2) (hr1 : iR a1) (hr2 : iR a2) (hzk : (a1 = -1 ∧ h5 = 6) ∨ (a1 = (h5 : Int) ∧ h5 ≤ 5)) (hb : ¬ (0 ≤ a2 ∧ a2 < (n : Int))) : jj_W p l e room_1 s m args below meth c9 (dC, dI) vwCl A 8 cells slots Q 1283 [(4, .int (iI (i : Int))), (3, .ref o), (2, .ref (ad 0)), (1, .ref (ha 0)), (0, .ref b)] [] (wH ha cA hA nA ed cI cJ cZ td pr up dn dv rw sd mc n mo sh co Ca Cz K St Ex Am Bi As BL AL He Co ++ ((o, .inl (cJ, 1, .inr (.inl (lA F)))) :: (GG ++ wM ad cI cJ cZ th td pr up dn dv n K St Ex Am Ov Bj Aj BL AL He Co Ca mo sh co sd Cz Ab be))) := by
  obtain ⟨C0, hl, hX, hbl, hbA, hL⟩ := hC9
  have hw := C0.2.2.2.2.1
  have hEV := hEVW es mi sa
  have hV := hI
  obtain ⟨⟨htd, hn, hpr, hup, hdn, hdv, hsd, hmo, hsh⟩, ⟨hK, hSt, hEx, hAm, hOv, hovs, hexs, hovn⟩, hQ9, ⟨hHe, hsums, hHz⟩, ⟨hCo, hCz⟩, hCa⟩ := hI
  have hQ := hQ9
  obtain ⟨hBi, hAs, hBj, hAj, hBL, hAL, hQt, hQ0, hQn, hQo⟩ := hQ9
  have hED0 : 0 < n → f_ED cA n ed cO (GG ++ wM ad cI cJ cZ th td pr up dn dv n K St Ex Am Ov Bj Aj BL AL He Co Ca mo sh co sd Cz Ab be) := f_LG_ED hG
  have hexs1 : ∀ c, c < n → Ex c ≤ (td : Int) + 10 := fun c hc => (hexs c hc).1
  have hk5 : k ≤ 511 := by omega
  have hHe9 : ∀ j, -999000 ≤ He j ∧ He j ≤ 999000 := fun j => by have := hHe j; omega
  have hHe6 : ∀ j, -1000000 ≤ He j ∧ He j ≤ 1000000 := fun j => by have := hHe j; omega
  have hCa9 : ∀ j, -100000000000000000 ≤ Ca j ∧ Ca j ≤ 100000000000000000 := fun j => by have := hCa j; omega
  refine jj_aload_n C0 3 rfl dL_law_1283 ?_
  refine jj_aload_n C0 4 rfl dL_law_1284 ?_
  refine jj_iload C0 0 rfl dL_law_1285 ?_
  refine jj_iconst C0 dL_law_1287 ?_
  refine jj_iadd C0 dL_law_1288 ?_
  refine jj_sald C0 hX hbl hbA hL (k := (i + 1)) (by omega) (by omega) dL_law_1289 ?_
  refine jj_topi (b := a1) h1 ?_
  refine jj_aload_n C0 4 rfl dL_law_1290 ?_
  refine jj_iload C0 0 rfl dL_law_1291 ?_
  refine jj_iconst C0 dL_law_1293 ?_
  refine jj_iadd C0 dL_law_1294 ?_
  refine jj_sald C0 hX hbl hbA hL (k := (i + 2)) (by omega) (by omega) dL_law_1295 ?_
  refine jj_topi (b := a2) h2 ?_
  refine jj_aload_n C0 1 rfl dL_law_1296 ?_
  refine jj_callSWi C0 (cells' := cells + 1) (slots' := slots + 6) (jj_weaki (fun A U H h => h.1) (cr_L_lots_2 hl (w := a1) (z := a2) (k := h5) hb hzk hr2 hn hED0)) (vx_cwSW 4 hw (lw_gW hU_751 hU_752 hU_59 hU_753) rfl rfl rfl (by decide +kernel) ⟨Nat.le_of_ble_eq_true rfl, Nat.le_of_ble_eq_true rfl⟩) rfl rfl (Nat.le_of_ble_eq_true rfl) ⟨by show cells + 1 ≤ 601024; omega, by show slots + 6 ≤ 7293034; omega⟩ rfl rfl dL_law_1297 ?_
  intro _ hu
  show jj_W _ _ _ _ _ _ _ _ _ _ _ _ _ _ _ _ _ 1300 _ [.int (iI 1)] (wH ha cA hA nA ed cI cJ cZ td pr up dn dv rw sd mc n mo sh co Ca Cz K St Ex Am Bi As BL AL He Co ++ ((o, .inl (cJ, 1, .inr (.inl (lA F)))) :: (GG ++ wM ad cI cJ cZ th td pr up dn dv n K St Ex Am Ov Bj Aj BL AL He Co Ca mo sh co sd Cz Ab be)))
  refine jj_istore C0 (lv' := [(5, .int (iI 1)), (4, .int (iI (i : Int))), (3, .ref o), (2, .ref (ad 0)), (1, .ref (ha 0)), (0, .ref b)]) (by decide) rfl dL_law_1300 ?_
  refine jj_toM ?_
  refine jj_aload_n C0 3 rfl dL_law_1302 ?_
  refine jj_aload_n C0 5 rfl dL_law_1303 ?_
  refine jj_iload C0 1 rfl dL_law_1304 ?_
  refine jj_iconst C0 dL_law_1306 ?_
  refine jj_iadd C0 dL_law_1307 ?_
  refine jj_sald C0 hX hbl hbA hL (k := (i + 1)) (by omega) (by omega) dL_law_1308 ?_
  refine jj_topi (b := a1) h1 ?_
  refine jj_aload_n C0 5 rfl dL_law_1309 ?_
  refine jj_iload C0 1 rfl dL_law_1310 ?_
  refine jj_iconst C0 dL_law_1312 ?_
  refine jj_iadd C0 dL_law_1313 ?_
  refine jj_sald C0 hX hbl hbA hL (k := (i + 2)) (by omega) (by omega) dL_law_1314 ?_
  refine jj_topi (b := a2) h2 ?_
  refine jj_callVi C0 (cells' := (cells + 1)) (slots' := (slots + 6)) (cb_X4_lots hEV (x := a1) (z := a2) (kk := 1) hr1 hr2 hn (⟨by omega, rfl⟩)) (cwV 2 hw (lw_gV hU_1042 hU_1043 hU_1044 hU_66 hU_1045) rfl rfl rfl (by decide +kernel) ⟨Nat.le_of_ble_eq_true rfl, Nat.le_of_ble_eq_true rfl⟩) (ci := 5) (q0 := 0) rfl (rfl) rfl rfl (Nat.le_of_ble_eq_true rfl) ⟨by show (cells + 1) + 0 ≤ 601024; omega, by show (slots + 6) + 0 ≤ 7293034; omega⟩ rfl rfl dL_law_1315 ?_
  intro u_1 hu
  show jj_W _ _ _ _ _ _ _ _ _ _ _ _ _ _ _ _ _ 1318 _ [.int (iI u_1)] (wM ad cI cJ cZ 1 td pr up dn dv n K St Ex Am Ov Bj Aj BL AL He Co Ca mo sh co sd Cz Ab be ++ (wH ha cA hA nA ed cI cJ cZ td pr up dn dv rw sd mc n mo sh co Ca Cz K St Ex Am Bi As BL AL He Co ++ ((o, .inl (cJ, 1, .inr (.inl (lA F)))) :: GG)))
  refine jj_istore C0 (lv' := [(6, .int (iI u_1)), (5, .int (iI 1)), (4, .int (iI (i : Int))), (3, .ref o), (2, .ref (ad 0)), (1, .ref (ha 0)), (0, .ref b)]) (by decide) rfl dL_law_1318 ?_
  refine jj_aload_n C0 4 rfl dL_law_1320 ?_
  refine jj_callVi C0 (cells' := (cells + 1)) (slots' := (slots + 6)) (cc_X4_thrown hEV  ) (cwV 0 hw (lw_gV hU_865 hU_866 hU_867 hU_66 hU_868) rfl rfl rfl (by decide +kernel) ⟨Nat.le_of_ble_eq_true rfl, Nat.le_of_ble_eq_true rfl⟩) (ci := 5) (q0 := 0) rfl (rfl) rfl rfl (Nat.le_of_ble_eq_true rfl) ⟨by show (cells + 1) + 0 ≤ 601024; omega, by show (slots + 6) + 0 ≤ 7293034; omega⟩ rfl rfl dL_law_1321 ?_
  intro _ hu
  show jj_W _ _ _ _ _ _ _ _ _ _ _ _ _ _ _ _ _ 1324 _ [.int (iI 1)] (wM ad cI cJ cZ 1 td pr up dn dv n K St Ex Am Ov Bj Aj BL AL He Co Ca mo sh co sd Cz Ab be ++ (wH ha cA hA nA ed cI cJ cZ td pr up dn dv rw sd mc n mo sh co Ca Cz K St Ex Am Bi As BL AL He Co ++ ((o, .inl (cJ, 1, .inr (.inl (lA F)))) :: GG)))
  refine jj_iload C0 1 rfl dL_law_1324 ?_
  refine jj_icmp_eq C0 (by omega) (by omega) dL_law_1326 (tgt := 1331) (by decide) (fun c_2 => ?_) (fun c_2 => absurd c_2 (by omega))
  refine jj_iload C0 1 rfl dL_law_1331 ?_
  refine jj_if_ne C0 (by omega) dL_law_1333 (tgt := 1348) (by decide) (fun c_3 => ?_) (fun c_3 => absurd c_3 (by omega))
  refine jj_goto C0 (tgt := 1530) dL_law_1348 (by decide) ?_
  refine jj_toH ?_
  refine jj_lv [2, 3, 4, 5, 6] rfl ?_
  exact kK cA hA nA ed rw F mc GG 1 be Ab td pr up dn dv sd n mo sh co Ca Cz K St Ex Am Ov Bi As Bj Aj BL AL He Co _ _ (f_IV_k hV) (hG) (by omega) (by omega)
set_option maxHeartbeats 4000000 in
set_option maxRecDepth 100000 in
theorem ll_cash (hC9 : f_CC p l s m args meth c9 dC dI A cI cJ cZ cO es mi sa b L xs) (hi : i + 5 ≤ L) (hik : i = 5 * k) (hcs : cells + 8 ≤ 601024 ∧ slots + 80 ≤ 7293034) (hI : f_IV k td n pr up dn dv sd mo sh Ca K St Ex Am Ov Bi As Bj Aj BL AL He Co) (hG : f_LG cO es n ed cA GG) (kK : f_KK p l e s m args below meth c9 dC dI A Q ha ad cI cJ cZ cO o es b i k cells slots) {h5 : Nat} {a1 : Int} (h1 : (xs (i + 1)).toInt = a1) (hzk : (a1 = -1 ∧ h5 = 6) ∨ (a1 = (h5 : Int) ∧ h5 ≤ 5)) : jj_W p l e room_1 s m args below meth c9 (dC, dI) vwCl A 8 cells slots Q 1351 [(4, .int (iI (i : Int))), (3, .ref o), (2, .ref (ad 0)), (1, .ref (ha 0)), (0, .ref b)] [] (wH ha cA hA nA ed cI cJ cZ td pr up dn dv rw sd mc n mo sh co Ca Cz K St Ex Am Bi As BL AL He Co ++ ((o, .inl (cJ, 1, .inr (.inl (lA F)))) :: (GG ++ wM ad cI cJ cZ th td pr up dn dv n K St Ex Am Ov Bj Aj BL AL He Co Ca mo sh co sd Cz Ab be))) := by
  obtain ⟨C0, hl, hX, hbl, hbA, hL⟩ := hC9
  have hw := C0.2.2.2.2.1
  have hEV := hEVW es mi sa
  have hV := hI
  obtain ⟨⟨htd, hn, hpr, hup, hdn, hdv, hsd, hmo, hsh⟩, ⟨hK, hSt, hEx, hAm, hOv, hovs, hexs, hovn⟩, hQ9, ⟨hHe, hsums, hHz⟩, ⟨hCo, hCz⟩, hCa⟩ := hI
  have hQ := hQ9
  obtain ⟨hBi, hAs, hBj, hAj, hBL, hAL, hQt, hQ0, hQn, hQo⟩ := hQ9
  have hED0 : 0 < n → f_ED cA n ed cO (GG ++ wM ad cI cJ cZ th td pr up dn dv n K St Ex Am Ov Bj Aj BL AL He Co Ca mo sh co sd Cz Ab be) := f_LG_ED hG
  have hexs1 : ∀ c, c < n → Ex c ≤ (td : Int) + 10 := fun c hc => (hexs c hc).1
  have hk5 : k ≤ 511 := by omega
  have hHe9 : ∀ j, -999000 ≤ He j ∧ He j ≤ 999000 := fun j => by have := hHe j; omega
  have hHe6 : ∀ j, -1000000 ≤ He j ∧ He j ≤ 1000000 := fun j => by have := hHe j; omega
  have hCa9 : ∀ j, -100000000000000000 ≤ Ca j ∧ Ca j ≤ 100000000000000000 := fun j => by have := hCa j; omega
  refine jj_aload_n C0 3 rfl dL_law_1351 ?_
  refine jj_aload_n C0 4 rfl dL_law_1352 ?_
  refine jj_iload C0 0 rfl dL_law_1353 ?_
  refine jj_iconst C0 dL_law_1355 ?_
  refine jj_iadd C0 dL_law_1356 ?_
  refine jj_sald C0 hX hbl hbA hL (k := (i + 1)) (by omega) (by omega) dL_law_1357 ?_
  refine jj_topi (b := a1) h1 ?_
  refine jj_aload_n C0 1 rfl dL_law_1358 ?_
  refine jj_callSWi C0 (cells' := cells) (slots' := slots) (jj_weaki (fun A U H h => h.1) (cw_L_cash hl (z := a1) (k := h5) hzk hED0)) (vx_cwSW 3 hw (lw_gW hU_758 hU_759 hU_59 hU_760) rfl rfl rfl (by decide +kernel) ⟨Nat.le_of_ble_eq_true rfl, Nat.le_of_ble_eq_true rfl⟩) rfl rfl (Nat.le_of_ble_eq_true rfl) ⟨by show cells + 0 ≤ 601024; omega, by show slots + 0 ≤ 7293034; omega⟩ rfl rfl dL_law_1359 ?_
  intro _ hu
  show jj_W _ _ _ _ _ _ _ _ _ _ _ _ _ _ _ _ _ 1362 _ [.int (iI 0)] (wH ha cA hA nA ed cI cJ cZ td pr up dn dv rw sd mc n mo sh co Ca Cz K St Ex Am Bi As BL AL He Co ++ ((o, .inl (cJ, 1, .inr (.inl (lA (va_up F 0 (Ca h5)))))) :: (GG ++ wM ad cI cJ cZ th td pr up dn dv n K St Ex Am Ov Bj Aj BL AL He Co Ca mo sh co sd Cz Ab be)))
  refine jj_istore C0 (lv' := [(5, .int (iI 0)), (4, .int (iI (i : Int))), (3, .ref o), (2, .ref (ad 0)), (1, .ref (ha 0)), (0, .ref b)]) (by decide) rfl dL_law_1362 ?_
  refine jj_toM ?_
  refine jj_aload_n C0 3 rfl dL_law_1364 ?_
  refine jj_aload_n C0 5 rfl dL_law_1365 ?_
  refine jj_iload C0 1 rfl dL_law_1366 ?_
  refine jj_iconst C0 dL_law_1368 ?_
  refine jj_iadd C0 dL_law_1369 ?_
  refine jj_sald C0 hX hbl hbA hL (k := (i + 1)) (by omega) (by omega) dL_law_1370 ?_
  refine jj_topi (b := a1) h1 ?_
  refine jj_callVl C0 (cells' := cells) (slots' := slots) (cc_X4_cash hEV (z := a1) (k := h5) hzk) (cwV 1 hw (lw_gV hU_1046 hU_1047 hU_1048 hU_66 hU_1049) rfl rfl rfl (by decide +kernel) ⟨Nat.le_of_ble_eq_true rfl, Nat.le_of_ble_eq_true rfl⟩) (ci := 5) (q0 := 0) rfl (rfl) rfl rfl (Nat.le_of_ble_eq_true rfl) ⟨by show cells + 0 ≤ 601024; omega, by show slots + 0 ≤ 7293034; omega⟩ rfl rfl dL_law_1371 ?_
  intro _ hu
  show jj_W _ _ _ _ _ _ _ _ _ _ _ _ _ _ _ _ _ 1374 _ [.long (lI (Ca h5))] (wM ad cI cJ cZ 0 td pr up dn dv n K St Ex Am Ov Bj Aj BL AL He Co Ca mo sh co sd Cz Ab be ++ (wH ha cA hA nA ed cI cJ cZ td pr up dn dv rw sd mc n mo sh co Ca Cz K St Ex Am Bi As BL AL He Co ++ ((o, .inl (cJ, 1, .inr (.inl (lA (va_up F 0 (Ca h5)))))) :: GG)))
  refine jj_lstore C0 (lv' := [(6, .long (lI (Ca h5))), (5, .int (iI 0)), (4, .int (iI (i : Int))), (3, .ref o), (2, .ref (ad 0)), (1, .ref (ha 0)), (0, .ref b)]) (by decide) rfl dL_law_1374 ?_
  refine jj_aload_n C0 4 rfl dL_law_1376 ?_
  refine jj_callVi C0 (cells' := cells) (slots' := slots) (cc_X4_thrown hEV  ) (cwV 0 hw (lw_gV hU_865 hU_866 hU_867 hU_66 hU_868) rfl rfl rfl (by decide +kernel) ⟨Nat.le_of_ble_eq_true rfl, Nat.le_of_ble_eq_true rfl⟩) (ci := 5) (q0 := 0) rfl (rfl) rfl rfl (Nat.le_of_ble_eq_true rfl) ⟨by show cells + 0 ≤ 601024; omega, by show slots + 0 ≤ 7293034; omega⟩ rfl rfl dL_law_1377 ?_
  intro _ hu
  show jj_W _ _ _ _ _ _ _ _ _ _ _ _ _ _ _ _ _ 1380 _ [.int (iI 0)] (wM ad cI cJ cZ 0 td pr up dn dv n K St Ex Am Ov Bj Aj BL AL He Co Ca mo sh co sd Cz Ab be ++ (wH ha cA hA nA ed cI cJ cZ td pr up dn dv rw sd mc n mo sh co Ca Cz K St Ex Am Bi As BL AL He Co ++ ((o, .inl (cJ, 1, .inr (.inl (lA (va_up F 0 (Ca h5)))))) :: GG)))
  refine jj_iload C0 1 rfl dL_law_1380 ?_
  refine jj_icmp_eq C0 (by omega) (by omega) dL_law_1382 (tgt := 1387) (by decide) (fun c_1 => ?_) (fun c_1 => absurd c_1 (by omega))
  refine jj_iload C0 1 rfl dL_law_1387 ?_
  refine jj_if_ne C0 (by omega) dL_law_1389 (tgt := 1403) (by decide) (fun c_2 => absurd c_2 (by omega)) (fun c_2 => ?_)
  refine jj_toH ?_
  refine jj_aload_n C0 3 rfl dL_law_1392 ?_
  refine jj_iconst C0 dL_law_1393 ?_
  refine jj_lald C0 (q0 := (8 + (3 * n + 0))) (t0 := 1) (f := (va_up F 0 (Ca h5))) ((wH_ee (n := n) rfl)) rfl (k := 0) (by omega) (by omega) (by decide) dL_law_1394 ?_
  refine jj_topl (b := (Ca h5)) (va_up_self _ _ _) ?_
  refine jj_lload C0 0 rfl dL_law_1395 ?_
  refine jj_lcmpS C0 dL_law_1397 dL_law_1398 (tgt := 1403) (by decide) ?_
  refine jj_goto C0 (tgt := 1530) dL_law_1403 (by decide) ?_
  refine jj_lv [2, 3, 4, 5, 6] rfl ?_
  exact kK cA hA nA ed rw (va_up F 0 (Ca h5)) mc GG 0 be Ab td pr up dn dv sd n mo sh co Ca Cz K St Ex Am Ov Bi As Bj Aj BL AL He Co _ _ (f_IV_k hV) (hG) (by omega) (by omega)
set_option maxHeartbeats 4000000 in
set_option maxRecDepth 100000 in
theorem ll_cash_r (hC9 : f_CC p l s m args meth c9 dC dI A cI cJ cZ cO es mi sa b L xs) (hi : i + 5 ≤ L) (hik : i = 5 * k) (hcs : cells + 8 ≤ 601024 ∧ slots + 80 ≤ 7293034) (hI : f_IV k td n pr up dn dv sd mo sh Ca K St Ex Am Ov Bi As Bj Aj BL AL He Co) (hG : f_LG cO es n ed cA GG) (kK : f_KK p l e s m args below meth c9 dC dI A Q ha ad cI cJ cZ cO o es b i k cells slots) {a1 : Int} (h1 : (xs (i + 1)).toInt = a1) (hr1 : iR a1) (hb : ¬ (-1 ≤ a1 ∧ a1 ≤ 5)) : jj_W p l e room_1 s m args below meth c9 (dC, dI) vwCl A 8 cells slots Q 1351 [(4, .int (iI (i : Int))), (3, .ref o), (2, .ref (ad 0)), (1, .ref (ha 0)), (0, .ref b)] [] (wH ha cA hA nA ed cI cJ cZ td pr up dn dv rw sd mc n mo sh co Ca Cz K St Ex Am Bi As BL AL He Co ++ ((o, .inl (cJ, 1, .inr (.inl (lA F)))) :: (GG ++ wM ad cI cJ cZ th td pr up dn dv n K St Ex Am Ov Bj Aj BL AL He Co Ca mo sh co sd Cz Ab be))) := by
  obtain ⟨C0, hl, hX, hbl, hbA, hL⟩ := hC9
  have hw := C0.2.2.2.2.1
  have hEV := hEVW es mi sa
  have hV := hI
  obtain ⟨⟨htd, hn, hpr, hup, hdn, hdv, hsd, hmo, hsh⟩, ⟨hK, hSt, hEx, hAm, hOv, hovs, hexs, hovn⟩, hQ9, ⟨hHe, hsums, hHz⟩, ⟨hCo, hCz⟩, hCa⟩ := hI
  have hQ := hQ9
  obtain ⟨hBi, hAs, hBj, hAj, hBL, hAL, hQt, hQ0, hQn, hQo⟩ := hQ9
  have hED0 : 0 < n → f_ED cA n ed cO (GG ++ wM ad cI cJ cZ th td pr up dn dv n K St Ex Am Ov Bj Aj BL AL He Co Ca mo sh co sd Cz Ab be) := f_LG_ED hG
  have hexs1 : ∀ c, c < n → Ex c ≤ (td : Int) + 10 := fun c hc => (hexs c hc).1
  have hk5 : k ≤ 511 := by omega
  have hHe9 : ∀ j, -999000 ≤ He j ∧ He j ≤ 999000 := fun j => by have := hHe j; omega
  have hHe6 : ∀ j, -1000000 ≤ He j ∧ He j ≤ 1000000 := fun j => by have := hHe j; omega
  have hCa9 : ∀ j, -100000000000000000 ≤ Ca j ∧ Ca j ≤ 100000000000000000 := fun j => by have := hCa j; omega
  refine jj_aload_n C0 3 rfl dL_law_1351 ?_
  refine jj_aload_n C0 4 rfl dL_law_1352 ?_
  refine jj_iload C0 0 rfl dL_law_1353 ?_
  refine jj_iconst C0 dL_law_1355 ?_
  refine jj_iadd C0 dL_law_1356 ?_
  refine jj_sald C0 hX hbl hbA hL (k := (i + 1)) (by omega) (by omega) dL_law_1357 ?_
  refine jj_topi (b := a1) h1 ?_
  refine jj_aload_n C0 1 rfl dL_law_1358 ?_
  refine jj_callSWi C0 (cells' := cells + 1) (slots' := slots + 6) (jj_weaki (fun A U H h => h.1) (cr_L_cash hl (w := a1) hb hr1 hED0)) (vx_cwSW 3 hw (lw_gW hU_758 hU_759 hU_59 hU_760) rfl rfl rfl (by decide +kernel) ⟨Nat.le_of_ble_eq_true rfl, Nat.le_of_ble_eq_true rfl⟩) rfl rfl (Nat.le_of_ble_eq_true rfl) ⟨by show cells + 1 ≤ 601024; omega, by show slots + 6 ≤ 7293034; omega⟩ rfl rfl dL_law_1359 ?_
  intro _ hu
  show jj_W _ _ _ _ _ _ _ _ _ _ _ _ _ _ _ _ _ 1362 _ [.int (iI 1)] (wH ha cA hA nA ed cI cJ cZ td pr up dn dv rw sd mc n mo sh co Ca Cz K St Ex Am Bi As BL AL He Co ++ ((o, .inl (cJ, 1, .inr (.inl (lA F)))) :: (GG ++ wM ad cI cJ cZ th td pr up dn dv n K St Ex Am Ov Bj Aj BL AL He Co Ca mo sh co sd Cz Ab be)))
  refine jj_istore C0 (lv' := [(5, .int (iI 1)), (4, .int (iI (i : Int))), (3, .ref o), (2, .ref (ad 0)), (1, .ref (ha 0)), (0, .ref b)]) (by decide) rfl dL_law_1362 ?_
  refine jj_toM ?_
  refine jj_aload_n C0 3 rfl dL_law_1364 ?_
  refine jj_aload_n C0 5 rfl dL_law_1365 ?_
  refine jj_iload C0 1 rfl dL_law_1366 ?_
  refine jj_iconst C0 dL_law_1368 ?_
  refine jj_iadd C0 dL_law_1369 ?_
  refine jj_sald C0 hX hbl hbA hL (k := (i + 1)) (by omega) (by omega) dL_law_1370 ?_
  refine jj_topi (b := a1) h1 ?_
  refine jj_callVl C0 (cells' := (cells + 1)) (slots' := (slots + 6)) (cb_X4_cash hEV (x := a1) (kk := 1) hr1 (⟨hb, rfl⟩)) (cwV 1 hw (lw_gV hU_1046 hU_1047 hU_1048 hU_66 hU_1049) rfl rfl rfl (by decide +kernel) ⟨Nat.le_of_ble_eq_true rfl, Nat.le_of_ble_eq_true rfl⟩) (ci := 5) (q0 := 0) rfl (rfl) rfl rfl (Nat.le_of_ble_eq_true rfl) ⟨by show (cells + 1) + 0 ≤ 601024; omega, by show (slots + 6) + 0 ≤ 7293034; omega⟩ rfl rfl dL_law_1371 ?_
  intro u_1 hu
  show jj_W _ _ _ _ _ _ _ _ _ _ _ _ _ _ _ _ _ 1374 _ [.long (lI u_1)] (wM ad cI cJ cZ 1 td pr up dn dv n K St Ex Am Ov Bj Aj BL AL He Co Ca mo sh co sd Cz Ab be ++ (wH ha cA hA nA ed cI cJ cZ td pr up dn dv rw sd mc n mo sh co Ca Cz K St Ex Am Bi As BL AL He Co ++ ((o, .inl (cJ, 1, .inr (.inl (lA F)))) :: GG)))
  refine jj_lstore C0 (lv' := [(6, .long (lI u_1)), (5, .int (iI 1)), (4, .int (iI (i : Int))), (3, .ref o), (2, .ref (ad 0)), (1, .ref (ha 0)), (0, .ref b)]) (by decide) rfl dL_law_1374 ?_
  refine jj_aload_n C0 4 rfl dL_law_1376 ?_
  refine jj_callVi C0 (cells' := (cells + 1)) (slots' := (slots + 6)) (cc_X4_thrown hEV  ) (cwV 0 hw (lw_gV hU_865 hU_866 hU_867 hU_66 hU_868) rfl rfl rfl (by decide +kernel) ⟨Nat.le_of_ble_eq_true rfl, Nat.le_of_ble_eq_true rfl⟩) (ci := 5) (q0 := 0) rfl (rfl) rfl rfl (Nat.le_of_ble_eq_true rfl) ⟨by show (cells + 1) + 0 ≤ 601024; omega, by show (slots + 6) + 0 ≤ 7293034; omega⟩ rfl rfl dL_law_1377 ?_
  intro _ hu
  show jj_W _ _ _ _ _ _ _ _ _ _ _ _ _ _ _ _ _ 1380 _ [.int (iI 1)] (wM ad cI cJ cZ 1 td pr up dn dv n K St Ex Am Ov Bj Aj BL AL He Co Ca mo sh co sd Cz Ab be ++ (wH ha cA hA nA ed cI cJ cZ td pr up dn dv rw sd mc n mo sh co Ca Cz K St Ex Am Bi As BL AL He Co ++ ((o, .inl (cJ, 1, .inr (.inl (lA F)))) :: GG)))
  refine jj_iload C0 1 rfl dL_law_1380 ?_
  refine jj_icmp_eq C0 (by omega) (by omega) dL_law_1382 (tgt := 1387) (by decide) (fun c_2 => ?_) (fun c_2 => absurd c_2 (by omega))
  refine jj_iload C0 1 rfl dL_law_1387 ?_
  refine jj_if_ne C0 (by omega) dL_law_1389 (tgt := 1403) (by decide) (fun c_3 => ?_) (fun c_3 => absurd c_3 (by omega))
  refine jj_goto C0 (tgt := 1530) dL_law_1403 (by decide) ?_
  refine jj_toH ?_
  refine jj_lv [2, 3, 4, 5, 6] rfl ?_
  exact kK cA hA nA ed rw F mc GG 1 be Ab td pr up dn dv sd n mo sh co Ca Cz K St Ex Am Ov Bi As Bj Aj BL AL He Co _ _ (f_IV_k hV) (hG) (by omega) (by omega)
set_option maxHeartbeats 4000000 in
set_option maxRecDepth 100000 in
theorem ll_worth (hC9 : f_CC p l s m args meth c9 dC dI A cI cJ cZ cO es mi sa b L xs) (hi : i + 5 ≤ L) (hik : i = 5 * k) (hcs : cells + 8 ≤ 601024 ∧ slots + 80 ≤ 7293034) (hI : f_IV k td n pr up dn dv sd mo sh Ca K St Ex Am Ov Bi As Bj Aj BL AL He Co) (hG : f_LG cO es n ed cA GG) (kK : f_KK p l e s m args below meth c9 dC dI A Q ha ad cI cJ cZ cO o es b i k cells slots)    : jj_W p l e room_1 s m args below meth c9 (dC, dI) vwCl A 8 cells slots Q 1406 [(4, .int (iI (i : Int))), (3, .ref o), (2, .ref (ad 0)), (1, .ref (ha 0)), (0, .ref b)] [] (wH ha cA hA nA ed cI cJ cZ td pr up dn dv rw sd mc n mo sh co Ca Cz K St Ex Am Bi As BL AL He Co ++ ((o, .inl (cJ, 1, .inr (.inl (lA F)))) :: (GG ++ wM ad cI cJ cZ th td pr up dn dv n K St Ex Am Ov Bj Aj BL AL He Co Ca mo sh co sd Cz Ab be))) := by
  obtain ⟨C0, hl, hX, hbl, hbA, hL⟩ := hC9
  have hw := C0.2.2.2.2.1
  have hEV := hEVW es mi sa
  have hV := hI
  obtain ⟨⟨htd, hn, hpr, hup, hdn, hdv, hsd, hmo, hsh⟩, ⟨hK, hSt, hEx, hAm, hOv, hovs, hexs, hovn⟩, hQ9, ⟨hHe, hsums, hHz⟩, ⟨hCo, hCz⟩, hCa⟩ := hI
  have hQ := hQ9
  obtain ⟨hBi, hAs, hBj, hAj, hBL, hAL, hQt, hQ0, hQn, hQo⟩ := hQ9
  have hED0 : 0 < n → f_ED cA n ed cO (GG ++ wM ad cI cJ cZ th td pr up dn dv n K St Ex Am Ov Bj Aj BL AL He Co Ca mo sh co sd Cz Ab be) := f_LG_ED hG
  have hexs1 : ∀ c, c < n → Ex c ≤ (td : Int) + 10 := fun c hc => (hexs c hc).1
  have hk5 : k ≤ 511 := by omega
  have hHe9 : ∀ j, -999000 ≤ He j ∧ He j ≤ 999000 := fun j => by have := hHe j; omega
  have hHe6 : ∀ j, -1000000 ≤ He j ∧ He j ≤ 1000000 := fun j => by have := hHe j; omega
  have hCa9 : ∀ j, -100000000000000000 ≤ Ca j ∧ Ca j ≤ 100000000000000000 := fun j => by have := hCa j; omega
  refine jj_aload_n C0 3 rfl dL_law_1406 ?_
  refine jj_callVl C0 (cells' := cells) (slots' := slots) (jj_weakl (fun A U H h => EVW_h h) (cc_X3_worth   hpr hexs1 hn htd hup hdn hdv hK hSt hEx hAm hHe6 hsh (fun h => f_ED_cons (hED0 h)))) (cwV 0 hw (lw_gV hU_261 hU_262 hU_263 hU_60 hU_264) rfl rfl rfl (by decide +kernel) ⟨Nat.le_of_ble_eq_true rfl, Nat.le_of_ble_eq_true rfl⟩) (ci := 4) (q0 := 0) rfl (rfl) rfl rfl (Nat.le_of_ble_eq_true rfl) ⟨by show cells + 0 ≤ 601024; omega, by show slots + 0 ≤ 7293034; omega⟩ rfl rfl dL_law_1407 ?_
  intro r8_1 hu
  show jj_W _ _ _ _ _ _ _ _ _ _ _ _ _ _ _ _ _ 1410 _ [.long (lI (f_W up dn dv td n K St Ex Am He Ca sh pr))] (wH ha cA hA nA ed cI cJ cZ td pr up dn dv r8_1 sd mc n mo sh co Ca Cz K St Ex Am Bi As BL AL He Co ++ ((o, .inl (cJ, 1, .inr (.inl (lA F)))) :: (GG ++ wM ad cI cJ cZ th td pr up dn dv n K St Ex Am Ov Bj Aj BL AL He Co Ca mo sh co sd Cz Ab be)))
  refine jj_toM ?_
  refine jj_aload_n C0 2 rfl dL_law_1410 ?_
  refine jj_callVl C0 (cells' := cells) (slots' := slots) (cc_X4_worth hEV  hovs hexs hn htd hpr hup hdn hdv hK hSt hEx hAm hOv hHe6 hsh) (cwV 0 hw (lw_gV hU_1050 hU_1051 hU_1052 hU_66 hU_1053) rfl rfl rfl (by decide +kernel) ⟨Nat.le_of_ble_eq_true rfl, Nat.le_of_ble_eq_true rfl⟩) (ci := 5) (q0 := 0) rfl (rfl) rfl rfl (Nat.le_of_ble_eq_true rfl) ⟨by show cells + 0 ≤ 601024; omega, by show slots + 0 ≤ 7293034; omega⟩ rfl rfl dL_law_1411 ?_
  intro u hu
  obtain ⟨ab_2, b_2⟩ := u
  show jj_W _ _ _ _ _ _ _ _ _ _ _ _ _ _ _ _ _ 1414 _ [.long (lI (f_W up dn dv td n K St Ex Am He Ca sh pr)), .long (lI (f_W up dn dv td n K St Ex Am He Ca sh pr))] (wM ad cI cJ cZ 0 td pr up dn dv n K St Ex Am Ov Bj Aj BL AL He Co Ca mo sh co sd Cz ab_2 b_2 ++ (wH ha cA hA nA ed cI cJ cZ td pr up dn dv r8_1 sd mc n mo sh co Ca Cz K St Ex Am Bi As BL AL He Co ++ ((o, .inl (cJ, 1, .inr (.inl (lA F)))) :: GG)))
  refine jj_lcmpS C0 dL_law_1414 dL_law_1415 (tgt := 1530) (by decide) ?_
  refine jj_toH ?_
  exact kK cA hA nA ed r8_1 F mc GG 0 b_2 ab_2 td pr up dn dv sd n mo sh co Ca Cz K St Ex Am Ov Bi As Bj Aj BL AL He Co _ _ (f_IV_k hV) (hG) (by omega) (by omega)
set_option maxHeartbeats 4000000 in
set_option maxRecDepth 100000 in
theorem ll_cause (hC9 : f_CC p l s m args meth c9 dC dI A cI cJ cZ cO es mi sa b L xs) (hi : i + 5 ≤ L) (hik : i = 5 * k) (hcs : cells + 8 ≤ 601024 ∧ slots + 80 ≤ 7293034) (hI : f_IV k td n pr up dn dv sd mo sh Ca K St Ex Am Ov Bi As Bj Aj BL AL He Co) (hG : f_LG cO es n ed cA GG) (kK : f_KK p l e s m args below meth c9 dC dI A Q ha ad cI cJ cZ cO o es b i k cells slots) {h5 : Nat} (h1 : (xs (i + 1)).toInt = (h5 : Int)) (hk : h5 ≤ 5) : jj_W p l e room_1 s m args below meth c9 (dC, dI) vwCl A 8 cells slots Q 1420 [(4, .int (iI (i : Int))), (3, .ref o), (2, .ref (ad 0)), (1, .ref (ha 0)), (0, .ref b)] [] (wH ha cA hA nA ed cI cJ cZ td pr up dn dv rw sd mc n mo sh co Ca Cz K St Ex Am Bi As BL AL He Co ++ ((o, .inl (cJ, 1, .inr (.inl (lA F)))) :: (GG ++ wM ad cI cJ cZ th td pr up dn dv n K St Ex Am Ov Bj Aj BL AL He Co Ca mo sh co sd Cz Ab be))) := by
  obtain ⟨C0, hl, hX, hbl, hbA, hL⟩ := hC9
  have hw := C0.2.2.2.2.1
  have hEV := hEVW es mi sa
  have hV := hI
  obtain ⟨⟨htd, hn, hpr, hup, hdn, hdv, hsd, hmo, hsh⟩, ⟨hK, hSt, hEx, hAm, hOv, hovs, hexs, hovn⟩, hQ9, ⟨hHe, hsums, hHz⟩, ⟨hCo, hCz⟩, hCa⟩ := hI
  have hQ := hQ9
  obtain ⟨hBi, hAs, hBj, hAj, hBL, hAL, hQt, hQ0, hQn, hQo⟩ := hQ9
  have hED0 : 0 < n → f_ED cA n ed cO (GG ++ wM ad cI cJ cZ th td pr up dn dv n K St Ex Am Ov Bj Aj BL AL He Co Ca mo sh co sd Cz Ab be) := f_LG_ED hG
  have hexs1 : ∀ c, c < n → Ex c ≤ (td : Int) + 10 := fun c hc => (hexs c hc).1
  have hk5 : k ≤ 511 := by omega
  have hHe9 : ∀ j, -999000 ≤ He j ∧ He j ≤ 999000 := fun j => by have := hHe j; omega
  have hHe6 : ∀ j, -1000000 ≤ He j ∧ He j ≤ 1000000 := fun j => by have := hHe j; omega
  have hCa9 : ∀ j, -100000000000000000 ≤ Ca j ∧ Ca j ≤ 100000000000000000 := fun j => by have := hCa j; omega
  refine jj_aload_n C0 3 rfl dL_law_1420 ?_
  refine jj_aload_n C0 4 rfl dL_law_1421 ?_
  refine jj_iload C0 0 rfl dL_law_1422 ?_
  refine jj_iconst C0 dL_law_1424 ?_
  refine jj_iadd C0 dL_law_1425 ?_
  refine jj_sald C0 hX hbl hbA hL (k := (i + 1)) (by omega) (by omega) dL_law_1426 ?_
  refine jj_topi (b := (h5 : Int)) h1 ?_
  refine jj_aload_n C0 1 rfl dL_law_1427 ?_
  refine jj_callSWi C0 (cells' := cells) (slots' := slots) (jj_weaki (fun A U H h => h.1) (cw_L_cause hl (k := h5) hk hED0)) (vx_cwSW 3 hw (lw_gW hU_765 hU_766 hU_59 hU_767) rfl rfl rfl (by decide +kernel) ⟨Nat.le_of_ble_eq_true rfl, Nat.le_of_ble_eq_true rfl⟩) rfl rfl (Nat.le_of_ble_eq_true rfl) ⟨by show cells + 0 ≤ 601024; omega, by show slots + 0 ≤ 7293034; omega⟩ rfl rfl dL_law_1428 ?_
  intro _ hu
  show jj_W _ _ _ _ _ _ _ _ _ _ _ _ _ _ _ _ _ 1431 _ [.int (iI 0)] (wH ha cA hA nA ed cI cJ cZ td pr up dn dv rw sd mc n mo sh co Ca Cz K St Ex Am Bi As BL AL He Co ++ ((o, .inl (cJ, 1, .inr (.inl (lA (va_up F 0 (Cz h5)))))) :: (GG ++ wM ad cI cJ cZ th td pr up dn dv n K St Ex Am Ov Bj Aj BL AL He Co Ca mo sh co sd Cz Ab be)))
  refine jj_istore C0 (lv' := [(5, .int (iI 0)), (4, .int (iI (i : Int))), (3, .ref o), (2, .ref (ad 0)), (1, .ref (ha 0)), (0, .ref b)]) (by decide) rfl dL_law_1431 ?_
  refine jj_toM ?_
  refine jj_aload_n C0 3 rfl dL_law_1433 ?_
  refine jj_aload_n C0 5 rfl dL_law_1434 ?_
  refine jj_iload C0 1 rfl dL_law_1435 ?_
  refine jj_iconst C0 dL_law_1437 ?_
  refine jj_iadd C0 dL_law_1438 ?_
  refine jj_sald C0 hX hbl hbA hL (k := (i + 1)) (by omega) (by omega) dL_law_1439 ?_
  refine jj_topi (b := (h5 : Int)) h1 ?_
  refine jj_callVl C0 (cells' := cells) (slots' := slots) (cc_X4_cause hEV (k := h5) hk) (cwV 1 hw (lw_gV hU_1054 hU_1055 hU_1056 hU_66 hU_1057) rfl rfl rfl (by decide +kernel) ⟨Nat.le_of_ble_eq_true rfl, Nat.le_of_ble_eq_true rfl⟩) (ci := 5) (q0 := 0) rfl (rfl) rfl rfl (Nat.le_of_ble_eq_true rfl) ⟨by show cells + 0 ≤ 601024; omega, by show slots + 0 ≤ 7293034; omega⟩ rfl rfl dL_law_1440 ?_
  intro _ hu
  show jj_W _ _ _ _ _ _ _ _ _ _ _ _ _ _ _ _ _ 1443 _ [.long (lI (Cz h5))] (wM ad cI cJ cZ 0 td pr up dn dv n K St Ex Am Ov Bj Aj BL AL He Co Ca mo sh co sd Cz Ab be ++ (wH ha cA hA nA ed cI cJ cZ td pr up dn dv rw sd mc n mo sh co Ca Cz K St Ex Am Bi As BL AL He Co ++ ((o, .inl (cJ, 1, .inr (.inl (lA (va_up F 0 (Cz h5)))))) :: GG)))
  refine jj_lstore C0 (lv' := [(6, .long (lI (Cz h5))), (5, .int (iI 0)), (4, .int (iI (i : Int))), (3, .ref o), (2, .ref (ad 0)), (1, .ref (ha 0)), (0, .ref b)]) (by decide) rfl dL_law_1443 ?_
  refine jj_aload_n C0 4 rfl dL_law_1445 ?_
  refine jj_callVi C0 (cells' := cells) (slots' := slots) (cc_X4_thrown hEV  ) (cwV 0 hw (lw_gV hU_865 hU_866 hU_867 hU_66 hU_868) rfl rfl rfl (by decide +kernel) ⟨Nat.le_of_ble_eq_true rfl, Nat.le_of_ble_eq_true rfl⟩) (ci := 5) (q0 := 0) rfl (rfl) rfl rfl (Nat.le_of_ble_eq_true rfl) ⟨by show cells + 0 ≤ 601024; omega, by show slots + 0 ≤ 7293034; omega⟩ rfl rfl dL_law_1446 ?_
  intro _ hu
  show jj_W _ _ _ _ _ _ _ _ _ _ _ _ _ _ _ _ _ 1449 _ [.int (iI 0)] (wM ad cI cJ cZ 0 td pr up dn dv n K St Ex Am Ov Bj Aj BL AL He Co Ca mo sh co sd Cz Ab be ++ (wH ha cA hA nA ed cI cJ cZ td pr up dn dv rw sd mc n mo sh co Ca Cz K St Ex Am Bi As BL AL He Co ++ ((o, .inl (cJ, 1, .inr (.inl (lA (va_up F 0 (Cz h5)))))) :: GG)))
  refine jj_iload C0 1 rfl dL_law_1449 ?_
  refine jj_icmp_eq C0 (by omega) (by omega) dL_law_1451 (tgt := 1456) (by decide) (fun c_1 => ?_) (fun c_1 => absurd c_1 (by omega))
  refine jj_iload C0 1 rfl dL_law_1456 ?_
  refine jj_if_ne C0 (by omega) dL_law_1458 (tgt := 1472) (by decide) (fun c_2 => absurd c_2 (by omega)) (fun c_2 => ?_)
  refine jj_toH ?_
  refine jj_aload_n C0 3 rfl dL_law_1461 ?_
  refine jj_iconst C0 dL_law_1462 ?_
  refine jj_lald C0 (q0 := (8 + (3 * n + 0))) (t0 := 1) (f := (va_up F 0 (Cz h5))) ((wH_ee (n := n) rfl)) rfl (k := 0) (by omega) (by omega) (by decide) dL_law_1463 ?_
  refine jj_topl (b := (Cz h5)) (va_up_self _ _ _) ?_
  refine jj_lload C0 0 rfl dL_law_1464 ?_
  refine jj_lcmpS C0 dL_law_1466 dL_law_1467 (tgt := 1472) (by decide) ?_
  refine jj_goto C0 (tgt := 1530) dL_law_1472 (by decide) ?_
  refine jj_lv [2, 3, 4, 5, 6] rfl ?_
  exact kK cA hA nA ed rw (va_up F 0 (Cz h5)) mc GG 0 be Ab td pr up dn dv sd n mo sh co Ca Cz K St Ex Am Ov Bi As Bj Aj BL AL He Co _ _ (f_IV_k hV) (hG) (by omega) (by omega)
set_option maxHeartbeats 4000000 in
set_option maxRecDepth 100000 in
theorem ll_cause_r (hC9 : f_CC p l s m args meth c9 dC dI A cI cJ cZ cO es mi sa b L xs) (hi : i + 5 ≤ L) (hik : i = 5 * k) (hcs : cells + 8 ≤ 601024 ∧ slots + 80 ≤ 7293034) (hI : f_IV k td n pr up dn dv sd mo sh Ca K St Ex Am Ov Bi As Bj Aj BL AL He Co) (hG : f_LG cO es n ed cA GG) (kK : f_KK p l e s m args below meth c9 dC dI A Q ha ad cI cJ cZ cO o es b i k cells slots) {a1 : Int} (h1 : (xs (i + 1)).toInt = a1) (hr1 : iR a1) (hb : ¬ (0 ≤ a1 ∧ a1 ≤ 5)) : jj_W p l e room_1 s m args below meth c9 (dC, dI) vwCl A 8 cells slots Q 1420 [(4, .int (iI (i : Int))), (3, .ref o), (2, .ref (ad 0)), (1, .ref (ha 0)), (0, .ref b)] [] (wH ha cA hA nA ed cI cJ cZ td pr up dn dv rw sd mc n mo sh co Ca Cz K St Ex Am Bi As BL AL He Co ++ ((o, .inl (cJ, 1, .inr (.inl (lA F)))) :: (GG ++ wM ad cI cJ cZ th td pr up dn dv n K St Ex Am Ov Bj Aj BL AL He Co Ca mo sh co sd Cz Ab be))) := by
  obtain ⟨C0, hl, hX, hbl, hbA, hL⟩ := hC9
  have hw := C0.2.2.2.2.1
  have hEV := hEVW es mi sa
  have hV := hI
  obtain ⟨⟨htd, hn, hpr, hup, hdn, hdv, hsd, hmo, hsh⟩, ⟨hK, hSt, hEx, hAm, hOv, hovs, hexs, hovn⟩, hQ9, ⟨hHe, hsums, hHz⟩, ⟨hCo, hCz⟩, hCa⟩ := hI
  have hQ := hQ9
  obtain ⟨hBi, hAs, hBj, hAj, hBL, hAL, hQt, hQ0, hQn, hQo⟩ := hQ9
  have hED0 : 0 < n → f_ED cA n ed cO (GG ++ wM ad cI cJ cZ th td pr up dn dv n K St Ex Am Ov Bj Aj BL AL He Co Ca mo sh co sd Cz Ab be) := f_LG_ED hG
  have hexs1 : ∀ c, c < n → Ex c ≤ (td : Int) + 10 := fun c hc => (hexs c hc).1
  have hk5 : k ≤ 511 := by omega
  have hHe9 : ∀ j, -999000 ≤ He j ∧ He j ≤ 999000 := fun j => by have := hHe j; omega
  have hHe6 : ∀ j, -1000000 ≤ He j ∧ He j ≤ 1000000 := fun j => by have := hHe j; omega
  have hCa9 : ∀ j, -100000000000000000 ≤ Ca j ∧ Ca j ≤ 100000000000000000 := fun j => by have := hCa j; omega
  refine jj_aload_n C0 3 rfl dL_law_1420 ?_
  refine jj_aload_n C0 4 rfl dL_law_1421 ?_
  refine jj_iload C0 0 rfl dL_law_1422 ?_
  refine jj_iconst C0 dL_law_1424 ?_
  refine jj_iadd C0 dL_law_1425 ?_
  refine jj_sald C0 hX hbl hbA hL (k := (i + 1)) (by omega) (by omega) dL_law_1426 ?_
  refine jj_topi (b := a1) h1 ?_
  refine jj_aload_n C0 1 rfl dL_law_1427 ?_
  refine jj_callSWi C0 (cells' := cells + 1) (slots' := slots + 6) (jj_weaki (fun A U H h => h.1) (cr_L_cause hl (x := a1) hb hr1 hED0)) (vx_cwSW 3 hw (lw_gW hU_765 hU_766 hU_59 hU_767) rfl rfl rfl (by decide +kernel) ⟨Nat.le_of_ble_eq_true rfl, Nat.le_of_ble_eq_true rfl⟩) rfl rfl (Nat.le_of_ble_eq_true rfl) ⟨by show cells + 1 ≤ 601024; omega, by show slots + 6 ≤ 7293034; omega⟩ rfl rfl dL_law_1428 ?_
  intro _ hu
  show jj_W _ _ _ _ _ _ _ _ _ _ _ _ _ _ _ _ _ 1431 _ [.int (iI 1)] (wH ha cA hA nA ed cI cJ cZ td pr up dn dv rw sd mc n mo sh co Ca Cz K St Ex Am Bi As BL AL He Co ++ ((o, .inl (cJ, 1, .inr (.inl (lA F)))) :: (GG ++ wM ad cI cJ cZ th td pr up dn dv n K St Ex Am Ov Bj Aj BL AL He Co Ca mo sh co sd Cz Ab be)))
  refine jj_istore C0 (lv' := [(5, .int (iI 1)), (4, .int (iI (i : Int))), (3, .ref o), (2, .ref (ad 0)), (1, .ref (ha 0)), (0, .ref b)]) (by decide) rfl dL_law_1431 ?_
  refine jj_toM ?_
  refine jj_aload_n C0 3 rfl dL_law_1433 ?_
  refine jj_aload_n C0 5 rfl dL_law_1434 ?_
  refine jj_iload C0 1 rfl dL_law_1435 ?_
  refine jj_iconst C0 dL_law_1437 ?_
  refine jj_iadd C0 dL_law_1438 ?_
  refine jj_sald C0 hX hbl hbA hL (k := (i + 1)) (by omega) (by omega) dL_law_1439 ?_
  refine jj_topi (b := a1) h1 ?_
  refine jj_callVl C0 (cells' := (cells + 1)) (slots' := (slots + 6)) (cb_X4_cause hEV (x := a1) (kk := 1) hr1 (⟨hb, rfl⟩)) (cwV 1 hw (lw_gV hU_1054 hU_1055 hU_1056 hU_66 hU_1057) rfl rfl rfl (by decide +kernel) ⟨Nat.le_of_ble_eq_true rfl, Nat.le_of_ble_eq_true rfl⟩) (ci := 5) (q0 := 0) rfl (rfl) rfl rfl (Nat.le_of_ble_eq_true rfl) ⟨by show (cells + 1) + 0 ≤ 601024; omega, by show (slots + 6) + 0 ≤ 7293034; omega⟩ rfl rfl dL_law_1440 ?_
  intro u_1 hu
  show jj_W _ _ _ _ _ _ _ _ _ _ _ _ _ _ _ _ _ 1443 _ [.long (lI u_1)] (wM ad cI cJ cZ 1 td pr up dn dv n K St Ex Am Ov Bj Aj BL AL He Co Ca mo sh co sd Cz Ab be ++ (wH ha cA hA nA ed cI cJ cZ td pr up dn dv rw sd mc n mo sh co Ca Cz K St Ex Am Bi As BL AL He Co ++ ((o, .inl (cJ, 1, .inr (.inl (lA F)))) :: GG)))
  refine jj_lstore C0 (lv' := [(6, .long (lI u_1)), (5, .int (iI 1)), (4, .int (iI (i : Int))), (3, .ref o), (2, .ref (ad 0)), (1, .ref (ha 0)), (0, .ref b)]) (by decide) rfl dL_law_1443 ?_
  refine jj_aload_n C0 4 rfl dL_law_1445 ?_
  refine jj_callVi C0 (cells' := (cells + 1)) (slots' := (slots + 6)) (cc_X4_thrown hEV  ) (cwV 0 hw (lw_gV hU_865 hU_866 hU_867 hU_66 hU_868) rfl rfl rfl (by decide +kernel) ⟨Nat.le_of_ble_eq_true rfl, Nat.le_of_ble_eq_true rfl⟩) (ci := 5) (q0 := 0) rfl (rfl) rfl rfl (Nat.le_of_ble_eq_true rfl) ⟨by show (cells + 1) + 0 ≤ 601024; omega, by show (slots + 6) + 0 ≤ 7293034; omega⟩ rfl rfl dL_law_1446 ?_
  intro _ hu
  show jj_W _ _ _ _ _ _ _ _ _ _ _ _ _ _ _ _ _ 1449 _ [.int (iI 1)] (wM ad cI cJ cZ 1 td pr up dn dv n K St Ex Am Ov Bj Aj BL AL He Co Ca mo sh co sd Cz Ab be ++ (wH ha cA hA nA ed cI cJ cZ td pr up dn dv rw sd mc n mo sh co Ca Cz K St Ex Am Bi As BL AL He Co ++ ((o, .inl (cJ, 1, .inr (.inl (lA F)))) :: GG)))
  refine jj_iload C0 1 rfl dL_law_1449 ?_
  refine jj_icmp_eq C0 (by omega) (by omega) dL_law_1451 (tgt := 1456) (by decide) (fun c_2 => ?_) (fun c_2 => absurd c_2 (by omega))
  refine jj_iload C0 1 rfl dL_law_1456 ?_
  refine jj_if_ne C0 (by omega) dL_law_1458 (tgt := 1472) (by decide) (fun c_3 => ?_) (fun c_3 => absurd c_3 (by omega))
  refine jj_goto C0 (tgt := 1530) dL_law_1472 (by decide) ?_
  refine jj_toH ?_
  refine jj_lv [2, 3, 4, 5, 6] rfl ?_
  exact kK cA hA nA ed rw F mc GG 1 be Ab td pr up dn dv sd n mo sh co Ca Cz K St Ex Am Ov Bi As Bj Aj BL AL He Co _ _ (f_IV_k hV) (hG) (by omega) (by omega)
set_option maxHeartbeats 4000000 in
set_option maxRecDepth 100000 in
theorem ll_worst (hC9 : f_CC p l s m args meth c9 dC dI A cI cJ cZ cO es mi sa b L xs) (hi : i + 5 ≤ L) (hik : i = 5 * k) (hcs : cells + 8 ≤ 601024 ∧ slots + 80 ≤ 7293034) (hI : f_IV k td n pr up dn dv sd mo sh Ca K St Ex Am Ov Bi As Bj Aj BL AL He Co) (hG : f_LG cO es n ed cA GG) (kK : f_KK p l e s m args below meth c9 dC dI A Q ha ad cI cJ cZ cO o es b i k cells slots) {m5 : Nat} (h1 : (xs (i + 1)).toInt = (m5 : Int)) (hm : m5 ≤ 100) : jj_W p l e room_1 s m args below meth c9 (dC, dI) vwCl A 8 cells slots Q 1475 [(4, .int (iI (i : Int))), (3, .ref o), (2, .ref (ad 0)), (1, .ref (ha 0)), (0, .ref b)] [] (wH ha cA hA nA ed cI cJ cZ td pr up dn dv rw sd mc n mo sh co Ca Cz K St Ex Am Bi As BL AL He Co ++ ((o, .inl (cJ, 1, .inr (.inl (lA F)))) :: (GG ++ wM ad cI cJ cZ th td pr up dn dv n K St Ex Am Ov Bj Aj BL AL He Co Ca mo sh co sd Cz Ab be))) := by
  obtain ⟨C0, hl, hX, hbl, hbA, hL⟩ := hC9
  have hw := C0.2.2.2.2.1
  have hEV := hEVW es mi sa
  have hV := hI
  obtain ⟨⟨htd, hn, hpr, hup, hdn, hdv, hsd, hmo, hsh⟩, ⟨hK, hSt, hEx, hAm, hOv, hovs, hexs, hovn⟩, hQ9, ⟨hHe, hsums, hHz⟩, ⟨hCo, hCz⟩, hCa⟩ := hI
  have hQ := hQ9
  obtain ⟨hBi, hAs, hBj, hAj, hBL, hAL, hQt, hQ0, hQn, hQo⟩ := hQ9
  have hED0 : 0 < n → f_ED cA n ed cO (GG ++ wM ad cI cJ cZ th td pr up dn dv n K St Ex Am Ov Bj Aj BL AL He Co Ca mo sh co sd Cz Ab be) := f_LG_ED hG
  have hexs1 : ∀ c, c < n → Ex c ≤ (td : Int) + 10 := fun c hc => (hexs c hc).1
  have hk5 : k ≤ 511 := by omega
  have hHe9 : ∀ j, -999000 ≤ He j ∧ He j ≤ 999000 := fun j => by have := hHe j; omega
  have hHe6 : ∀ j, -1000000 ≤ He j ∧ He j ≤ 1000000 := fun j => by have := hHe j; omega
  have hCa9 : ∀ j, -100000000000000000 ≤ Ca j ∧ Ca j ≤ 100000000000000000 := fun j => by have := hCa j; omega
  refine jj_aload_n C0 3 rfl dL_law_1475 ?_
  refine jj_aload_n C0 4 rfl dL_law_1476 ?_
  refine jj_iload C0 0 rfl dL_law_1477 ?_
  refine jj_iconst C0 dL_law_1479 ?_
  refine jj_iadd C0 dL_law_1480 ?_
  refine jj_sald C0 hX hbl hbA hL (k := (i + 1)) (by omega) (by omega) dL_law_1481 ?_
  refine jj_topi (b := (m5 : Int)) h1 ?_
  refine jj_aload_n C0 1 rfl dL_law_1482 ?_
  refine jj_callSWi C0 (cells' := cells) (slots' := slots) (jj_weaki (fun A U H h => h.1) (cw_L_worst hl (m := m5) hm hCa9 hpr hexs1 hn htd hup hdn hdv hK hSt hEx hAm hHe6 hsh hED0)) (vx_cwSW 3 hw (lw_gW hU_773 hU_774 hU_59 hU_775) rfl rfl rfl (by decide +kernel) ⟨Nat.le_of_ble_eq_true rfl, Nat.le_of_ble_eq_true rfl⟩) rfl rfl (Nat.le_of_ble_eq_true rfl) ⟨by show cells + 0 ≤ 601024; omega, by show slots + 0 ≤ 7293034; omega⟩ rfl rfl dL_law_1483 ?_
  intro r8_1 hu
  show jj_W _ _ _ _ _ _ _ _ _ _ _ _ _ _ _ _ _ 1486 _ [.int (iI 0)] (wH ha cA hA nA ed cI cJ cZ td pr up dn dv r8_1 sd mc n mo sh co Ca Cz K St Ex Am Bi As BL AL He Co ++ ((o, .inl (cJ, 1, .inr (.inl (lA (va_up F 0 (f_worst (fun q8 => (f_W up dn dv td n K St Ex Am He Ca sh q8)) (f_W up dn dv td n K St Ex Am He Ca sh pr) pr (m5 : Int) (2 * m5 + 1))))))) :: (GG ++ wM ad cI cJ cZ th td pr up dn dv n K St Ex Am Ov Bj Aj BL AL He Co Ca mo sh co sd Cz Ab be)))
  refine jj_istore C0 (lv' := [(5, .int (iI 0)), (4, .int (iI (i : Int))), (3, .ref o), (2, .ref (ad 0)), (1, .ref (ha 0)), (0, .ref b)]) (by decide) rfl dL_law_1486 ?_
  refine jj_toM ?_
  refine jj_aload_n C0 3 rfl dL_law_1488 ?_
  refine jj_aload_n C0 5 rfl dL_law_1489 ?_
  refine jj_iload C0 1 rfl dL_law_1490 ?_
  refine jj_iconst C0 dL_law_1492 ?_
  refine jj_iadd C0 dL_law_1493 ?_
  refine jj_sald C0 hX hbl hbA hL (k := (i + 1)) (by omega) (by omega) dL_law_1494 ?_
  refine jj_topi (b := (m5 : Int)) h1 ?_
  refine jj_callVl C0 (cells' := cells) (slots' := slots) (cc_X4_worst hEV (m := m5) hm hCa9 hovs hexs hn htd hpr hup hdn hdv hK hSt hEx hAm hOv hHe6 hsh) (cwV 1 hw (lw_gV hU_1058 hU_1059 hU_1060 hU_66 hU_1061) rfl rfl rfl (by decide +kernel) ⟨Nat.le_of_ble_eq_true rfl, Nat.le_of_ble_eq_true rfl⟩) (ci := 5) (q0 := 0) rfl (rfl) rfl rfl (Nat.le_of_ble_eq_true rfl) ⟨by show cells + 0 ≤ 601024; omega, by show slots + 0 ≤ 7293034; omega⟩ rfl rfl dL_law_1495 ?_
  intro u hu
  obtain ⟨ab_2, b_2⟩ := u
  show jj_W _ _ _ _ _ _ _ _ _ _ _ _ _ _ _ _ _ 1498 _ [.long (lI (f_worst (fun q8 => (f_W up dn dv td n K St Ex Am He Ca sh q8)) (f_W up dn dv td n K St Ex Am He Ca sh pr) pr (m5 : Int) (2 * m5 + 1)))] (wM ad cI cJ cZ 0 td pr up dn dv n K St Ex Am Ov Bj Aj BL AL He Co Ca mo sh co sd Cz ab_2 b_2 ++ (wH ha cA hA nA ed cI cJ cZ td pr up dn dv r8_1 sd mc n mo sh co Ca Cz K St Ex Am Bi As BL AL He Co ++ ((o, .inl (cJ, 1, .inr (.inl (lA (va_up F 0 (f_worst (fun q8 => (f_W up dn dv td n K St Ex Am He Ca sh q8)) (f_W up dn dv td n K St Ex Am He Ca sh pr) pr (m5 : Int) (2 * m5 + 1))))))) :: GG)))
  refine jj_lstore C0 (lv' := [(6, .long (lI (f_worst (fun q8 => (f_W up dn dv td n K St Ex Am He Ca sh q8)) (f_W up dn dv td n K St Ex Am He Ca sh pr) pr (m5 : Int) (2 * m5 + 1)))), (5, .int (iI 0)), (4, .int (iI (i : Int))), (3, .ref o), (2, .ref (ad 0)), (1, .ref (ha 0)), (0, .ref b)]) (by decide) rfl dL_law_1498 ?_
  refine jj_aload_n C0 4 rfl dL_law_1500 ?_
  refine jj_callVi C0 (cells' := cells) (slots' := slots) (cc_X4_thrown hEV  ) (cwV 0 hw (lw_gV hU_865 hU_866 hU_867 hU_66 hU_868) rfl rfl rfl (by decide +kernel) ⟨Nat.le_of_ble_eq_true rfl, Nat.le_of_ble_eq_true rfl⟩) (ci := 5) (q0 := 0) rfl (rfl) rfl rfl (Nat.le_of_ble_eq_true rfl) ⟨by show cells + 0 ≤ 601024; omega, by show slots + 0 ≤ 7293034; omega⟩ rfl rfl dL_law_1501 ?_
  intro _ hu
  show jj_W _ _ _ _ _ _ _ _ _ _ _ _ _ _ _ _ _ 1504 _ [.int (iI 0)] (wM ad cI cJ cZ 0 td pr up dn dv n K St Ex Am Ov Bj Aj BL AL He Co Ca mo sh co sd Cz ab_2 b_2 ++ (wH ha cA hA nA ed cI cJ cZ td pr up dn dv r8_1 sd mc n mo sh co Ca Cz K St Ex Am Bi As BL AL He Co ++ ((o, .inl (cJ, 1, .inr (.inl (lA (va_up F 0 (f_worst (fun q8 => (f_W up dn dv td n K St Ex Am He Ca sh q8)) (f_W up dn dv td n K St Ex Am He Ca sh pr) pr (m5 : Int) (2 * m5 + 1))))))) :: GG)))
  refine jj_iload C0 1 rfl dL_law_1504 ?_
  refine jj_icmp_eq C0 (by omega) (by omega) dL_law_1506 (tgt := 1511) (by decide) (fun c_3 => ?_) (fun c_3 => absurd c_3 (by omega))
  refine jj_iload C0 1 rfl dL_law_1511 ?_
  refine jj_if_ne C0 (by omega) dL_law_1513 (tgt := 1527) (by decide) (fun c_4 => absurd c_4 (by omega)) (fun c_4 => ?_)
  refine jj_toH ?_
  refine jj_aload_n C0 3 rfl dL_law_1516 ?_
  refine jj_iconst C0 dL_law_1517 ?_
  refine jj_lald C0 (q0 := (8 + (3 * n + 0))) (t0 := 1) (f := (va_up F 0 (f_worst (fun q8 => (f_W up dn dv td n K St Ex Am He Ca sh q8)) (f_W up dn dv td n K St Ex Am He Ca sh pr) pr (m5 : Int) (2 * m5 + 1)))) ((wH_ee (n := n) rfl)) rfl (k := 0) (by omega) (by omega) (by decide) dL_law_1518 ?_
  refine jj_topl (b := (f_worst (fun q8 => (f_W up dn dv td n K St Ex Am He Ca sh q8)) (f_W up dn dv td n K St Ex Am He Ca sh pr) pr (m5 : Int) (2 * m5 + 1))) (va_up_self _ _ _) ?_
  refine jj_lload C0 0 rfl dL_law_1519 ?_
  refine jj_lcmpS C0 dL_law_1521 dL_law_1522 (tgt := 1527) (by decide) ?_
  refine jj_goto C0 (tgt := 1530) dL_law_1527 (by decide) ?_
  refine jj_lv [2, 3, 4, 5, 6] rfl ?_
  exact kK cA hA nA ed r8_1 (va_up F 0 (f_worst (fun q8 => (f_W up dn dv td n K St Ex Am He Ca sh q8)) (f_W up dn dv td n K St Ex Am He Ca sh pr) pr (m5 : Int) (2 * m5 + 1))) mc GG 0 b_2 ab_2 td pr up dn dv sd n mo sh co Ca Cz K St Ex Am Ov Bi As Bj Aj BL AL He Co _ _ (f_IV_k hV) (hG) (by omega) (by omega)
set_option maxHeartbeats 4000000 in
set_option maxRecDepth 100000 in
theorem ll_worst_r (hC9 : f_CC p l s m args meth c9 dC dI A cI cJ cZ cO es mi sa b L xs) (hi : i + 5 ≤ L) (hik : i = 5 * k) (hcs : cells + 8 ≤ 601024 ∧ slots + 80 ≤ 7293034) (hI : f_IV k td n pr up dn dv sd mo sh Ca K St Ex Am Ov Bi As Bj Aj BL AL He Co) (hG : f_LG cO es n ed cA GG) (kK : f_KK p l e s m args below meth c9 dC dI A Q ha ad cI cJ cZ cO o es b i k cells slots) {a1 : Int} (h1 : (xs (i + 1)).toInt = a1) (hr1 : iR a1) (hb : ¬ (0 ≤ a1 ∧ a1 ≤ 100)) : jj_W p l e room_1 s m args below meth c9 (dC, dI) vwCl A 8 cells slots Q 1475 [(4, .int (iI (i : Int))), (3, .ref o), (2, .ref (ad 0)), (1, .ref (ha 0)), (0, .ref b)] [] (wH ha cA hA nA ed cI cJ cZ td pr up dn dv rw sd mc n mo sh co Ca Cz K St Ex Am Bi As BL AL He Co ++ ((o, .inl (cJ, 1, .inr (.inl (lA F)))) :: (GG ++ wM ad cI cJ cZ th td pr up dn dv n K St Ex Am Ov Bj Aj BL AL He Co Ca mo sh co sd Cz Ab be))) := by
  obtain ⟨C0, hl, hX, hbl, hbA, hL⟩ := hC9
  have hw := C0.2.2.2.2.1
  have hEV := hEVW es mi sa
  have hV := hI
  obtain ⟨⟨htd, hn, hpr, hup, hdn, hdv, hsd, hmo, hsh⟩, ⟨hK, hSt, hEx, hAm, hOv, hovs, hexs, hovn⟩, hQ9, ⟨hHe, hsums, hHz⟩, ⟨hCo, hCz⟩, hCa⟩ := hI
  have hQ := hQ9
  obtain ⟨hBi, hAs, hBj, hAj, hBL, hAL, hQt, hQ0, hQn, hQo⟩ := hQ9
  have hED0 : 0 < n → f_ED cA n ed cO (GG ++ wM ad cI cJ cZ th td pr up dn dv n K St Ex Am Ov Bj Aj BL AL He Co Ca mo sh co sd Cz Ab be) := f_LG_ED hG
  have hexs1 : ∀ c, c < n → Ex c ≤ (td : Int) + 10 := fun c hc => (hexs c hc).1
  have hk5 : k ≤ 511 := by omega
  have hHe9 : ∀ j, -999000 ≤ He j ∧ He j ≤ 999000 := fun j => by have := hHe j; omega
  have hHe6 : ∀ j, -1000000 ≤ He j ∧ He j ≤ 1000000 := fun j => by have := hHe j; omega
  have hCa9 : ∀ j, -100000000000000000 ≤ Ca j ∧ Ca j ≤ 100000000000000000 := fun j => by have := hCa j; omega
  refine jj_aload_n C0 3 rfl dL_law_1475 ?_
  refine jj_aload_n C0 4 rfl dL_law_1476 ?_
  refine jj_iload C0 0 rfl dL_law_1477 ?_
  refine jj_iconst C0 dL_law_1479 ?_
  refine jj_iadd C0 dL_law_1480 ?_
  refine jj_sald C0 hX hbl hbA hL (k := (i + 1)) (by omega) (by omega) dL_law_1481 ?_
  refine jj_topi (b := a1) h1 ?_
  refine jj_aload_n C0 1 rfl dL_law_1482 ?_
  refine jj_callSWi C0 (cells' := cells + 1) (slots' := slots + 6) (jj_weaki (fun A U H h => h.1) (cr_L_worst hl (x := a1) hb hr1 hED0)) (vx_cwSW 3 hw (lw_gW hU_773 hU_774 hU_59 hU_775) rfl rfl rfl (by decide +kernel) ⟨Nat.le_of_ble_eq_true rfl, Nat.le_of_ble_eq_true rfl⟩) rfl rfl (Nat.le_of_ble_eq_true rfl) ⟨by show cells + 1 ≤ 601024; omega, by show slots + 6 ≤ 7293034; omega⟩ rfl rfl dL_law_1483 ?_
  intro _ hu
  show jj_W _ _ _ _ _ _ _ _ _ _ _ _ _ _ _ _ _ 1486 _ [.int (iI 1)] (wH ha cA hA nA ed cI cJ cZ td pr up dn dv rw sd mc n mo sh co Ca Cz K St Ex Am Bi As BL AL He Co ++ ((o, .inl (cJ, 1, .inr (.inl (lA F)))) :: (GG ++ wM ad cI cJ cZ th td pr up dn dv n K St Ex Am Ov Bj Aj BL AL He Co Ca mo sh co sd Cz Ab be)))
  refine jj_istore C0 (lv' := [(5, .int (iI 1)), (4, .int (iI (i : Int))), (3, .ref o), (2, .ref (ad 0)), (1, .ref (ha 0)), (0, .ref b)]) (by decide) rfl dL_law_1486 ?_
  refine jj_toM ?_
  refine jj_aload_n C0 3 rfl dL_law_1488 ?_
  refine jj_aload_n C0 5 rfl dL_law_1489 ?_
  refine jj_iload C0 1 rfl dL_law_1490 ?_
  refine jj_iconst C0 dL_law_1492 ?_
  refine jj_iadd C0 dL_law_1493 ?_
  refine jj_sald C0 hX hbl hbA hL (k := (i + 1)) (by omega) (by omega) dL_law_1494 ?_
  refine jj_topi (b := a1) h1 ?_
  refine jj_callVl C0 (cells' := (cells + 1)) (slots' := (slots + 6)) (cb_X4_worst hEV (x := a1) (kk := 1) hr1 (⟨hb, rfl⟩)) (cwV 1 hw (lw_gV hU_1058 hU_1059 hU_1060 hU_66 hU_1061) rfl rfl rfl (by decide +kernel) ⟨Nat.le_of_ble_eq_true rfl, Nat.le_of_ble_eq_true rfl⟩) (ci := 5) (q0 := 0) rfl (rfl) rfl rfl (Nat.le_of_ble_eq_true rfl) ⟨by show (cells + 1) + 0 ≤ 601024; omega, by show (slots + 6) + 0 ≤ 7293034; omega⟩ rfl rfl dL_law_1495 ?_
  intro u_1 hu
  show jj_W _ _ _ _ _ _ _ _ _ _ _ _ _ _ _ _ _ 1498 _ [.long (lI u_1)] (wM ad cI cJ cZ 1 td pr up dn dv n K St Ex Am Ov Bj Aj BL AL He Co Ca mo sh co sd Cz Ab be ++ (wH ha cA hA nA ed cI cJ cZ td pr up dn dv rw sd mc n mo sh co Ca Cz K St Ex Am Bi As BL AL He Co ++ ((o, .inl (cJ, 1, .inr (.inl (lA F)))) :: GG)))
  refine jj_lstore C0 (lv' := [(6, .long (lI u_1)), (5, .int (iI 1)), (4, .int (iI (i : Int))), (3, .ref o), (2, .ref (ad 0)), (1, .ref (ha 0)), (0, .ref b)]) (by decide) rfl dL_law_1498 ?_
  refine jj_aload_n C0 4 rfl dL_law_1500 ?_
  refine jj_callVi C0 (cells' := (cells + 1)) (slots' := (slots + 6)) (cc_X4_thrown hEV  ) (cwV 0 hw (lw_gV hU_865 hU_866 hU_867 hU_66 hU_868) rfl rfl rfl (by decide +kernel) ⟨Nat.le_of_ble_eq_true rfl, Nat.le_of_ble_eq_true rfl⟩) (ci := 5) (q0 := 0) rfl (rfl) rfl rfl (Nat.le_of_ble_eq_true rfl) ⟨by show (cells + 1) + 0 ≤ 601024; omega, by show (slots + 6) + 0 ≤ 7293034; omega⟩ rfl rfl dL_law_1501 ?_
  intro _ hu
  show jj_W _ _ _ _ _ _ _ _ _ _ _ _ _ _ _ _ _ 1504 _ [.int (iI 1)] (wM ad cI cJ cZ 1 td pr up dn dv n K St Ex Am Ov Bj Aj BL AL He Co Ca mo sh co sd Cz Ab be ++ (wH ha cA hA nA ed cI cJ cZ td pr up dn dv rw sd mc n mo sh co Ca Cz K St Ex Am Bi As BL AL He Co ++ ((o, .inl (cJ, 1, .inr (.inl (lA F)))) :: GG)))
  refine jj_iload C0 1 rfl dL_law_1504 ?_
  refine jj_icmp_eq C0 (by omega) (by omega) dL_law_1506 (tgt := 1511) (by decide) (fun c_2 => ?_) (fun c_2 => absurd c_2 (by omega))
  refine jj_iload C0 1 rfl dL_law_1511 ?_
  refine jj_if_ne C0 (by omega) dL_law_1513 (tgt := 1527) (by decide) (fun c_3 => ?_) (fun c_3 => absurd c_3 (by omega))
  refine jj_goto C0 (tgt := 1530) dL_law_1527 (by decide) ?_
  refine jj_toH ?_
  refine jj_lv [2, 3, 4, 5, 6] rfl ?_
  exact kK cA hA nA ed rw F mc GG 1 be Ab td pr up dn dv sd n mo sh co Ca Cz K St Ex Am Ov Bi As Bj Aj BL AL He Co _ _ (f_IV_k hV) (hG) (by omega) (by omega)
end CC26
