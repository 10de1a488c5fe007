section CC25
variable {p : Program} {l : Launch} {e : Env} {s : State} {m : MethodId} {args : Array Value} {below : List Frame} {meth : Method} {c9 : Code} {dC : Nat → ClassId} {dI : Nat → Nat → Nat} {A : Nat → Prop} {Q : State → Prop} {ha ad : Nat → Nat} {cI cJ cZ cO : ClassId} {o es mi b L i k cells slots : Nat} {sa : Nat → Nat} {xs : Nat → Int32} {cA hA nA : Nat → Nat} {ed : Nat} {rw F : Nat → Int} {mc : Int} {GG : va_W} {th be : Int} {Ab : Nat → Int} {td : Nat} {pr up dn : Int} {dv : Nat → Int} {sd : Int} {n : Nat} {mo sh co : Int} {Ca Cz K St Ex Am Ov Bi As Bj Aj BL AL He Co : Nat → Int}
theorem f_LG_1 {q0 q1 : Nat} : f_LG cO es (0 + 1) q0 (va_up cA 0 q1) ((q0, .inl (cO, 10, .inr (.inr (.inr (.inr (va_up (fun _ => none) 0 (some q1))))))) :: GG) := ⟨fun _ => ⟨10, _, GG, rfl, by omega, by omega, fun j hj => by
    obtain rfl : j = 0 := by omega
    rw [va_up_self, va_up_self]⟩, fun h => absurd h (by omega)⟩
set_option maxHeartbeats 4000000 in
set_option maxRecDepth 100000 in
theorem ll_steps (hC9 : f_CC p l s m args meth c9 dC dI A cI cJ cZ cO es mi sa b L xs) (hi : i + 5 ≤ L) (hik : i = 5 * k) (hcs : cells + 8 ≤ 601024 ∧ slots + 80 ≤ 7293034) (hI : f_IV k td n pr up dn dv sd mo sh Ca K St Ex Am Ov Bi As Bj Aj BL AL He Co) (hG : f_LG cO es n ed cA GG) (kK : f_KK p l e s m args below meth c9 dC dI A Q ha ad cI cJ cZ cO o es b i k cells slots) {a1 a2 : Int} (h1 : (xs (i + 1)).toInt = a1) (h2 : (xs (i + 2)).toInt = a2) (hx : 1 ≤ a1 ∧ a1 ≤ 10) (hy : 1 ≤ a2 ∧ a2 ≤ 10) : jj_W p l e room_1 s m args below meth c9 (dC, dI) vwCl A 8 cells slots Q 144 [(4, .int (iI (i : Int))), (3, .ref o), (2, .ref (ad 0)), (1, .ref (ha 0)), (0, .ref b)] [] (wH ha cA hA nA ed cI cJ cZ td pr up dn dv rw sd mc n mo sh co Ca Cz K St Ex Am Bi As BL AL He Co ++ ((o, .inl (cJ, 1, .inr (.inl (lA F)))) :: (GG ++ wM ad cI cJ cZ th td pr up dn dv n K St Ex Am Ov Bj Aj BL AL He Co Ca mo sh co sd Cz Ab be))) := by
  obtain ⟨C0, hl, hX, hbl, hbA, hL⟩ := hC9
  have hw := C0.2.2.2.2.1
  have hEV := hEVW es mi sa
  have hV := hI
  obtain ⟨⟨htd, hn, hpr, hup, hdn, hdv, hsd, hmo, hsh⟩, ⟨hK, hSt, hEx, hAm, hOv, hovs, hexs, hovn⟩, hQ9, ⟨hHe, hsums, hHz⟩, ⟨hCo, hCz⟩, hCa⟩ := hI
  have hQ := hQ9
  obtain ⟨hBi, hAs, hBj, hAj, hBL, hAL, hQt, hQ0, hQn, hQo⟩ := hQ9
  have hED0 : 0 < n → f_ED cA n ed cO (GG ++ wM ad cI cJ cZ th td pr up dn dv n K St Ex Am Ov Bj Aj BL AL He Co Ca mo sh co sd Cz Ab be) := f_LG_ED hG
  have hexs1 : ∀ c, c < n → Ex c ≤ (td : Int) + 10 := fun c hc => (hexs c hc).1
  have hk5 : k ≤ 511 := by omega
  have hHe9 : ∀ j, -999000 ≤ He j ∧ He j ≤ 999000 := fun j => by have := hHe j; omega
  have hHe6 : ∀ j, -1000000 ≤ He j ∧ He j ≤ 1000000 := fun j => by have := hHe j; omega
  have hCa9 : ∀ j, -100000000000000000 ≤ Ca j ∧ Ca j ≤ 100000000000000000 := fun j => by have := hCa j; omega
  refine jj_aload_n C0 3 rfl dL_law_144 ?_
  refine jj_aload_n C0 4 rfl dL_law_145 ?_
  refine jj_iload C0 0 rfl dL_law_146 ?_
  refine jj_iconst C0 dL_law_148 ?_
  refine jj_iadd C0 dL_law_149 ?_
  refine jj_sald C0 hX hbl hbA hL (k := (i + 1)) (by omega) (by omega) dL_law_150 ?_
  refine jj_topi (b := a1) h1 ?_
  refine jj_aload_n C0 4 rfl dL_law_151 ?_
  refine jj_iload C0 0 rfl dL_law_152 ?_
  refine jj_iconst C0 dL_law_154 ?_
  refine jj_iadd C0 dL_law_155 ?_
  refine jj_sald C0 hX hbl hbA hL (k := (i + 2)) (by omega) (by omega) dL_law_156 ?_
  refine jj_topi (b := a2) h2 ?_
  refine jj_callSWi C0 (cells' := cells) (slots' := slots) (jj_weaki (fun A U H h => h.1) (cw_L_steps hl (x := a1) (y := a2) hx hy hpr hexs1 hn htd hup hdn hdv hK hSt hEx hAm hHe6 hsh hED0)) (vx_cwSW 3 hw (lw_gW hU_321 hU_322 hU_59 hU_323) rfl rfl rfl (by decide +kernel) ⟨Nat.le_of_ble_eq_true rfl, Nat.le_of_ble_eq_true rfl⟩) rfl rfl (Nat.le_of_ble_eq_true rfl) ⟨by show cells + 0 ≤ 601024; omega, by show slots + 0 ≤ 7293034; omega⟩ rfl rfl dL_law_157 ?_
  intro r8_1 hu
  show jj_W _ _ _ _ _ _ _ _ _ _ _ _ _ _ _ _ _ 160 _ [.int (iI 0)] (wH ha cA hA nA ed cI cJ cZ td pr a1 a2 dv r8_1 sd mc n mo sh co Ca (va_up Cz 5 ((Cz 5) + ((f_W a1 a2 dv td n K St Ex Am He Ca sh pr) - (f_W up dn dv td n K St Ex Am He Ca sh pr)))) K St Ex Am Bi As BL AL He Co ++ ((o, .inl (cJ, 1, .inr (.inl (lA F)))) :: (GG ++ wM ad cI cJ cZ th td pr up dn dv n K St Ex Am Ov Bj Aj BL AL He Co Ca mo sh co sd Cz Ab be)))
  refine jj_istore C0 (lv' := [(5, .int (iI 0)), (4, .int (iI (i : Int))), (3, .ref o), (2, .ref (ad 0)), (1, .ref (ha 0)), (0, .ref b)]) (by decide) rfl dL_law_160 ?_
  refine jj_toM ?_
  refine jj_aload_n C0 3 rfl dL_law_162 ?_
  refine jj_aload_n C0 5 rfl dL_law_163 ?_
  refine jj_iload C0 1 rfl dL_law_164 ?_
  refine jj_iconst C0 dL_law_166 ?_
  refine jj_iadd C0 dL_law_167 ?_
  refine jj_sald C0 hX hbl hbA hL (k := (i + 1)) (by omega) (by omega) dL_law_168 ?_
  refine jj_topi (b := a1) h1 ?_
  refine jj_aload_n C0 5 rfl dL_law_169 ?_
  refine jj_iload C0 1 rfl dL_law_170 ?_
  refine jj_iconst C0 dL_law_172 ?_
  refine jj_iadd C0 dL_law_173 ?_
  refine jj_sald C0 hX hbl hbA hL (k := (i + 2)) (by omega) (by omega) dL_law_174 ?_
  refine jj_topi (b := a2) h2 ?_
  refine jj_callVv C0 (cells' := cells) (slots' := slots) (cc_X4_steps hEV (x := a1) (y := a2) hx hy hovs hexs hn htd hpr hup hdn hdv hK hSt hEx hAm hOv hHe6 hsh) (cwV 2 hw (lw_gV hU_869 hU_870 hU_871 hU_66 hU_872) rfl rfl rfl (by decide +kernel) ⟨Nat.le_of_ble_eq_true rfl, Nat.le_of_ble_eq_true rfl⟩) (ci := 5) (q0 := 0) rfl (rfl) rfl rfl (Nat.le_of_ble_eq_true rfl) ⟨by show cells + 0 ≤ 601024; omega, by show slots + 0 ≤ 7293034; omega⟩ rfl rfl dL_law_175 ?_
  intro u hu
  obtain ⟨ab_2, b_2⟩ := u
  show jj_W _ _ _ _ _ _ _ _ _ _ _ _ _ _ _ _ _ 178 _ [] (wM ad cI cJ cZ 0 td pr a1 a2 dv n K St Ex Am Ov Bj Aj BL AL He Co Ca mo sh co sd (va_up Cz 5 ((Cz 5) + ((f_W a1 a2 dv td n K St Ex Am He Ca sh pr) - (f_W up dn dv td n K St Ex Am He Ca sh pr)))) ab_2 b_2 ++ (wH ha cA hA nA ed cI cJ cZ td pr a1 a2 dv r8_1 sd mc n mo sh co Ca (va_up Cz 5 ((Cz 5) + ((f_W a1 a2 dv td n K St Ex Am He Ca sh pr) - (f_W up dn dv td n K St Ex Am He Ca sh pr)))) K St Ex Am Bi As BL AL He Co ++ ((o, .inl (cJ, 1, .inr (.inl (lA F)))) :: GG)))
  refine jj_aload_n C0 3 rfl dL_law_178 ?_
  refine jj_callVi C0 (cells' := cells) (slots' := slots) (cc_X4_thrown hEV  ) (cwV 0 hw (lw_gV hU_865 hU_866 hU_867 hU_66 hU_868) rfl rfl rfl (by decide +kernel) ⟨Nat.le_of_ble_eq_true rfl, Nat.le_of_ble_eq_true rfl⟩) (ci := 5) (q0 := 0) rfl (rfl) rfl rfl (Nat.le_of_ble_eq_true rfl) ⟨by show cells + 0 ≤ 601024; omega, by show slots + 0 ≤ 7293034; omega⟩ rfl rfl dL_law_179 ?_
  intro _ hu
  show jj_W _ _ _ _ _ _ _ _ _ _ _ _ _ _ _ _ _ 182 _ [.int (iI 0)] (wM ad cI cJ cZ 0 td pr a1 a2 dv n K St Ex Am Ov Bj Aj BL AL He Co Ca mo sh co sd (va_up Cz 5 ((Cz 5) + ((f_W a1 a2 dv td n K St Ex Am He Ca sh pr) - (f_W up dn dv td n K St Ex Am He Ca sh pr)))) ab_2 b_2 ++ (wH ha cA hA nA ed cI cJ cZ td pr a1 a2 dv r8_1 sd mc n mo sh co Ca (va_up Cz 5 ((Cz 5) + ((f_W a1 a2 dv td n K St Ex Am He Ca sh pr) - (f_W up dn dv td n K St Ex Am He Ca sh pr)))) K St Ex Am Bi As BL AL He Co ++ ((o, .inl (cJ, 1, .inr (.inl (lA F)))) :: GG)))
  refine jj_iload C0 0 rfl dL_law_182 ?_
  refine jj_icmp_eq C0 (by omega) (by omega) dL_law_184 (tgt := 189) (by decide) (fun c_3 => ?_) (fun c_3 => absurd c_3 (by omega))
  refine jj_goto C0 (tgt := 1530) dL_law_189 (by decide) ?_
  refine jj_toH ?_
  refine jj_lv [1, 2, 3, 4, 5] rfl ?_
  exact kK cA hA nA ed r8_1 F mc GG 0 b_2 ab_2 td pr a1 a2 dv sd n mo sh co Ca (va_up Cz 5 ((Cz 5) + ((f_W a1 a2 dv td n K St Ex Am He Ca sh pr) - (f_W up dn dv td n K St Ex Am He Ca sh pr)))) K St Ex Am Ov Bi As Bj Aj BL AL He Co _ _ (⟨⟨htd, hn, hpr, hx, hy, hdv, hsd, hmo, hsh⟩, (f_IV_k hV).2⟩) (hG) (by omega) (by omega)
set_option maxHeartbeats 4000000 in
set_option maxRecDepth 100000 in
theorem ll_steps_r (hC9 : f_CC p l s m args meth c9 dC dI A cI cJ cZ cO es mi sa b L xs) (hi : i + 5 ≤ L) (hik : i = 5 * k) (hcs : cells + 8 ≤ 601024 ∧ slots + 80 ≤ 7293034) (hI : f_IV k td n pr up dn dv sd mo sh Ca K St Ex Am Ov Bi As Bj Aj BL AL He Co) (hG : f_LG cO es n ed cA GG) (kK : f_KK p l e s m args below meth c9 dC dI A Q ha ad cI cJ cZ cO o es b i k cells slots) {a1 a2 : Int} (h1 : (xs (i + 1)).toInt = a1) (h2 : (xs (i + 2)).toInt = a2) (hr1 : iR a1) (hr2 : iR a2) (hb : ¬ (1 ≤ a1 ∧ a1 ≤ 10 ∧ 1 ≤ a2 ∧ a2 ≤ 10)) : jj_W p l e room_1 s m args below meth c9 (dC, dI) vwCl A 8 cells slots Q 144 [(4, .int (iI (i : Int))), (3, .ref o), (2, .ref (ad 0)), (1, .ref (ha 0)), (0, .ref b)] [] (wH ha cA hA nA ed cI cJ cZ td pr up dn dv rw sd mc n mo sh co Ca Cz K St Ex Am Bi As BL AL He Co ++ ((o, .inl (cJ, 1, .inr (.inl (lA F)))) :: (GG ++ wM ad cI cJ cZ th td pr up dn dv n K St Ex Am Ov Bj Aj BL AL He Co Ca mo sh co sd Cz Ab be))) := by
  obtain ⟨C0, hl, hX, hbl, hbA, hL⟩ := hC9
  have hw := C0.2.2.2.2.1
  have hEV := hEVW es mi sa
  have hV := hI
  obtain ⟨⟨htd, hn, hpr, hup, hdn, hdv, hsd, hmo, hsh⟩, ⟨hK, hSt, hEx, hAm, hOv, hovs, hexs, hovn⟩, hQ9, ⟨hHe, hsums, hHz⟩, ⟨hCo, hCz⟩, hCa⟩ := hI
  have hQ := hQ9
  obtain ⟨hBi, hAs, hBj, hAj, hBL, hAL, hQt, hQ0, hQn, hQo⟩ := hQ9
  have hED0 : 0 < n → f_ED cA n ed cO (GG ++ wM ad cI cJ cZ th td pr up dn dv n K St Ex Am Ov Bj Aj BL AL He Co Ca mo sh co sd Cz Ab be) := f_LG_ED hG
  have hexs1 : ∀ c, c < n → Ex c ≤ (td : Int) + 10 := fun c hc => (hexs c hc).1
  have hk5 : k ≤ 511 := by omega
  have hHe9 : ∀ j, -999000 ≤ He j ∧ He j ≤ 999000 := fun j => by have := hHe j; omega
  have hHe6 : ∀ j, -1000000 ≤ He j ∧ He j ≤ 1000000 := fun j => by have := hHe j; omega
  have hCa9 : ∀ j, -100000000000000000 ≤ Ca j ∧ Ca j ≤ 100000000000000000 := fun j => by have := hCa j; omega
  refine jj_aload_n C0 3 rfl dL_law_144 ?_
  refine jj_aload_n C0 4 rfl dL_law_145 ?_
  refine jj_iload C0 0 rfl dL_law_146 ?_
  refine jj_iconst C0 dL_law_148 ?_
  refine jj_iadd C0 dL_law_149 ?_
  refine jj_sald C0 hX hbl hbA hL (k := (i + 1)) (by omega) (by omega) dL_law_150 ?_
  refine jj_topi (b := a1) h1 ?_
  refine jj_aload_n C0 4 rfl dL_law_151 ?_
  refine jj_iload C0 0 rfl dL_law_152 ?_
  refine jj_iconst C0 dL_law_154 ?_
  refine jj_iadd C0 dL_law_155 ?_
  refine jj_sald C0 hX hbl hbA hL (k := (i + 2)) (by omega) (by omega) dL_law_156 ?_
  refine jj_topi (b := a2) h2 ?_
  refine jj_callSWi C0 (cells' := cells + 1) (slots' := slots + 6) (jj_weaki (fun A U H h => h.1) (cr_L_steps hl (x := a1) (y := a2) hb hr1 hr2 hED0)) (vx_cwSW 3 hw (lw_gW hU_321 hU_322 hU_59 hU_323) rfl rfl rfl (by decide +kernel) ⟨Nat.le_of_ble_eq_true rfl, Nat.le_of_ble_eq_true rfl⟩) rfl rfl (Nat.le_of_ble_eq_true rfl) ⟨by show cells + 1 ≤ 601024; omega, by show slots + 6 ≤ 7293034; omega⟩ rfl rfl dL_law_157 ?_
  intro _ hu
  show jj_W _ _ _ _ _ _ _ _ _ _ _ _ _ _ _ _ _ 160 _ [.int (iI 1)] (wH ha cA hA nA ed cI cJ cZ td pr up dn dv rw sd mc n mo sh co Ca Cz K St Ex Am Bi As BL AL He Co ++ ((o, .inl (cJ, 1, .inr (.inl (lA F)))) :: (GG ++ wM ad cI cJ cZ th td pr up dn dv n K St Ex Am Ov Bj Aj BL AL He Co Ca mo sh co sd Cz Ab be)))
  refine jj_istore C0 (lv' := [(5, .int (iI 1)), (4, .int (iI (i : Int))), (3, .ref o), (2, .ref (ad 0)), (1, .ref (ha 0)), (0, .ref b)]) (by decide) rfl dL_law_160 ?_
  refine jj_toM ?_
  refine jj_aload_n C0 3 rfl dL_law_162 ?_
  refine jj_aload_n C0 5 rfl dL_law_163 ?_
  refine jj_iload C0 1 rfl dL_law_164 ?_
  refine jj_iconst C0 dL_law_166 ?_
  refine jj_iadd C0 dL_law_167 ?_
  refine jj_sald C0 hX hbl hbA hL (k := (i + 1)) (by omega) (by omega) dL_law_168 ?_
  refine jj_topi (b := a1) h1 ?_
  refine jj_aload_n C0 5 rfl dL_law_169 ?_
  refine jj_iload C0 1 rfl dL_law_170 ?_
  refine jj_iconst C0 dL_law_172 ?_
  refine jj_iadd C0 dL_law_173 ?_
  refine jj_sald C0 hX hbl hbA hL (k := (i + 2)) (by omega) (by omega) dL_law_174 ?_
  refine jj_topi (b := a2) h2 ?_
  refine jj_callVv C0 (cells' := (cells + 1)) (slots' := (slots + 6)) (cb_X4_steps hEV (x := a1) (y := a2) (kk := 1) hr1 hr2 (⟨hb, rfl⟩)) (cwV 2 hw (lw_gV hU_869 hU_870 hU_871 hU_66 hU_872) rfl rfl rfl (by decide +kernel) ⟨Nat.le_of_ble_eq_true rfl, Nat.le_of_ble_eq_true rfl⟩) (ci := 5) (q0 := 0) rfl (rfl) rfl rfl (Nat.le_of_ble_eq_true rfl) ⟨by show (cells + 1) + 0 ≤ 601024; omega, by show (slots + 6) + 0 ≤ 7293034; omega⟩ rfl rfl dL_law_175 ?_
  intro _ hu
  show jj_W _ _ _ _ _ _ _ _ _ _ _ _ _ _ _ _ _ 178 _ [] (wM ad cI cJ cZ 1 td pr up dn dv n K St Ex Am Ov Bj Aj BL AL He Co Ca mo sh co sd Cz Ab be ++ (wH ha cA hA nA ed cI cJ cZ td pr up dn dv rw sd mc n mo sh co Ca Cz K St Ex Am Bi As BL AL He Co ++ ((o, .inl (cJ, 1, .inr (.inl (lA F)))) :: GG)))
  refine jj_aload_n C0 3 rfl dL_law_178 ?_
  refine jj_callVi C0 (cells' := (cells + 1)) (slots' := (slots + 6)) (cc_X4_thrown hEV  ) (cwV 0 hw (lw_gV hU_865 hU_866 hU_867 hU_66 hU_868) rfl rfl rfl (by decide +kernel) ⟨Nat.le_of_ble_eq_true rfl, Nat.le_of_ble_eq_true rfl⟩) (ci := 5) (q0 := 0) rfl (rfl) rfl rfl (Nat.le_of_ble_eq_true rfl) ⟨by show (cells + 1) + 0 ≤ 601024; omega, by show (slots + 6) + 0 ≤ 7293034; omega⟩ rfl rfl dL_law_179 ?_
  intro _ hu
  show jj_W _ _ _ _ _ _ _ _ _ _ _ _ _ _ _ _ _ 182 _ [.int (iI 1)] (wM ad cI cJ cZ 1 td pr up dn dv n K St Ex Am Ov Bj Aj BL AL He Co Ca mo sh co sd Cz Ab be ++ (wH ha cA hA nA ed cI cJ cZ td pr up dn dv rw sd mc n mo sh co Ca Cz K St Ex Am Bi As BL AL He Co ++ ((o, .inl (cJ, 1, .inr (.inl (lA F)))) :: GG)))
  refine jj_iload C0 0 rfl dL_law_182 ?_
  refine jj_icmp_eq C0 (by omega) (by omega) dL_law_184 (tgt := 189) (by decide) (fun c_1 => ?_) (fun c_1 => absurd c_1 (by omega))
  refine jj_goto C0 (tgt := 1530) dL_law_189 (by decide) ?_
  refine jj_toH ?_
  refine jj_lv [1, 2, 3, 4, 5] rfl ?_
  exact kK cA hA nA ed rw F mc GG 1 be Ab td pr up dn dv sd n mo sh co Ca Cz K St Ex Am Ov Bi As Bj Aj BL AL He Co _ _ (f_IV_k hV) (hG) (by omega) (by omega)
set_option maxHeartbeats 4000000 in
set_option maxRecDepth 100000 in
theorem ll_move (hC9 : f_CC p l s m args meth c9 dC dI A cI cJ cZ cO es mi sa b L xs) (hi : i + 5 ≤ L) (hik : i = 5 * k) (hcs : cells + 8 ≤ 601024 ∧ slots + 80 ≤ 7293034) (hI : f_IV k td n pr up dn dv sd mo sh Ca K St Ex Am Ov Bi As Bj Aj BL AL He Co) (hG : f_LG cO es n ed cA GG) (kK : f_KK p l e s m args below meth c9 dC dI A Q ha ad cI cJ cZ cO o es b i k cells slots) {a1 : Int} (h1 : (xs (i + 1)).toInt = a1) (hx : 0 ≤ a1 ∧ a1 ≤ 20000) : jj_W p l e room_1 s m args below meth c9 (dC, dI) vwCl A 8 cells slots Q 192 [(4, .int (iI (i : Int))), (3, .ref o), (2, .ref (ad 0)), (1, .ref (ha 0)), (0, .ref b)] [] (wH ha cA hA nA ed cI cJ cZ td pr up dn dv rw sd mc n mo sh co Ca Cz K St Ex Am Bi As BL AL He Co ++ ((o, .inl (cJ, 1, .inr (.inl (lA F)))) :: (GG ++ wM ad cI cJ cZ th td pr up dn dv n K St Ex Am Ov Bj Aj BL AL He Co Ca mo sh co sd Cz Ab be))) := by
  obtain ⟨C0, hl, hX, hbl, hbA, hL⟩ := hC9
  have hw := C0.2.2.2.2.1
  have hEV := hEVW es mi sa
  have hV := hI
  obtain ⟨⟨htd, hn, hpr, hup, hdn, hdv, hsd, hmo, hsh⟩, ⟨hK, hSt, hEx, hAm, hOv, hovs, hexs, hovn⟩, hQ9, ⟨hHe, hsums, hHz⟩, ⟨hCo, hCz⟩, hCa⟩ := hI
  have hQ := hQ9
  obtain ⟨hBi, hAs, hBj, hAj, hBL, hAL, hQt, hQ0, hQn, hQo⟩ := hQ9
  have hED0 : 0 < n → f_ED cA n ed cO (GG ++ wM ad cI cJ cZ th td pr up dn dv n K St Ex Am Ov Bj Aj BL AL He Co Ca mo sh co sd Cz Ab be) := f_LG_ED hG
  have hexs1 : ∀ c, c < n → Ex c ≤ (td : Int) + 10 := fun c hc => (hexs c hc).1
  have hk5 : k ≤ 511 := by omega
  have hHe9 : ∀ j, -999000 ≤ He j ∧ He j ≤ 999000 := fun j => by have := hHe j; omega
  have hHe6 : ∀ j, -1000000 ≤ He j ∧ He j ≤ 1000000 := fun j => by have := hHe j; omega
  have hCa9 : ∀ j, -100000000000000000 ≤ Ca j ∧ Ca j ≤ 100000000000000000 := fun j => by have := hCa j; omega
  refine jj_aload_n C0 3 rfl dL_law_192 ?_
  refine jj_aload_n C0 4 rfl dL_law_193 ?_
  refine jj_iload C0 0 rfl dL_law_194 ?_
  refine jj_iconst C0 dL_law_196 ?_
  refine jj_iadd C0 dL_law_197 ?_
  refine jj_sald C0 hX hbl hbA hL (k := (i + 1)) (by omega) (by omega) dL_law_198 ?_
  refine jj_topi (b := a1) h1 ?_
  refine jj_aload_n C0 1 rfl dL_law_199 ?_
  refine jj_callSWi C0 (cells' := cells) (slots' := slots) (jj_weaki (fun A U H h => h.1) (cw_L_move hl (x := a1) hx hpr hexs1 hn htd hup hdn hdv hK hSt hEx hAm hHe6 hsh hED0)) (vx_cwSW 3 hw (lw_gW hU_404 hU_405 hU_59 hU_406) rfl rfl rfl (by decide +kernel) ⟨Nat.le_of_ble_eq_true rfl, Nat.le_of_ble_eq_true rfl⟩) rfl rfl (Nat.le_of_ble_eq_true rfl) ⟨by show cells + 0 ≤ 601024; omega, by show slots + 0 ≤ 7293034; omega⟩ rfl rfl dL_law_200 ?_
  intro r8_1 hu
  show jj_W _ _ _ _ _ _ _ _ _ _ _ _ _ _ _ _ _ 203 _ [.int (iI 0)] (wH ha cA hA nA ed cI cJ cZ td a1 up dn dv r8_1 sd mc n mo sh co Ca (va_up Cz 1 ((Cz 1) + ((f_W up dn dv td n K St Ex Am He Ca sh a1) - (f_W up dn dv td n K St Ex Am He Ca sh pr)))) K St Ex Am Bi As BL AL He Co ++ ((o, .inl (cJ, 1, .inr (.inl (lA (va_up F 0 ((f_W up dn dv td n K St Ex Am He Ca sh a1) - (f_W up dn dv td n K St Ex Am He Ca sh pr))))))) :: (GG ++ wM ad cI cJ cZ th td pr up dn dv n K St Ex Am Ov Bj Aj BL AL He Co Ca mo sh co sd Cz Ab be)))
  refine jj_istore C0 (lv' := [(5, .int (iI 0)), (4, .int (iI (i : Int))), (3, .ref o), (2, .ref (ad 0)), (1, .ref (ha 0)), (0, .ref b)]) (by decide) rfl dL_law_203 ?_
  refine jj_toM ?_
  refine jj_aload_n C0 3 rfl dL_law_205 ?_
  refine jj_aload_n C0 5 rfl dL_law_206 ?_
  refine jj_iload C0 1 rfl dL_law_207 ?_
  refine jj_iconst C0 dL_law_209 ?_
  refine jj_iadd C0 dL_law_210 ?_
  refine jj_sald C0 hX hbl hbA hL (k := (i + 1)) (by omega) (by omega) dL_law_211 ?_
  refine jj_topi (b := a1) h1 ?_
  refine jj_callVl C0 (cells' := cells) (slots' := slots) (cc_X4_move hEV (x := a1) hx hovs hexs hn htd hpr hup hdn hdv hK hSt hEx hAm hOv hHe6 hsh) (cwV 1 hw (lw_gV hU_901 hU_902 hU_903 hU_66 hU_904) rfl rfl rfl (by decide +kernel) ⟨Nat.le_of_ble_eq_true rfl, Nat.le_of_ble_eq_true rfl⟩) (ci := 5) (q0 := 0) rfl (rfl) rfl rfl (Nat.le_of_ble_eq_true rfl) ⟨by show cells + 0 ≤ 601024; omega, by show slots + 0 ≤ 7293034; omega⟩ rfl rfl dL_law_212 ?_
  intro u hu
  obtain ⟨ab_2, b_2⟩ := u
  show jj_W _ _ _ _ _ _ _ _ _ _ _ _ _ _ _ _ _ 215 _ [.long (lI ((f_W up dn dv td n K St Ex Am He Ca sh a1) - (f_W up dn dv td n K St Ex Am He Ca sh pr)))] (wM ad cI cJ cZ 0 td a1 up dn dv n K St Ex Am Ov Bj Aj BL AL He Co Ca mo sh co sd (va_up Cz 1 ((Cz 1) + ((f_W up dn dv td n K St Ex Am He Ca sh a1) - (f_W up dn dv td n K St Ex Am He Ca sh pr)))) ab_2 b_2 ++ (wH ha cA hA nA ed cI cJ cZ td a1 up dn dv r8_1 sd mc n mo sh co Ca (va_up Cz 1 ((Cz 1) + ((f_W up dn dv td n K St Ex Am He Ca sh a1) - (f_W up dn dv td n K St Ex Am He Ca sh pr)))) K St Ex Am Bi As BL AL He Co ++ ((o, .inl (cJ, 1, .inr (.inl (lA (va_up F 0 ((f_W up dn dv td n K St Ex Am He Ca sh a1) - (f_W up dn dv td n K St Ex Am He Ca sh pr))))))) :: GG)))
  refine jj_lstore C0 (lv' := [(6, .long (lI ((f_W up dn dv td n K St Ex Am He Ca sh a1) - (f_W up dn dv td n K St Ex Am He Ca sh pr)))), (5, .int (iI 0)), (4, .int (iI (i : Int))), (3, .ref o), (2, .ref (ad 0)), (1, .ref (ha 0)), (0, .ref b)]) (by decide) rfl dL_law_215 ?_
  refine jj_aload_n C0 4 rfl dL_law_217 ?_
  refine jj_callVi C0 (cells' := cells) (slots' := slots) (cc_X4_thrown hEV  ) (cwV 0 hw (lw_gV hU_865 hU_866 hU_867 hU_66 hU_868) rfl rfl rfl (by decide +kernel) ⟨Nat.le_of_ble_eq_true rfl, Nat.le_of_ble_eq_true rfl⟩) (ci := 5) (q0 := 0) rfl (rfl) rfl rfl (Nat.le_of_ble_eq_true rfl) ⟨by show cells + 0 ≤ 601024; omega, by show slots + 0 ≤ 7293034; omega⟩ rfl rfl dL_law_218 ?_
  intro _ hu
  show jj_W _ _ _ _ _ _ _ _ _ _ _ _ _ _ _ _ _ 221 _ [.int (iI 0)] (wM ad cI cJ cZ 0 td a1 up dn dv n K St Ex Am Ov Bj Aj BL AL He Co Ca mo sh co sd (va_up Cz 1 ((Cz 1) + ((f_W up dn dv td n K St Ex Am He Ca sh a1) - (f_W up dn dv td n K St Ex Am He Ca sh pr)))) ab_2 b_2 ++ (wH ha cA hA nA ed cI cJ cZ td a1 up dn dv r8_1 sd mc n mo sh co Ca (va_up Cz 1 ((Cz 1) + ((f_W up dn dv td n K St Ex Am He Ca sh a1) - (f_W up dn dv td n K St Ex Am He Ca sh pr)))) K St Ex Am Bi As BL AL He Co ++ ((o, .inl (cJ, 1, .inr (.inl (lA (va_up F 0 ((f_W up dn dv td n K St Ex Am He Ca sh a1) - (f_W up dn dv td n K St Ex Am He Ca sh pr))))))) :: GG)))
  refine jj_iload C0 1 rfl dL_law_221 ?_
  refine jj_icmp_eq C0 (by omega) (by omega) dL_law_223 (tgt := 228) (by decide) (fun c_3 => ?_) (fun c_3 => absurd c_3 (by omega))
  refine jj_iload C0 1 rfl dL_law_228 ?_
  refine jj_if_ne C0 (by omega) dL_law_230 (tgt := 244) (by decide) (fun c_4 => absurd c_4 (by omega)) (fun c_4 => ?_)
  refine jj_toH ?_
  refine jj_aload_n C0 3 rfl dL_law_233 ?_
  refine jj_iconst C0 dL_law_234 ?_
  refine jj_lald C0 (q0 := (8 + (3 * n + 0))) (t0 := 1) (f := (va_up F 0 ((f_W up dn dv td n K St Ex Am He Ca sh a1) - (f_W up dn dv td n K St Ex Am He Ca sh pr)))) ((wH_ee (n := n) rfl)) rfl (k := 0) (by omega) (by omega) (by decide) dL_law_235 ?_
  refine jj_topl (b := ((f_W up dn dv td n K St Ex Am He Ca sh a1) - (f_W up dn dv td n K St Ex Am He Ca sh pr))) (va_up_self _ _ _) ?_
  refine jj_lload C0 0 rfl dL_law_236 ?_
  refine jj_lcmpS C0 dL_law_238 dL_law_239 (tgt := 244) (by decide) ?_
  refine jj_goto C0 (tgt := 1530) dL_law_244 (by decide) ?_
  refine jj_lv [2, 3, 4, 5, 6] rfl ?_
  exact kK cA hA nA ed r8_1 (va_up F 0 ((f_W up dn dv td n K St Ex Am He Ca sh a1) - (f_W up dn dv td n K St Ex Am He Ca sh pr))) mc GG 0 b_2 ab_2 td a1 up dn dv sd n mo sh co Ca (va_up Cz 1 ((Cz 1) + ((f_W up dn dv td n K St Ex Am He Ca sh a1) - (f_W up dn dv td n K St Ex Am He Ca sh pr)))) K St Ex Am Ov Bi As Bj Aj BL AL He Co _ _ (⟨⟨htd, hn, hx, hup, hdn, hdv, hsd, hmo, hsh⟩, (f_IV_k hV).2⟩) (hG) (by omega) (by omega)
set_option maxHeartbeats 4000000 in
set_option maxRecDepth 100000 in
theorem ll_move_r (hC9 : f_CC p l s m args meth c9 dC dI A cI cJ cZ cO es mi sa b L xs) (hi : i + 5 ≤ L) (hik : i = 5 * k) (hcs : cells + 8 ≤ 601024 ∧ slots + 80 ≤ 7293034) (hI : f_IV k td n pr up dn dv sd mo sh Ca K St Ex Am Ov Bi As Bj Aj BL AL He Co) (hG : f_LG cO es n ed cA GG) (kK : f_KK p l e s m args below meth c9 dC dI A Q ha ad cI cJ cZ cO o es b i k cells slots) {a1 : Int} (h1 : (xs (i + 1)).toInt = a1) (hr1 : iR a1) (hb : ¬ (0 ≤ a1 ∧ a1 ≤ 20000)) : jj_W p l e room_1 s m args below meth c9 (dC, dI) vwCl A 8 cells slots Q 192 [(4, .int (iI (i : Int))), (3, .ref o), (2, .ref (ad 0)), (1, .ref (ha 0)), (0, .ref b)] [] (wH ha cA hA nA ed cI cJ cZ td pr up dn dv rw sd mc n mo sh co Ca Cz K St Ex Am Bi As BL AL He Co ++ ((o, .inl (cJ, 1, .inr (.inl (lA F)))) :: (GG ++ wM ad cI cJ cZ th td pr up dn dv n K St Ex Am Ov Bj Aj BL AL He Co Ca mo sh co sd Cz Ab be))) := by
  obtain ⟨C0, hl, hX, hbl, hbA, hL⟩ := hC9
  have hw := C0.2.2.2.2.1
  have hEV := hEVW es mi sa
  have hV := hI
  obtain ⟨⟨htd, hn, hpr, hup, hdn, hdv, hsd, hmo, hsh⟩, ⟨hK, hSt, hEx, hAm, hOv, hovs, hexs, hovn⟩, hQ9, ⟨hHe, hsums, hHz⟩, ⟨hCo, hCz⟩, hCa⟩ := hI
  have hQ := hQ9
  obtain ⟨hBi, hAs, hBj, hAj, hBL, hAL, hQt, hQ0, hQn, hQo⟩ := hQ9
  have hED0 : 0 < n → f_ED cA n ed cO (GG ++ wM ad cI cJ cZ th td pr up dn dv n K St Ex Am Ov Bj Aj BL AL He Co Ca mo sh co sd Cz Ab be) := f_LG_ED hG
  have hexs1 : ∀ c, c < n → Ex c ≤ (td : Int) + 10 := fun c hc => (hexs c hc).1
  have hk5 : k ≤ 511 := by omega
  have hHe9 : ∀ j, -999000 ≤ He j ∧ He j ≤ 999000 := fun j => by have := hHe j; omega
  have hHe6 : ∀ j, -1000000 ≤ He j ∧ He j ≤ 1000000 := fun j => by have := hHe j; omega
  have hCa9 : ∀ j, -100000000000000000 ≤ Ca j ∧ Ca j ≤ 100000000000000000 := fun j => by have := hCa j; omega
  refine jj_aload_n C0 3 rfl dL_law_192 ?_
  refine jj_aload_n C0 4 rfl dL_law_193 ?_
  refine jj_iload C0 0 rfl dL_law_194 ?_
  refine jj_iconst C0 dL_law_196 ?_
  refine jj_iadd C0 dL_law_197 ?_
  refine jj_sald C0 hX hbl hbA hL (k := (i + 1)) (by omega) (by omega) dL_law_198 ?_
  refine jj_topi (b := a1) h1 ?_
  refine jj_aload_n C0 1 rfl dL_law_199 ?_
  refine jj_callSWi C0 (cells' := cells + 1) (slots' := slots + 6) (jj_weaki (fun A U H h => h.1) (cr_L_move hl (x := a1) hb hr1 hED0)) (vx_cwSW 3 hw (lw_gW hU_404 hU_405 hU_59 hU_406) rfl rfl rfl (by decide +kernel) ⟨Nat.le_of_ble_eq_true rfl, Nat.le_of_ble_eq_true rfl⟩) rfl rfl (Nat.le_of_ble_eq_true rfl) ⟨by show cells + 1 ≤ 601024; omega, by show slots + 6 ≤ 7293034; omega⟩ rfl rfl dL_law_200 ?_
  intro _ hu
  show jj_W _ _ _ _ _ _ _ _ _ _ _ _ _ _ _ _ _ 203 _ [.int (iI 1)] (wH ha cA hA nA ed cI cJ cZ td pr up dn dv rw sd mc n mo sh co Ca Cz K St Ex Am Bi As BL AL He Co ++ ((o, .inl (cJ, 1, .inr (.inl (lA F)))) :: (GG ++ wM ad cI cJ cZ th td pr up dn dv n K St Ex Am Ov Bj Aj BL AL He Co Ca mo sh co sd Cz Ab be)))
  refine jj_istore C0 (lv' := [(5, .int (iI 1)), (4, .int (iI (i : Int))), (3, .ref o), (2, .ref (ad 0)), (1, .ref (ha 0)), (0, .ref b)]) (by decide) rfl dL_law_203 ?_
  refine jj_toM ?_
  refine jj_aload_n C0 3 rfl dL_law_205 ?_
  refine jj_aload_n C0 5 rfl dL_law_206 ?_
  refine jj_iload C0 1 rfl dL_law_207 ?_
  refine jj_iconst C0 dL_law_209 ?_
  refine jj_iadd C0 dL_law_210 ?_
  refine jj_sald C0 hX hbl hbA hL (k := (i + 1)) (by omega) (by omega) dL_law_211 ?_
  refine jj_topi (b := a1) h1 ?_
  refine jj_callVl C0 (cells' := (cells + 1)) (slots' := (slots + 6)) (cb_X4_move hEV (x := a1) (kk := 1) hr1 (⟨hb, rfl⟩)) (cwV 1 hw (lw_gV hU_901 hU_902 hU_903 hU_66 hU_904) rfl rfl rfl (by decide +kernel) ⟨Nat.le_of_ble_eq_true rfl, Nat.le_of_ble_eq_true rfl⟩) (ci := 5) (q0 := 0) rfl (rfl) rfl rfl (Nat.le_of_ble_eq_true rfl) ⟨by show (cells + 1) + 0 ≤ 601024; omega, by show (slots + 6) + 0 ≤ 7293034; omega⟩ rfl rfl dL_law_212 ?_
  intro u_1 hu
  show jj_W _ _ _ _ _ _ _ _ _ _ _ _ _ _ _ _ _ 215 _ [.long (lI u_1)] (wM ad cI cJ cZ 1 td pr up dn dv n K St Ex Am Ov Bj Aj BL AL He Co Ca mo sh co sd Cz Ab be ++ (wH ha cA hA nA ed cI cJ cZ td pr up dn dv rw sd mc n mo sh co Ca Cz K St Ex Am Bi As BL AL He Co ++ ((o, .inl (cJ, 1, .inr (.inl (lA F)))) :: GG)))
  refine jj_lstore C0 (lv' := [(6, .long (lI u_1)), (5, .int (iI 1)), (4, .int (iI (i : Int))), (3, .ref o), (2, .ref (ad 0)), (1, .ref (ha 0)), (0, .ref b)]) (by decide) rfl dL_law_215 ?_
  refine jj_aload_n C0 4 rfl dL_law_217 ?_
  refine jj_callVi C0 (cells' := (cells + 1)) (slots' := (slots + 6)) (cc_X4_thrown hEV  ) (cwV 0 hw (lw_gV hU_865 hU_866 hU_867 hU_66 hU_868) rfl rfl rfl (by decide +kernel) ⟨Nat.le_of_ble_eq_true rfl, Nat.le_of_ble_eq_true rfl⟩) (ci := 5) (q0 := 0) rfl (rfl) rfl rfl (Nat.le_of_ble_eq_true rfl) ⟨by show (cells + 1) + 0 ≤ 601024; omega, by show (slots + 6) + 0 ≤ 7293034; omega⟩ rfl rfl dL_law_218 ?_
  intro _ hu
  show jj_W _ _ _ _ _ _ _ _ _ _ _ _ _ _ _ _ _ 221 _ [.int (iI 1)] (wM ad cI cJ cZ 1 td pr up dn dv n K St Ex Am Ov Bj Aj BL AL He Co Ca mo sh co sd Cz Ab be ++ (wH ha cA hA nA ed cI cJ cZ td pr up dn dv rw sd mc n mo sh co Ca Cz K St Ex Am Bi As BL AL He Co ++ ((o, .inl (cJ, 1, .inr (.inl (lA F)))) :: GG)))
  refine jj_iload C0 1 rfl dL_law_221 ?_
  refine jj_icmp_eq C0 (by omega) (by omega) dL_law_223 (tgt := 228) (by decide) (fun c_2 => ?_) (fun c_2 => absurd c_2 (by omega))
  refine jj_iload C0 1 rfl dL_law_228 ?_
  refine jj_if_ne C0 (by omega) dL_law_230 (tgt := 244) (by decide) (fun c_3 => ?_) (fun c_3 => absurd c_3 (by omega))
  refine jj_goto C0 (tgt := 1530) dL_law_244 (by decide) ?_
  refine jj_toH ?_
  refine jj_lv [2, 3, 4, 5, 6] rfl ?_
  exact kK cA hA nA ed rw F mc GG 1 be Ab td pr up dn dv sd n mo sh co Ca Cz K St Ex Am Ov Bi As Bj Aj BL AL He Co _ _ (f_IV_k hV) (hG) (by omega) (by omega)
set_option maxHeartbeats 4000000 in
set_option maxRecDepth 100000 in
theorem ll_dividend (hC9 : f_CC p l s m args meth c9 dC dI A cI cJ cZ cO es mi sa b L xs) (hi : i + 5 ≤ L) (hik : i = 5 * k) (hcs : cells + 8 ≤ 601024 ∧ slots + 80 ≤ 7293034) (hI : f_IV k td n pr up dn dv sd mo sh Ca K St Ex Am Ov Bi As Bj Aj BL AL He Co) (hG : f_LG cO es n ed cA GG) (kK : f_KK p l e s m args below meth c9 dC dI A Q ha ad cI cJ cZ cO o es b i k cells slots) {d : Nat} {a2 : Int} (h1 : (xs (i + 1)).toInt = (d : Int)) (h2 : (xs (i + 2)).toInt = a2) (hd : td + 1 ≤ d ∧ d ≤ 200) (hy : 0 ≤ a2 ∧ a2 ≤ 1000) : jj_W p l e room_1 s m args below meth c9 (dC, dI) vwCl A 8 cells slots Q 247 [(4, .int (iI (i : Int))), (3, .ref o), (2, .ref (ad 0)), (1, .ref (ha 0)), (0, .ref b)] [] (wH ha cA hA nA ed cI cJ cZ td pr up dn dv rw sd mc n mo sh co Ca Cz K St Ex Am Bi As BL AL He Co ++ ((o, .inl (cJ, 1, .inr (.inl (lA F)))) :: (GG ++ wM ad cI cJ cZ th td pr up dn dv n K St Ex Am Ov Bj Aj BL AL He Co Ca mo sh co sd Cz Ab be))) := by
  obtain ⟨C0, hl, hX, hbl, hbA, hL⟩ := hC9
  have hw := C0.2.2.2.2.1
  have hEV := hEVW es mi sa
  have hV := hI
  obtain ⟨⟨htd, hn, hpr, hup, hdn, hdv, hsd, hmo, hsh⟩, ⟨hK, hSt, hEx, hAm, hOv, hovs, hexs, hovn⟩, hQ9, ⟨hHe, hsums, hHz⟩, ⟨hCo, hCz⟩, hCa⟩ := hI
  have hQ := hQ9
  obtain ⟨hBi, hAs, hBj, hAj, hBL, hAL, hQt, hQ0, hQn, hQo⟩ := hQ9
  have hED0 : 0 < n → f_ED cA n ed cO (GG ++ wM ad cI cJ cZ th td pr up dn dv n K St Ex Am Ov Bj Aj BL AL He Co Ca mo sh co sd Cz Ab be) := f_LG_ED hG
  have hexs1 : ∀ c, c < n → Ex c ≤ (td : Int) + 10 := fun c hc => (hexs c hc).1
  have hk5 : k ≤ 511 := by omega
  have hHe9 : ∀ j, -999000 ≤ He j ∧ He j ≤ 999000 := fun j => by have := hHe j; omega
  have hHe6 : ∀ j, -1000000 ≤ He j ∧ He j ≤ 1000000 := fun j => by have := hHe j; omega
  have hCa9 : ∀ j, -100000000000000000 ≤ Ca j ∧ Ca j ≤ 100000000000000000 := fun j => by have := hCa j; omega
  refine jj_aload_n C0 3 rfl dL_law_247 ?_
  refine jj_aload_n C0 4 rfl dL_law_248 ?_
  refine jj_iload C0 0 rfl dL_law_249 ?_
  refine jj_iconst C0 dL_law_251 ?_
  refine jj_iadd C0 dL_law_252 ?_
  refine jj_sald C0 hX hbl hbA hL (k := (i + 1)) (by omega) (by omega) dL_law_253 ?_
  refine jj_topi (b := (d : Int)) h1 ?_
  refine jj_aload_n C0 4 rfl dL_law_254 ?_
  refine jj_iload C0 0 rfl dL_law_255 ?_
  refine jj_iconst C0 dL_law_257 ?_
  refine jj_iadd C0 dL_law_258 ?_
  refine jj_sald C0 hX hbl hbA hL (k := (i + 2)) (by omega) (by omega) dL_law_259 ?_
  refine jj_topi (b := a2) h2 ?_
  refine jj_aload_n C0 1 rfl dL_law_260 ?_
  refine jj_callSWi C0 (cells' := cells) (slots' := slots) (jj_weaki (fun A U H h => h.1) (cw_L_dividend hl (d := d) (y := a2) hd hy hpr hexs1 hn htd hup hdn hdv hK hSt hEx hAm hHe6 hsh hED0 (by have := hdv d; omega))) (vx_cwSW 4 hw (lw_gW hU_411 hU_412 hU_59 hU_413) rfl rfl rfl (by decide +kernel) ⟨Nat.le_of_ble_eq_true rfl, Nat.le_of_ble_eq_true rfl⟩) rfl rfl (Nat.le_of_ble_eq_true rfl) ⟨by show cells + 0 ≤ 601024; omega, by show slots + 0 ≤ 7293034; omega⟩ rfl rfl dL_law_261 ?_
  intro r8_1 hu
  show jj_W _ _ _ _ _ _ _ _ _ _ _ _ _ _ _ _ _ 264 _ [.int (iI 0)] (wH ha cA hA nA ed cI cJ cZ td pr up dn (va_up dv d a2) r8_1 sd mc n mo sh co Ca (va_up Cz 5 ((Cz 5) + ((f_W up dn (va_up dv d a2) td n K St Ex Am He Ca sh pr) - (f_W up dn dv td n K St Ex Am He Ca sh pr)))) K St Ex Am Bi As BL AL He Co ++ ((o, .inl (cJ, 1, .inr (.inl (lA (va_up F 0 (dv d)))))) :: (GG ++ wM ad cI cJ cZ th td pr up dn dv n K St Ex Am Ov Bj Aj BL AL He Co Ca mo sh co sd Cz Ab be)))
  refine jj_istore C0 (lv' := [(5, .int (iI 0)), (4, .int (iI (i : Int))), (3, .ref o), (2, .ref (ad 0)), (1, .ref (ha 0)), (0, .ref b)]) (by decide) rfl dL_law_264 ?_
  refine jj_toM ?_
  refine jj_aload_n C0 3 rfl dL_law_266 ?_
  refine jj_aload_n C0 5 rfl dL_law_267 ?_
  refine jj_iload C0 1 rfl dL_law_268 ?_
  refine jj_iconst C0 dL_law_270 ?_
  refine jj_iadd C0 dL_law_271 ?_
  refine jj_sald C0 hX hbl hbA hL (k := (i + 1)) (by omega) (by omega) dL_law_272 ?_
  refine jj_topi (b := (d : Int)) h1 ?_
  refine jj_aload_n C0 5 rfl dL_law_273 ?_
  refine jj_iload C0 1 rfl dL_law_274 ?_
  refine jj_iconst C0 dL_law_276 ?_
  refine jj_iadd C0 dL_law_277 ?_
  refine jj_sald C0 hX hbl hbA hL (k := (i + 2)) (by omega) (by omega) dL_law_278 ?_
  refine jj_topi (b := a2) h2 ?_
  refine jj_callVi C0 (cells' := cells) (slots' := slots) (cc_X4_dividend hEV (d := d) (y := a2) hd hy hovs hexs hn htd hpr hup hdn hdv hK hSt hEx hAm hOv hHe6 hsh) (cwV 2 hw (lw_gV hU_906 hU_907 hU_908 hU_66 hU_909) rfl rfl rfl (by decide +kernel) ⟨Nat.le_of_ble_eq_true rfl, Nat.le_of_ble_eq_true rfl⟩) (ci := 5) (q0 := 0) rfl (rfl) rfl rfl (Nat.le_of_ble_eq_true rfl) ⟨by show cells + 0 ≤ 601024; omega, by show slots + 0 ≤ 7293034; omega⟩ rfl rfl dL_law_279 ?_
  intro u hu
  obtain ⟨ab_2, b_2⟩ := u
  show jj_W _ _ _ _ _ _ _ _ _ _ _ _ _ _ _ _ _ 282 _ [.int (iI (dv d))] (wM ad cI cJ cZ 0 td pr up dn (va_up dv d a2) n K St Ex Am Ov Bj Aj BL AL He Co Ca mo sh co sd (va_up Cz 5 ((Cz 5) + ((f_W up dn (va_up dv d a2) td n K St Ex Am He Ca sh pr) - (f_W up dn dv td n K St Ex Am He Ca sh pr)))) ab_2 b_2 ++ (wH ha cA hA nA ed cI cJ cZ td pr up dn (va_up dv d a2) r8_1 sd mc n mo sh co Ca (va_up Cz 5 ((Cz 5) + ((f_W up dn (va_up dv d a2) td n K St Ex Am He Ca sh pr) - (f_W up dn dv td n K St Ex Am He Ca sh pr)))) K St Ex Am Bi As BL AL He Co ++ ((o, .inl (cJ, 1, .inr (.inl (lA (va_up F 0 (dv d)))))) :: GG)))
  refine jj_istore C0 (lv' := [(6, .int (iI (dv d))), (5, .int (iI 0)), (4, .int (iI (i : Int))), (3, .ref o), (2, .ref (ad 0)), (1, .ref (ha 0)), (0, .ref b)]) (by decide) rfl dL_law_282 ?_
  refine jj_aload_n C0 4 rfl dL_law_284 ?_
  refine jj_callVi C0 (cells' := cells) (slots' := slots) (cc_X4_thrown hEV  ) (cwV 0 hw (lw_gV hU_865 hU_866 hU_867 hU_66 hU_868) rfl rfl rfl (by decide +kernel) ⟨Nat.le_of_ble_eq_true rfl, Nat.le_of_ble_eq_true rfl⟩) (ci := 5) (q0 := 0) rfl (rfl) rfl rfl (Nat.le_of_ble_eq_true rfl) ⟨by show cells + 0 ≤ 601024; omega, by show slots + 0 ≤ 7293034; omega⟩ rfl rfl dL_law_285 ?_
  intro _ hu
  show jj_W _ _ _ _ _ _ _ _ _ _ _ _ _ _ _ _ _ 288 _ [.int (iI 0)] (wM ad cI cJ cZ 0 td pr up dn (va_up dv d a2) n K St Ex Am Ov Bj Aj BL AL He Co Ca mo sh co sd (va_up Cz 5 ((Cz 5) + ((f_W up dn (va_up dv d a2) td n K St Ex Am He Ca sh pr) - (f_W up dn dv td n K St Ex Am He Ca sh pr)))) ab_2 b_2 ++ (wH ha cA hA nA ed cI cJ cZ td pr up dn (va_up dv d a2) r8_1 sd mc n mo sh co Ca (va_up Cz 5 ((Cz 5) + ((f_W up dn (va_up dv d a2) td n K St Ex Am He Ca sh pr) - (f_W up dn dv td n K St Ex Am He Ca sh pr)))) K St Ex Am Bi As BL AL He Co ++ ((o, .inl (cJ, 1, .inr (.inl (lA (va_up F 0 (dv d)))))) :: GG)))
  refine jj_iload C0 1 rfl dL_law_288 ?_
  refine jj_icmp_eq C0 (by omega) (by omega) dL_law_290 (tgt := 295) (by decide) (fun c_3 => ?_) (fun c_3 => absurd c_3 (by omega))
  refine jj_iload C0 1 rfl dL_law_295 ?_
  refine jj_if_ne C0 (by omega) dL_law_297 (tgt := 312) (by decide) (fun c_4 => absurd c_4 (by omega)) (fun c_4 => ?_)
  refine jj_toH ?_
  refine jj_aload_n C0 3 rfl dL_law_300 ?_
  refine jj_iconst C0 dL_law_301 ?_
  refine jj_lald C0 (q0 := (8 + (3 * n + 0))) (t0 := 1) (f := (va_up F 0 (dv d))) ((wH_ee (n := n) rfl)) rfl (k := 0) (by omega) (by omega) (by decide) dL_law_302 ?_
  refine jj_topl (b := (dv d)) (va_up_self _ _ _) ?_
  refine jj_iload C0 0 rfl dL_law_303 ?_
  refine jj_i2l C0 (by have := hdv d; omega) dL_law_305 ?_
  refine jj_lcmpS C0 dL_law_306 dL_law_307 (tgt := 312) (by decide) ?_
  refine jj_goto C0 (tgt := 1530) dL_law_312 (by decide) ?_
  refine jj_lv [2, 3, 4, 5, 6] rfl ?_
  exact kK cA hA nA ed r8_1 (va_up F 0 (dv d)) mc GG 0 b_2 ab_2 td pr up dn (va_up dv d a2) sd n mo sh co Ca (va_up Cz 5 ((Cz 5) + ((f_W up dn (va_up dv d a2) td n K St Ex Am He Ca sh pr) - (f_W up dn dv td n K St Ex Am He Ca sh pr)))) K St Ex Am Ov Bi As Bj Aj BL AL He Co _ _ (⟨⟨htd, hn, hpr, hup, hdn, up_bd hdv hy, hsd, hmo, hsh⟩, (f_IV_k hV).2⟩) (hG) (by omega) (by omega)
set_option maxHeartbeats 4000000 in
set_option maxRecDepth 100000 in
theorem ll_dividend_r (hC9 : f_CC p l s m args meth c9 dC dI A cI cJ cZ cO es mi sa b L xs) (hi : i + 5 ≤ L) (hik : i = 5 * k) (hcs : cells + 8 ≤ 601024 ∧ slots + 80 ≤ 7293034) (hI : f_IV k td n pr up dn dv sd mo sh Ca K St Ex Am Ov Bi As Bj Aj BL AL He Co) (hG : f_LG cO es n ed cA GG) (kK : f_KK p l e s m args below meth c9 dC dI A Q ha ad cI cJ cZ cO o es b i k cells slots) {a1 a2 : Int} (h1 : (xs (i + 1)).toInt = a1) (h2 : (xs (i + 2)).toInt = a2) (hr1 : iR a1) (hr2 : iR a2) (hb : ¬ ((td : Int) + 1 ≤ a1 ∧ a1 ≤ 200 ∧ 0 ≤ a2 ∧ a2 ≤ 1000)) : jj_W p l e room_1 s m args below meth c9 (dC, dI) vwCl A 8 cells slots Q 247 [(4, .int (iI (i : Int))), (3, .ref o), (2, .ref (ad 0)), (1, .ref (ha 0)), (0, .ref b)] [] (wH ha cA hA nA ed cI cJ cZ td pr up dn dv rw sd mc n mo sh co Ca Cz K St Ex Am Bi As BL AL He Co ++ ((o, .inl (cJ, 1, .inr (.inl (lA F)))) :: (GG ++ wM ad cI cJ cZ th td pr up dn dv n K St Ex Am Ov Bj Aj BL AL He Co Ca mo sh co sd Cz Ab be))) := by
  obtain ⟨C0, hl, hX, hbl, hbA, hL⟩ := hC9
  have hw := C0.2.2.2.2.1
  have hEV := hEVW es mi sa
  have hV := hI
  obtain ⟨⟨htd, hn, hpr, hup, hdn, hdv, hsd, hmo, hsh⟩, ⟨hK, hSt, hEx, hAm, hOv, hovs, hexs, hovn⟩, hQ9, ⟨hHe, hsums, hHz⟩, ⟨hCo, hCz⟩, hCa⟩ := hI
  have hQ := hQ9
  obtain ⟨hBi, hAs, hBj, hAj, hBL, hAL, hQt, hQ0, hQn, hQo⟩ := hQ9
  have hED0 : 0 < n → f_ED cA n ed cO (GG ++ wM ad cI cJ cZ th td pr up dn dv n K St Ex Am Ov Bj Aj BL AL He Co Ca mo sh co sd Cz Ab be) := f_LG_ED hG
  have hexs1 : ∀ c, c < n → Ex c ≤ (td : Int) + 10 := fun c hc => (hexs c hc).1
  have hk5 : k ≤ 511 := by omega
  have hHe9 : ∀ j, -999000 ≤ He j ∧ He j ≤ 999000 := fun j => by have := hHe j; omega
  have hHe6 : ∀ j, -1000000 ≤ He j ∧ He j ≤ 1000000 := fun j => by have := hHe j; omega
  have hCa9 : ∀ j, -100000000000000000 ≤ Ca j ∧ Ca j ≤ 100000000000000000 := fun j => by have := hCa j; omega
  refine jj_aload_n C0 3 rfl dL_law_247 ?_
  refine jj_aload_n C0 4 rfl dL_law_248 ?_
  refine jj_iload C0 0 rfl dL_law_249 ?_
  refine jj_iconst C0 dL_law_251 ?_
  refine jj_iadd C0 dL_law_252 ?_
  refine jj_sald C0 hX hbl hbA hL (k := (i + 1)) (by omega) (by omega) dL_law_253 ?_
  refine jj_topi (b := a1) h1 ?_
  refine jj_aload_n C0 4 rfl dL_law_254 ?_
  refine jj_iload C0 0 rfl dL_law_255 ?_
  refine jj_iconst C0 dL_law_257 ?_
  refine jj_iadd C0 dL_law_258 ?_
  refine jj_sald C0 hX hbl hbA hL (k := (i + 2)) (by omega) (by omega) dL_law_259 ?_
  refine jj_topi (b := a2) h2 ?_
  refine jj_aload_n C0 1 rfl dL_law_260 ?_
  refine jj_callSWi C0 (cells' := cells + 1) (slots' := slots + 6) (jj_weaki (fun A U H h => h.1) (cr_L_dividend hl (x := a1) (y := a2) hb hr1 hr2 htd hED0)) (vx_cwSW 4 hw (lw_gW hU_411 hU_412 hU_59 hU_413) rfl rfl rfl (by decide +kernel) ⟨Nat.le_of_ble_eq_true rfl, Nat.le_of_ble_eq_true rfl⟩) rfl rfl (Nat.le_of_ble_eq_true rfl) ⟨by show cells + 1 ≤ 601024; omega, by show slots + 6 ≤ 7293034; omega⟩ rfl rfl dL_law_261 ?_
  intro _ hu
  show jj_W _ _ _ _ _ _ _ _ _ _ _ _ _ _ _ _ _ 264 _ [.int (iI 1)] (wH ha cA hA nA ed cI cJ cZ td pr up dn dv rw sd mc n mo sh co Ca Cz K St Ex Am Bi As BL AL He Co ++ ((o, .inl (cJ, 1, .inr (.inl (lA F)))) :: (GG ++ wM ad cI cJ cZ th td pr up dn dv n K St Ex Am Ov Bj Aj BL AL He Co Ca mo sh co sd Cz Ab be)))
  refine jj_istore C0 (lv' := [(5, .int (iI 1)), (4, .int (iI (i : Int))), (3, .ref o), (2, .ref (ad 0)), (1, .ref (ha 0)), (0, .ref b)]) (by decide) rfl dL_law_264 ?_
  refine jj_toM ?_
  refine jj_aload_n C0 3 rfl dL_law_266 ?_
  refine jj_aload_n C0 5 rfl dL_law_267 ?_
  refine jj_iload C0 1 rfl dL_law_268 ?_
  refine jj_iconst C0 dL_law_270 ?_
  refine jj_iadd C0 dL_law_271 ?_
  refine jj_sald C0 hX hbl hbA hL (k := (i + 1)) (by omega) (by omega) dL_law_272 ?_
  refine jj_topi (b := a1) h1 ?_
  refine jj_aload_n C0 5 rfl dL_law_273 ?_
  refine jj_iload C0 1 rfl dL_law_274 ?_
  refine jj_iconst C0 dL_law_276 ?_
  refine jj_iadd C0 dL_law_277 ?_
  refine jj_sald C0 hX hbl hbA hL (k := (i + 2)) (by omega) (by omega) dL_law_278 ?_
  refine jj_topi (b := a2) h2 ?_
  refine jj_callVi C0 (cells' := (cells + 1)) (slots' := (slots + 6)) (cb_X4_dividend hEV (x := a1) (y := a2) (kk := 1) hr1 hr2 htd (⟨hb, rfl⟩)) (cwV 2 hw (lw_gV hU_906 hU_907 hU_908 hU_66 hU_909) rfl rfl rfl (by decide +kernel) ⟨Nat.le_of_ble_eq_true rfl, Nat.le_of_ble_eq_true rfl⟩) (ci := 5) (q0 := 0) rfl (rfl) rfl rfl (Nat.le_of_ble_eq_true rfl) ⟨by show (cells + 1) + 0 ≤ 601024; omega, by show (slots + 6) + 0 ≤ 7293034; omega⟩ rfl rfl dL_law_279 ?_
  intro u_1 hu
  show jj_W _ _ _ _ _ _ _ _ _ _ _ _ _ _ _ _ _ 282 _ [.int (iI u_1)] (wM ad cI cJ cZ 1 td pr up dn dv n K St Ex Am Ov Bj Aj BL AL He Co Ca mo sh co sd Cz Ab be ++ (wH ha cA hA nA ed cI cJ cZ td pr up dn dv rw sd mc n mo sh co Ca Cz K St Ex Am Bi As BL AL He Co ++ ((o, .inl (cJ, 1, .inr (.inl (lA F)))) :: GG)))
  refine jj_istore C0 (lv' := [(6, .int (iI u_1)), (5, .int (iI 1)), (4, .int (iI (i : Int))), (3, .ref o), (2, .ref (ad 0)), (1, .ref (ha 0)), (0, .ref b)]) (by decide) rfl dL_law_282 ?_
  refine jj_aload_n C0 4 rfl dL_law_284 ?_
  refine jj_callVi C0 (cells' := (cells + 1)) (slots' := (slots + 6)) (cc_X4_thrown hEV  ) (cwV 0 hw (lw_gV hU_865 hU_866 hU_867 hU_66 hU_868) rfl rfl rfl (by decide +kernel) ⟨Nat.le_of_ble_eq_true rfl, Nat.le_of_ble_eq_true rfl⟩) (ci := 5) (q0 := 0) rfl (rfl) rfl rfl (Nat.le_of_ble_eq_true rfl) ⟨by show (cells + 1) + 0 ≤ 601024; omega, by show (slots + 6) + 0 ≤ 7293034; omega⟩ rfl rfl dL_law_285 ?_
  intro _ hu
  show jj_W _ _ _ _ _ _ _ _ _ _ _ _ _ _ _ _ _ 288 _ [.int (iI 1)] (wM ad cI cJ cZ 1 td pr up dn dv n K St Ex Am Ov Bj Aj BL AL He Co Ca mo sh co sd Cz Ab be ++ (wH ha cA hA nA ed cI cJ cZ td pr up dn dv rw sd mc n mo sh co Ca Cz K St Ex Am Bi As BL AL He Co ++ ((o, .inl (cJ, 1, .inr (.inl (lA F)))) :: GG)))
  refine jj_iload C0 1 rfl dL_law_288 ?_
  refine jj_icmp_eq C0 (by omega) (by omega) dL_law_290 (tgt := 295) (by decide) (fun c_2 => ?_) (fun c_2 => absurd c_2 (by omega))
  refine jj_iload C0 1 rfl dL_law_295 ?_
  refine jj_if_ne C0 (by omega) dL_law_297 (tgt := 312) (by decide) (fun c_3 => ?_) (fun c_3 => absurd c_3 (by omega))
  refine jj_goto C0 (tgt := 1530) dL_law_312 (by decide) ?_
  refine jj_toH ?_
  refine jj_lv [2, 3, 4, 5, 6] rfl ?_
  exact kK cA hA nA ed rw F mc GG 1 be Ab td pr up dn dv sd n mo sh co Ca Cz K St Ex Am Ov Bi As Bj Aj BL AL He Co _ _ (f_IV_k hV) (hG) (by omega) (by omega)
set_option maxHeartbeats 4000000 in
set_option maxRecDepth 100000 in
theorem ll_contract (hC9 : f_CC p l s m args meth c9 dC dI A cI cJ cZ cO es mi sa b L xs) (hi : i + 5 ≤ L) (hik : i = 5 * k) (hcs : cells + 8 ≤ 601024 ∧ slots + 80 ≤ 7293034) (hI : f_IV k td n pr up dn dv sd mo sh Ca K St Ex Am Ov Bi As Bj Aj BL AL He Co) (hG : f_LG cO es n ed cA GG) (kK : f_KK p l e s m args below meth c9 dC dI A Q ha ad cI cJ cZ cO o es b i k cells slots) {a1 a2 a3 a4 vb : Int} (h1 : (xs (i + 1)).toInt = a1) (h2 : (xs (i + 2)).toInt = a2) (h3 : (xs (i + 3)).toInt = a3) (h4 : (xs (i + 4)).toInt = a4) (hr4 : iR a4) (hvb : (a4 ≠ 0 ∧ vb = 1) ∨ (a4 = 0 ∧ vb = 0)) (hx : 0 ≤ a1 ∧ a1 ≤ 1) (hy : 0 ≤ a2 ∧ a2 ≤ 20000) (hz3 : (td : Int) ≤ a3 ∧ a3 ≤ (td : Int) + 10 ∧ a3 ≤ 200) (hnn : n < 12) (hpos : 0 < n) : jj_W p l e room_1 s m args below meth c9 (dC, dI) vwCl A 8 cells slots Q 315 [(4, .int (iI (i : Int))), (3, .ref o), (2, .ref (ad 0)), (1, .ref (ha 0)), (0, .ref b)] [] (wH ha cA hA nA ed cI cJ cZ td pr up dn dv rw sd mc n mo sh co Ca Cz K St Ex Am Bi As BL AL He Co ++ ((o, .inl (cJ, 1, .inr (.inl (lA F)))) :: (GG ++ wM ad cI cJ cZ th td pr up dn dv n K St Ex Am Ov Bj Aj BL AL He Co Ca mo sh co sd Cz Ab be))) := by
  obtain ⟨C0, hl, hX, hbl, hbA, hL⟩ := hC9
  have hw := C0.2.2.2.2.1
  have hEV := hEVW es mi sa
  have hV := hI
  obtain ⟨⟨htd, hn, hpr, hup, hdn, hdv, hsd, hmo, hsh⟩, ⟨hK, hSt, hEx, hAm, hOv, hovs, hexs, hovn⟩, hQ9, ⟨hHe, hsums, hHz⟩, ⟨hCo, hCz⟩, hCa⟩ := hI
  have hQ := hQ9
  obtain ⟨hBi, hAs, hBj, hAj, hBL, hAL, hQt, hQ0, hQn, hQo⟩ := hQ9
  have hED0 : 0 < n → f_ED cA n ed cO (GG ++ wM ad cI cJ cZ th td pr up dn dv n K St Ex Am Ov Bj Aj BL AL He Co Ca mo sh co sd Cz Ab be) := f_LG_ED hG
  have hexs1 : ∀ c, c < n → Ex c ≤ (td : Int) + 10 := fun c hc => (hexs c hc).1
  have hk5 : k ≤ 511 := by omega
  have hHe9 : ∀ j, -999000 ≤ He j ∧ He j ≤ 999000 := fun j => by have := hHe j; omega
  have hHe6 : ∀ j, -1000000 ≤ He j ∧ He j ≤ 1000000 := fun j => by have := hHe j; omega
  have hCa9 : ∀ j, -100000000000000000 ≤ Ca j ∧ Ca j ≤ 100000000000000000 := fun j => by have := hCa j; omega
  obtain ⟨cap, fe, G, hGe, hcap1, hcap2, hfe⟩ := hG.1 hpos
  subst hGe
  refine jj_aload_n C0 3 rfl dL_law_315 ?_
  refine jj_aload_n C0 4 rfl dL_law_316 ?_
  refine jj_iload C0 0 rfl dL_law_317 ?_
  refine jj_iconst C0 dL_law_319 ?_
  refine jj_iadd C0 dL_law_320 ?_
  refine jj_sald C0 hX hbl hbA hL (k := (i + 1)) (by omega) (by omega) dL_law_321 ?_
  refine jj_topi (b := a1) h1 ?_
  refine jj_aload_n C0 4 rfl dL_law_322 ?_
  refine jj_iload C0 0 rfl dL_law_323 ?_
  refine jj_iconst C0 dL_law_325 ?_
  refine jj_iadd C0 dL_law_326 ?_
  refine jj_sald C0 hX hbl hbA hL (k := (i + 2)) (by omega) (by omega) dL_law_327 ?_
  refine jj_topi (b := a2) h2 ?_
  refine jj_aload_n C0 4 rfl dL_law_328 ?_
  refine jj_iload C0 0 rfl dL_law_329 ?_
  refine jj_iconst C0 dL_law_331 ?_
  refine jj_iadd C0 dL_law_332 ?_
  refine jj_sald C0 hX hbl hbA hL (k := (i + 3)) (by omega) (by omega) dL_law_333 ?_
  refine jj_topi (b := a3) h3 ?_
  refine jj_aload_n C0 4 rfl dL_law_334 ?_
  refine jj_iload C0 0 rfl dL_law_335 ?_
  refine jj_iconst C0 dL_law_337 ?_
  refine jj_iadd C0 dL_law_338 ?_
  refine jj_sald C0 hX hbl hbA hL (k := (i + 4)) (by omega) (by omega) dL_law_339 ?_
  refine jj_topi (b := a4) h4 ?_
  refine jj_bool C0 (by omega) hvb dL_law_340 dL_law_343 dL_law_344 dL_law_347 ?_
  refine jj_aload_n C0 1 rfl dL_law_348 ?_
  refine jj_ws (ws' := wH ha cA hA nA ed cI cJ cZ td pr up dn dv rw sd mc n mo sh co Ca Cz K St Ex Am Bi As BL AL He Co ++ ((o, .inl (cJ, 1, .inr (.inl (lA F)))) :: ((ed, .inl (cO, cap, .inr (.inr (.inr (.inr fe))))) :: (G ++ wM ad cI cJ cZ th td pr up dn dv n K St Ex Am Ov Bj Aj BL AL He Co Ca mo sh co sd Cz Ab be)))) rfl ?_
  refine jj_callSWi C0 (cells' := cells + 7) (slots' := slots + 78) (jj_weaki (fun A U H h => h.1) (cw_L_contract hl (k := a1) (y := a2) (ex := a3) (am := vb) (by omega) hy hz3 (by omega) hnn htd (⟨hcap1, hcap2⟩) hfe (⟨(by have := hQn n (Nat.le_refl _); have := hQ0 n; omega), (by have := hQn n (Nat.le_refl _); have := hQ0 n; omega), (hQn n (Nat.le_refl _)).1, (hQn n (Nat.le_refl _)).2, fun j hj => hHz _ (by omega), fun j hj => hCz _ (by omega)⟩))) (vx_cwSW 6 hw (lw_gW hU_423 hU_424 hU_59 hU_425) rfl rfl rfl (by decide +kernel) ⟨Nat.le_of_ble_eq_true rfl, Nat.le_of_ble_eq_true rfl⟩) rfl rfl (Nat.le_of_ble_eq_true rfl) ⟨by show cells + 7 ≤ 601024; omega, by show slots + 78 ≤ 7293034; omega⟩ rfl rfl dL_law_349 ?_
  intro u hu
  obtain ⟨q1, q2, q3, e2, cp, f2, G2⟩ := u
  have hu_c : n + 1 ≤ cp ∧ cp ≤ 1000 ∧ ∀ j, j < n + 1 → f2 j = some (va_up cA n q1 j) := hu
  show jj_W _ _ _ _ _ _ _ _ _ _ _ _ _ _ _ _ _ 352 _ [.int (iI 0)] (wH ha (va_up cA n q1) (va_up hA n q2) (va_up nA n q3) e2 cI cJ cZ td pr up dn dv rw sd (mc + 1) (n + 1) mo sh co Ca Cz (va_up K n a1) (va_up St n a2) (va_up Ex n a3) (va_up Am n vb) Bi As BL AL He Co ++ ((o, .inl (cJ, 1, .inr (.inl (lA (va_up F 0 (n : Int)))))) :: ((e2, .inl (cO, cp, .inr (.inr (.inr (.inr f2))))) :: (G2 ++ (G ++ wM ad cI cJ cZ th td pr up dn dv n K St Ex Am Ov Bj Aj BL AL He Co Ca mo sh co sd Cz Ab be)))))
  refine jj_ws (ws' := wH ha (va_up cA n q1) (va_up hA n q2) (va_up nA n q3) e2 cI cJ cZ td pr up dn dv rw sd (mc + 1) (n + 1) mo sh co Ca Cz (va_up K n a1) (va_up St n a2) (va_up Ex n a3) (va_up Am n vb) Bi As BL AL He Co ++ ((o, .inl (cJ, 1, .inr (.inl (lA (va_up F 0 (n : Int)))))) :: (((e2, .inl (cO, cp, .inr (.inr (.inr (.inr f2))))) :: (G2 ++ G)) ++ wM ad cI cJ cZ th td pr up dn dv n K St Ex Am Ov Bj Aj BL AL He Co Ca mo sh co sd Cz Ab be))) (by rw [List.cons_append, List.append_assoc]) ?_
  show jj_W _ _ _ _ _ _ _ _ _ _ _ _ _ _ _ _ _ 352 _ [.int (iI 0)] (wH ha (va_up cA n q1) (va_up hA n q2) (va_up nA n q3) e2 cI cJ cZ td pr up dn dv rw sd (mc + 1) (n + 1) mo sh co Ca Cz (va_up K n a1) (va_up St n a2) (va_up Ex n a3) (va_up Am n vb) Bi As BL AL He Co ++ ((o, .inl (cJ, 1, .inr (.inl (lA (va_up F 0 (n : Int)))))) :: (((e2, .inl (cO, cp, .inr (.inr (.inr (.inr f2))))) :: (G2 ++ G)) ++ wM ad cI cJ cZ th td pr up dn dv n K St Ex Am Ov Bj Aj BL AL He Co Ca mo sh co sd Cz Ab be)))
  refine jj_istore C0 (lv' := [(5, .int (iI 0)), (4, .int (iI (i : Int))), (3, .ref o), (2, .ref (ad 0)), (1, .ref (ha 0)), (0, .ref b)]) (by decide) rfl dL_law_352 ?_
  refine jj_toM ?_
  refine jj_aload_n C0 3 rfl dL_law_354 ?_
  refine jj_aload_n C0 5 rfl dL_law_355 ?_
  refine jj_iload C0 1 rfl dL_law_356 ?_
  refine jj_iconst C0 dL_law_358 ?_
  refine jj_iadd C0 dL_law_359 ?_
  refine jj_sald C0 hX hbl hbA hL (k := (i + 1)) (by omega) (by omega) dL_law_360 ?_
  refine jj_topi (b := a1) h1 ?_
  refine jj_aload_n C0 5 rfl dL_law_361 ?_
  refine jj_iload C0 1 rfl dL_law_362 ?_
  refine jj_iconst C0 dL_law_364 ?_
  refine jj_iadd C0 dL_law_365 ?_
  refine jj_sald C0 hX hbl hbA hL (k := (i + 2)) (by omega) (by omega) dL_law_366 ?_
  refine jj_topi (b := a2) h2 ?_
  refine jj_aload_n C0 5 rfl dL_law_367 ?_
  refine jj_iload C0 1 rfl dL_law_368 ?_
  refine jj_iconst C0 dL_law_370 ?_
  refine jj_iadd C0 dL_law_371 ?_
  refine jj_sald C0 hX hbl hbA hL (k := (i + 3)) (by omega) (by omega) dL_law_372 ?_
  refine jj_topi (b := a3) h3 ?_
  refine jj_aload_n C0 5 rfl dL_law_373 ?_
  refine jj_iload C0 1 rfl dL_law_374 ?_
  refine jj_iconst C0 dL_law_376 ?_
  refine jj_iadd C0 dL_law_377 ?_
  refine jj_sald C0 hX hbl hbA hL (k := (i + 4)) (by omega) (by omega) dL_law_378 ?_
  refine jj_topi (b := a4) h4 ?_
  refine jj_bool C0 (by omega) hvb dL_law_379 dL_law_382 dL_law_383 dL_law_386 ?_
  refine jj_callVi C0 (cells' := (cells + 7)) (slots' := (slots + 78)) (cc_X4_contract hEV (x := a1) (y := a2) (z := a3) (v := vb) hx hy hz3 (by omega) hnn htd) (cwV 4 hw (lw_gV hU_911 hU_912 hU_913 hU_66 hU_914) rfl rfl rfl (by decide +kernel) ⟨Nat.le_of_ble_eq_true rfl, Nat.le_of_ble_eq_true rfl⟩) (ci := 5) (q0 := 0) rfl (rfl) rfl rfl (Nat.le_of_ble_eq_true rfl) ⟨by show (cells + 7) + 0 ≤ 601024; omega, by show (slots + 78) + 0 ≤ 7293034; omega⟩ rfl rfl dL_law_387 ?_
  intro _ hu
  show jj_W _ _ _ _ _ _ _ _ _ _ _ _ _ _ _ _ _ 390 _ [.int (iI (n : Int))] (wM ad cI cJ cZ 0 td pr up dn dv (n + 1) (va_up K n a1) (va_up St n a2) (va_up Ex n a3) (va_up Am n vb) Ov Bj Aj BL AL He Co Ca mo sh co sd Cz Ab be ++ (wH ha (va_up cA n q1) (va_up hA n q2) (va_up nA n q3) e2 cI cJ cZ td pr up dn dv rw sd (mc + 1) (n + 1) mo sh co Ca Cz (va_up K n a1) (va_up St n a2) (va_up Ex n a3) (va_up Am n vb) Bi As BL AL He Co ++ ((o, .inl (cJ, 1, .inr (.inl (lA (va_up F 0 (n : Int)))))) :: ((e2, .inl (cO, cp, .inr (.inr (.inr (.inr f2))))) :: (G2 ++ G)))))
  refine jj_istore C0 (lv' := [(6, .int (iI (n : Int))), (5, .int (iI 0)), (4, .int (iI (i : Int))), (3, .ref o), (2, .ref (ad 0)), (1, .ref (ha 0)), (0, .ref b)]) (by decide) rfl dL_law_390 ?_
  refine jj_aload_n C0 4 rfl dL_law_392 ?_
  refine jj_callVi C0 (cells' := (cells + 7)) (slots' := (slots + 78)) (cc_X4_thrown hEV  ) (cwV 0 hw (lw_gV hU_865 hU_866 hU_867 hU_66 hU_868) rfl rfl rfl (by decide +kernel) ⟨Nat.le_of_ble_eq_true rfl, Nat.le_of_ble_eq_true rfl⟩) (ci := 5) (q0 := 0) rfl (rfl) rfl rfl (Nat.le_of_ble_eq_true rfl) ⟨by show (cells + 7) + 0 ≤ 601024; omega, by show (slots + 78) + 0 ≤ 7293034; omega⟩ rfl rfl dL_law_393 ?_
  intro _ hu
  show jj_W _ _ _ _ _ _ _ _ _ _ _ _ _ _ _ _ _ 396 _ [.int (iI 0)] (wM ad cI cJ cZ 0 td pr up dn dv (n + 1) (va_up K n a1) (va_up St n a2) (va_up Ex n a3) (va_up Am n vb) Ov Bj Aj BL AL He Co Ca mo sh co sd Cz Ab be ++ (wH ha (va_up cA n q1) (va_up hA n q2) (va_up nA n q3) e2 cI cJ cZ td pr up dn dv rw sd (mc + 1) (n + 1) mo sh co Ca Cz (va_up K n a1) (va_up St n a2) (va_up Ex n a3) (va_up Am n vb) Bi As BL AL He Co ++ ((o, .inl (cJ, 1, .inr (.inl (lA (va_up F 0 (n : Int)))))) :: ((e2, .inl (cO, cp, .inr (.inr (.inr (.inr f2))))) :: (G2 ++ G)))))
  refine jj_iload C0 1 rfl dL_law_396 ?_
  refine jj_icmp_eq C0 (by omega) (by omega) dL_law_398 (tgt := 403) (by decide) (fun c_1 => ?_) (fun c_1 => absurd c_1 (by omega))
  refine jj_iload C0 1 rfl dL_law_403 ?_
  refine jj_if_ne C0 (by omega) dL_law_405 (tgt := 420) (by decide) (fun c_2 => absurd c_2 (by omega)) (fun c_2 => ?_)
  refine jj_toH ?_
  refine jj_aload_n C0 3 rfl dL_law_408 ?_
  refine jj_iconst C0 dL_law_409 ?_
  refine jj_lald C0 (q0 := (8 + (3 * (n + 1) + 0))) (t0 := 1) (f := (va_up F 0 (n : Int))) ((wH_ee (n := (n + 1)) rfl)) rfl (k := 0) (by omega) (by omega) (by decide) dL_law_410 ?_
  refine jj_topl (b := (n : Int)) (va_up_self _ _ _) ?_
  refine jj_iload C0 0 rfl dL_law_411 ?_
  refine jj_i2l C0 (by omega) dL_law_413 ?_
  refine jj_lcmpS C0 dL_law_414 dL_law_415 (tgt := 420) (by decide) ?_
  refine jj_goto C0 (tgt := 1530) dL_law_420 (by decide) ?_
  refine jj_lv [2, 3, 4, 5, 6] rfl ?_
  exact kK (va_up cA n q1) (va_up hA n q2) (va_up nA n q3) e2 rw (va_up F 0 (n : Int)) (mc + 1) ((e2, .inl (cO, cp, .inr (.inr (.inr (.inr f2))))) :: (G2 ++ G)) 0 be Ab td pr up dn dv sd (n + 1) mo sh co Ca Cz (va_up K n a1) (va_up St n a2) (va_up Ex n a3) (va_up Am n vb) Ov Bi As Bj Aj BL AL He Co _ _ (f_IV_contract hV hnn hx hy hz3 (by omega)) (⟨fun _ => ⟨cp, f2, G2 ++ G, rfl, hu_c.1, hu_c.2.1, hu_c.2.2⟩, fun h => absurd h (Nat.succ_ne_zero n)⟩) (by omega) (by omega)
set_option maxHeartbeats 4000000 in
set_option maxRecDepth 100000 in
theorem ll_contract_0 (hC9 : f_CC p l s m args meth c9 dC dI A cI cJ cZ cO es mi sa b L xs) (hi : i + 5 ≤ L) (hik : i = 5 * k) (hcs : cells + 8 ≤ 601024 ∧ slots + 80 ≤ 7293034) (hI : f_IV k td 0 pr up dn dv sd mo sh Ca K St Ex Am Ov Bi As Bj Aj BL AL He Co) (hG : f_LG cO es 0 es cA GG) (kK : f_KK p l e s m args below meth c9 dC dI A Q ha ad cI cJ cZ cO o es b i k cells slots) {a1 a2 a3 a4 vb : Int} (h1 : (xs (i + 1)).toInt = a1) (h2 : (xs (i + 2)).toInt = a2) (h3 : (xs (i + 3)).toInt = a3) (h4 : (xs (i + 4)).toInt = a4) (hr4 : iR a4) (hvb : (a4 ≠ 0 ∧ vb = 1) ∨ (a4 = 0 ∧ vb = 0)) (hx : 0 ≤ a1 ∧ a1 ≤ 1) (hy : 0 ≤ a2 ∧ a2 ≤ 20000) (hz3 : (td : Int) ≤ a3 ∧ a3 ≤ (td : Int) + 10 ∧ a3 ≤ 200) : jj_W p l e room_1 s m args below meth c9 (dC, dI) vwCl A 8 cells slots Q 315 [(4, .int (iI (i : Int))), (3, .ref o), (2, .ref (ad 0)), (1, .ref (ha 0)), (0, .ref b)] [] (wH ha cA hA nA es cI cJ cZ td pr up dn dv rw sd mc 0 mo sh co Ca Cz K St Ex Am Bi As BL AL He Co ++ ((o, .inl (cJ, 1, .inr (.inl (lA F)))) :: (GG ++ wM ad cI cJ cZ th td pr up dn dv 0 K St Ex Am Ov Bj Aj BL AL He Co Ca mo sh co sd Cz Ab be))) := by
  obtain ⟨C0, hl, hX, hbl, hbA, hL⟩ := hC9
  have hw := C0.2.2.2.2.1
  have hEV := hEVW es mi sa
  have hV := hI
  obtain ⟨⟨htd, hn, hpr, hup, hdn, hdv, hsd, hmo, hsh⟩, ⟨hK, hSt, hEx, hAm, hOv, hovs, hexs, hovn⟩, hQ9, ⟨hHe, hsums, hHz⟩, ⟨hCo, hCz⟩, hCa⟩ := hI
  have hQ := hQ9
  obtain ⟨hBi, hAs, hBj, hAj, hBL, hAL, hQt, hQ0, hQn, hQo⟩ := hQ9
  have hED0 : 0 < 0 → f_ED cA 0 es cO (GG ++ wM ad cI cJ cZ th td pr up dn dv 0 K St Ex Am Ov Bj Aj BL AL He Co Ca mo sh co sd Cz Ab be) := f_LG_ED hG
  have hexs1 : ∀ c, c < 0 → Ex c ≤ (td : Int) + 10 := fun c hc => (hexs c hc).1
  have hk5 : k ≤ 511 := by omega
  have hHe9 : ∀ j, -999000 ≤ He j ∧ He j ≤ 999000 := fun j => by have := hHe j; omega
  have hHe6 : ∀ j, -1000000 ≤ He j ∧ He j ≤ 1000000 := fun j => by have := hHe j; omega
  have hCa9 : ∀ j, -100000000000000000 ≤ Ca j ∧ Ca j ≤ 100000000000000000 := fun j => by have := hCa j; omega
  refine jj_aload_n C0 3 rfl dL_law_315 ?_
  refine jj_aload_n C0 4 rfl dL_law_316 ?_
  refine jj_iload C0 0 rfl dL_law_317 ?_
  refine jj_iconst C0 dL_law_319 ?_
  refine jj_iadd C0 dL_law_320 ?_
  refine jj_sald C0 hX hbl hbA hL (k := (i + 1)) (by omega) (by omega) dL_law_321 ?_
  refine jj_topi (b := a1) h1 ?_
  refine jj_aload_n C0 4 rfl dL_law_322 ?_
  refine jj_iload C0 0 rfl dL_law_323 ?_
  refine jj_iconst C0 dL_law_325 ?_
  refine jj_iadd C0 dL_law_326 ?_
  refine jj_sald C0 hX hbl hbA hL (k := (i + 2)) (by omega) (by omega) dL_law_327 ?_
  refine jj_topi (b := a2) h2 ?_
  refine jj_aload_n C0 4 rfl dL_law_328 ?_
  refine jj_iload C0 0 rfl dL_law_329 ?_
  refine jj_iconst C0 dL_law_331 ?_
  refine jj_iadd C0 dL_law_332 ?_
  refine jj_sald C0 hX hbl hbA hL (k := (i + 3)) (by omega) (by omega) dL_law_333 ?_
  refine jj_topi (b := a3) h3 ?_
  refine jj_aload_n C0 4 rfl dL_law_334 ?_
  refine jj_iload C0 0 rfl dL_law_335 ?_
  refine jj_iconst C0 dL_law_337 ?_
  refine jj_iadd C0 dL_law_338 ?_
  refine jj_sald C0 hX hbl hbA hL (k := (i + 4)) (by omega) (by omega) dL_law_339 ?_
  refine jj_topi (b := a4) h4 ?_
  refine jj_bool C0 (by omega) hvb dL_law_340 dL_law_343 dL_law_344 dL_law_347 ?_
  refine jj_aload_n C0 1 rfl dL_law_348 ?_
  refine jj_callSWi C0 (cells' := cells + 7) (slots' := slots + 78) (cw_L_contract_0 hl (k := a1) (y := a2) (ex := a3) (am := vb) (by omega) hy hz3 (by omega) htd (⟨(by have := hQn 0 (Nat.le_refl _); have := hQ0 0; omega), (by have := hQn 0 (Nat.le_refl _); have := hQ0 0; omega), (hQn 0 (Nat.le_refl _)).1, (hQn 0 (Nat.le_refl _)).2, fun j hj => hHz _ (by omega), fun j hj => hCz _ (by omega)⟩)) (vx_cwSW 6 hw (lw_gW hU_423 hU_424 hU_59 hU_425) rfl rfl rfl (by decide +kernel) ⟨Nat.le_of_ble_eq_true rfl, Nat.le_of_ble_eq_true rfl⟩) rfl rfl (Nat.le_of_ble_eq_true rfl) ⟨by show cells + 7 ≤ 601024; omega, by show slots + 78 ≤ 7293034; omega⟩ rfl rfl dL_law_349 ?_
  intro u hu
  obtain ⟨q1, q2, q3, q0⟩ := u
  show jj_W _ _ _ _ _ _ _ _ _ _ _ _ _ _ _ _ _ 352 _ [.int (iI 0)] (wH ha (va_up cA 0 q1) (va_up hA 0 q2) (va_up nA 0 q3) q0 cI cJ cZ td pr up dn dv rw sd (mc + 1) (0 + 1) mo sh co Ca Cz (va_up K 0 a1) (va_up St 0 a2) (va_up Ex 0 a3) (va_up Am 0 vb) Bi As BL AL He Co ++ ((o, .inl (cJ, 1, .inr (.inl (lA (va_up F 0 0))))) :: ((q0, .inl (cO, 10, .inr (.inr (.inr (.inr (va_up (fun _ => none) 0 (some q1))))))) :: (GG ++ wM ad cI cJ cZ th td pr up dn dv 0 K St Ex Am Ov Bj Aj BL AL He Co Ca mo sh co sd Cz Ab be))))
  refine jj_ws (ws' := wH ha (va_up cA 0 q1) (va_up hA 0 q2) (va_up nA 0 q3) q0 cI cJ cZ td pr up dn dv rw sd (mc + 1) (0 + 1) mo sh co Ca Cz (va_up K 0 a1) (va_up St 0 a2) (va_up Ex 0 a3) (va_up Am 0 vb) Bi As BL AL He Co ++ ((o, .inl (cJ, 1, .inr (.inl (lA (va_up F 0 0))))) :: (((q0, .inl (cO, 10, .inr (.inr (.inr (.inr (va_up (fun _ => none) 0 (some q1))))))) :: GG) ++ wM ad cI cJ cZ th td pr up dn dv 0 K St Ex Am Ov Bj Aj BL AL He Co Ca mo sh co sd Cz Ab be))) rfl ?_
  show jj_W _ _ _ _ _ _ _ _ _ _ _ _ _ _ _ _ _ 352 _ [.int (iI 0)] (wH ha (va_up cA 0 q1) (va_up hA 0 q2) (va_up nA 0 q3) q0 cI cJ cZ td pr up dn dv rw sd (mc + 1) (0 + 1) mo sh co Ca Cz (va_up K 0 a1) (va_up St 0 a2) (va_up Ex 0 a3) (va_up Am 0 vb) Bi As BL AL He Co ++ ((o, .inl (cJ, 1, .inr (.inl (lA (va_up F 0 0))))) :: (((q0, .inl (cO, 10, .inr (.inr (.inr (.inr (va_up (fun _ => none) 0 (some q1))))))) :: GG) ++ wM ad cI cJ cZ th td pr up dn dv 0 K St Ex Am Ov Bj Aj BL AL He Co Ca mo sh co sd Cz Ab be)))
  refine jj_istore C0 (lv' := [(5, .int (iI 0)), (4, .int (iI (i : Int))), (3, .ref o), (2, .ref (ad 0)), (1, .ref (ha 0)), (0, .ref b)]) (by decide) rfl dL_law_352 ?_
  refine jj_toM ?_
  refine jj_aload_n C0 3 rfl dL_law_354 ?_
  refine jj_aload_n C0 5 rfl dL_law_355 ?_
  refine jj_iload C0 1 rfl dL_law_356 ?_
  refine jj_iconst C0 dL_law_358 ?_
  refine jj_iadd C0 dL_law_359 ?_
  refine jj_sald C0 hX hbl hbA hL (k := (i + 1)) (by omega) (by omega) dL_law_360 ?_
  refine jj_topi (b := a1) h1 ?_
  refine jj_aload_n C0 5 rfl dL_law_361 ?_
  refine jj_iload C0 1 rfl dL_law_362 ?_
  refine jj_iconst C0 dL_law_364 ?_
  refine jj_iadd C0 dL_law_365 ?_
  refine jj_sald C0 hX hbl hbA hL (k := (i + 2)) (by omega) (by omega) dL_law_366 ?_
  refine jj_topi (b := a2) h2 ?_
  refine jj_aload_n C0 5 rfl dL_law_367 ?_
  refine jj_iload C0 1 rfl dL_law_368 ?_
  refine jj_iconst C0 dL_law_370 ?_
  refine jj_iadd C0 dL_law_371 ?_
  refine jj_sald C0 hX hbl hbA hL (k := (i + 3)) (by omega) (by omega) dL_law_372 ?_
  refine jj_topi (b := a3) h3 ?_
  refine jj_aload_n C0 5 rfl dL_law_373 ?_
  refine jj_iload C0 1 rfl dL_law_374 ?_
  refine jj_iconst C0 dL_law_376 ?_
  refine jj_iadd C0 dL_law_377 ?_
  refine jj_sald C0 hX hbl hbA hL (k := (i + 4)) (by omega) (by omega) dL_law_378 ?_
  refine jj_topi (b := a4) h4 ?_
  refine jj_bool C0 (by omega) hvb dL_law_379 dL_law_382 dL_law_383 dL_law_386 ?_
  refine jj_callVi C0 (cells' := (cells + 7)) (slots' := (slots + 78)) (cc_X4_contract hEV (x := a1) (y := a2) (z := a3) (v := vb) hx hy hz3 (by omega) (by omega) htd) (cwV 4 hw (lw_gV hU_911 hU_912 hU_913 hU_66 hU_914) rfl rfl rfl (by decide +kernel) ⟨Nat.le_of_ble_eq_true rfl, Nat.le_of_ble_eq_true rfl⟩) (ci := 5) (q0 := 0) rfl (rfl) rfl rfl (Nat.le_of_ble_eq_true rfl) ⟨by show (cells + 7) + 0 ≤ 601024; omega, by show (slots + 78) + 0 ≤ 7293034; omega⟩ rfl rfl dL_law_387 ?_
  intro _ hu
  show jj_W _ _ _ _ _ _ _ _ _ _ _ _ _ _ _ _ _ 390 _ [.int (iI (0 : Int))] (wM ad cI cJ cZ 0 td pr up dn dv (0 + 1) (va_up K 0 a1) (va_up St 0 a2) (va_up Ex 0 a3) (va_up Am 0 vb) Ov Bj Aj BL AL He Co Ca mo sh co sd Cz Ab be ++ (wH ha (va_up cA 0 q1) (va_up hA 0 q2) (va_up nA 0 q3) q0 cI cJ cZ td pr up dn dv rw sd (mc + 1) (0 + 1) mo sh co Ca Cz (va_up K 0 a1) (va_up St 0 a2) (va_up Ex 0 a3) (va_up Am 0 vb) Bi As BL AL He Co ++ ((o, .inl (cJ, 1, .inr (.inl (lA (va_up F 0 0))))) :: ((q0, .inl (cO, 10, .inr (.inr (.inr (.inr (va_up (fun _ => none) 0 (some q1))))))) :: GG))))
  refine jj_istore C0 (lv' := [(6, .int (iI (0 : Int))), (5, .int (iI 0)), (4, .int (iI (i : Int))), (3, .ref o), (2, .ref (ad 0)), (1, .ref (ha 0)), (0, .ref b)]) (by decide) rfl dL_law_390 ?_
  refine jj_aload_n C0 4 rfl dL_law_392 ?_
  refine jj_callVi C0 (cells' := (cells + 7)) (slots' := (slots + 78)) (cc_X4_thrown hEV  ) (cwV 0 hw (lw_gV hU_865 hU_866 hU_867 hU_66 hU_868) rfl rfl rfl (by decide +kernel) ⟨Nat.le_of_ble_eq_true rfl, Nat.le_of_ble_eq_true rfl⟩) (ci := 5) (q0 := 0) rfl (rfl) rfl rfl (Nat.le_of_ble_eq_true rfl) ⟨by show (cells + 7) + 0 ≤ 601024; omega, by show (slots + 78) + 0 ≤ 7293034; omega⟩ rfl rfl dL_law_393 ?_
  intro _ hu
  show jj_W _ _ _ _ _ _ _ _ _ _ _ _ _ _ _ _ _ 396 _ [.int (iI 0)] (wM ad cI cJ cZ 0 td pr up dn dv (0 + 1) (va_up K 0 a1) (va_up St 0 a2) (va_up Ex 0 a3) (va_up Am 0 vb) Ov Bj Aj BL AL He Co Ca mo sh co sd Cz Ab be ++ (wH ha (va_up cA 0 q1) (va_up hA 0 q2) (va_up nA 0 q3) q0 cI cJ cZ td pr up dn dv rw sd (mc + 1) (0 + 1) mo sh co Ca Cz (va_up K 0 a1) (va_up St 0 a2) (va_up Ex 0 a3) (va_up Am 0 vb) Bi As BL AL He Co ++ ((o, .inl (cJ, 1, .inr (.inl (lA (va_up F 0 0))))) :: ((q0, .inl (cO, 10, .inr (.inr (.inr (.inr (va_up (fun _ => none) 0 (some q1))))))) :: GG))))
  refine jj_iload C0 1 rfl dL_law_396 ?_
  refine jj_icmp_eq C0 (by omega) (by omega) dL_law_398 (tgt := 403) (by decide) (fun c_1 => ?_) (fun c_1 => absurd c_1 (by omega))
  refine jj_iload C0 1 rfl dL_law_403 ?_
  refine jj_if_ne C0 (by omega) dL_law_405 (tgt := 420) (by decide) (fun c_2 => absurd c_2 (by omega)) (fun c_2 => ?_)
  refine jj_toH ?_
  refine jj_aload_n C0 3 rfl dL_law_408 ?_
  refine jj_iconst C0 dL_law_409 ?_
  refine jj_lald C0 (q0 := (8 + (3 * (0 + 1) + 0))) (t0 := 1) (f := (va_up F 0 0)) ((wH_ee (n := (0 + 1)) rfl)) rfl (k := 0) (by omega) (by omega) (by decide) dL_law_410 ?_
  refine jj_topl (b := 0) (va_up_self _ _ _) ?_
  refine jj_iload C0 0 rfl dL_law_411 ?_
  refine jj_i2l C0 (by omega) dL_law_413 ?_
  refine jj_topl (b := 0) (rfl) ?_
  refine jj_lcmpS C0 dL_law_414 dL_law_415 (tgt := 420) (by decide) ?_
  refine jj_goto C0 (tgt := 1530) dL_law_420 (by decide) ?_
  refine jj_lv [2, 3, 4, 5, 6] rfl ?_
  exact kK (va_up cA 0 q1) (va_up hA 0 q2) (va_up nA 0 q3) q0 rw (va_up F 0 0) (mc + 1) ((q0, .inl (cO, 10, .inr (.inr (.inr (.inr (va_up (fun _ => none) 0 (some q1))))))) :: GG) 0 be Ab td pr up dn dv sd (0 + 1) mo sh co Ca Cz (va_up K 0 a1) (va_up St 0 a2) (va_up Ex 0 a3) (va_up Am 0 vb) Ov Bi As Bj Aj BL AL He Co _ _ (f_IV_contract (n := 0) hV (by omega) hx hy hz3 (by omega)) (f_LG_1) (by omega) (by omega)
set_option maxHeartbeats 4000000 in
set_option maxRecDepth 100000 in
theorem ll_contract_A (hC9 : f_CC p l s m args meth c9 dC dI A cI cJ cZ cO es mi sa b L xs) (hi : i + 5 ≤ L) (hik : i = 5 * k) (hcs : cells + 8 ≤ 601024 ∧ slots + 80 ≤ 7293034) (hI : f_IV k td n pr up dn dv sd mo sh Ca K St Ex Am Ov Bi As Bj Aj BL AL He Co) (hG : f_LG cO es n ed cA GG) (kK : f_KK p l e s m args below meth c9 dC dI A Q ha ad cI cJ cZ cO o es b i k cells slots) {a1 a2 a3 a4 vb : Int} (h1 : (xs (i + 1)).toInt = a1) (h2 : (xs (i + 2)).toInt = a2) (h3 : (xs (i + 3)).toInt = a3) (h4 : (xs (i + 4)).toInt = a4) (hr1 : iR a1) (hr2 : iR a2) (hr3 : iR a3) (hr4 : iR a4) (hvb : (a4 ≠ 0 ∧ vb = 1) ∨ (a4 = 0 ∧ vb = 0)) (hb : ¬ (0 ≤ a1 ∧ a1 ≤ 1 ∧ 0 ≤ a2 ∧ a2 ≤ 20000 ∧ (td : Int) ≤ a3 ∧ a3 ≤ (td : Int) + 10 ∧ a3 ≤ 200)) : jj_W p l e room_1 s m args below meth c9 (dC, dI) vwCl A 8 cells slots Q 315 [(4, .int (iI (i : Int))), (3, .ref o), (2, .ref (ad 0)), (1, .ref (ha 0)), (0, .ref b)] [] (wH ha cA hA nA ed cI cJ cZ td pr up dn dv rw sd mc n mo sh co Ca Cz K St Ex Am Bi As BL AL He Co ++ ((o, .inl (cJ, 1, .inr (.inl (lA F)))) :: (GG ++ wM ad cI cJ cZ th td pr up dn dv n K St Ex Am Ov Bj Aj BL AL He Co Ca mo sh co sd Cz Ab be))) := by
  obtain ⟨C0, hl, hX, hbl, hbA, hL⟩ := hC9
  have hw := C0.2.2.2.2.1
  have hEV := hEVW es mi sa
  have hV := hI
  obtain ⟨⟨htd, hn, hpr, hup, hdn, hdv, hsd, hmo, hsh⟩, ⟨hK, hSt, hEx, hAm, hOv, hovs, hexs, hovn⟩, hQ9, ⟨hHe, hsums, hHz⟩, ⟨hCo, hCz⟩, hCa⟩ := hI
  have hQ := hQ9
  obtain ⟨hBi, hAs, hBj, hAj, hBL, hAL, hQt, hQ0, hQn, hQo⟩ := hQ9
  have hED0 : 0 < n → f_ED cA n ed cO (GG ++ wM ad cI cJ cZ th td pr up dn dv n K St Ex Am Ov Bj Aj BL AL He Co Ca mo sh co sd Cz Ab be) := f_LG_ED hG
  have hexs1 : ∀ c, c < n → Ex c ≤ (td : Int) + 10 := fun c hc => (hexs c hc).1
  have hk5 : k ≤ 511 := by omega
  have hHe9 : ∀ j, -999000 ≤ He j ∧ He j ≤ 999000 := fun j => by have := hHe j; omega
  have hHe6 : ∀ j, -1000000 ≤ He j ∧ He j ≤ 1000000 := fun j => by have := hHe j; omega
  have hCa9 : ∀ j, -100000000000000000 ≤ Ca j ∧ Ca j ≤ 100000000000000000 := fun j => by have := hCa j; omega
  refine jj_aload_n C0 3 rfl dL_law_315 ?_
  refine jj_aload_n C0 4 rfl dL_law_316 ?_
  refine jj_iload C0 0 rfl dL_law_317 ?_
  refine jj_iconst C0 dL_law_319 ?_
  refine jj_iadd C0 dL_law_320 ?_
  refine jj_sald C0 hX hbl hbA hL (k := (i + 1)) (by omega) (by omega) dL_law_321 ?_
  refine jj_topi (b := a1) h1 ?_
  refine jj_aload_n C0 4 rfl dL_law_322 ?_
  refine jj_iload C0 0 rfl dL_law_323 ?_
  refine jj_iconst C0 dL_law_325 ?_
  refine jj_iadd C0 dL_law_326 ?_
  refine jj_sald C0 hX hbl hbA hL (k := (i + 2)) (by omega) (by omega) dL_law_327 ?_
  refine jj_topi (b := a2) h2 ?_
  refine jj_aload_n C0 4 rfl dL_law_328 ?_
  refine jj_iload C0 0 rfl dL_law_329 ?_
  refine jj_iconst C0 dL_law_331 ?_
  refine jj_iadd C0 dL_law_332 ?_
  refine jj_sald C0 hX hbl hbA hL (k := (i + 3)) (by omega) (by omega) dL_law_333 ?_
  refine jj_topi (b := a3) h3 ?_
  refine jj_aload_n C0 4 rfl dL_law_334 ?_
  refine jj_iload C0 0 rfl dL_law_335 ?_
  refine jj_iconst C0 dL_law_337 ?_
  refine jj_iadd C0 dL_law_338 ?_
  refine jj_sald C0 hX hbl hbA hL (k := (i + 4)) (by omega) (by omega) dL_law_339 ?_
  refine jj_topi (b := a4) h4 ?_
  refine jj_bool C0 (by omega) hvb dL_law_340 dL_law_343 dL_law_344 dL_law_347 ?_
  refine jj_aload_n C0 1 rfl dL_law_348 ?_
  refine jj_callSWi C0 (cells' := cells + 1) (slots' := slots + 6) (jj_weaki (fun A U H h => h.1) (cr_L_contract hl (x := a1) (y := a2) (z := a3) (v := vb) hb hr1 hr2 hr3 htd hED0)) (vx_cwSW 6 hw (lw_gW hU_423 hU_424 hU_59 hU_425) rfl rfl rfl (by decide +kernel) ⟨Nat.le_of_ble_eq_true rfl, Nat.le_of_ble_eq_true rfl⟩) rfl rfl (Nat.le_of_ble_eq_true rfl) ⟨by show cells + 1 ≤ 601024; omega, by show slots + 6 ≤ 7293034; omega⟩ rfl rfl dL_law_349 ?_
  intro _ hu
  show jj_W _ _ _ _ _ _ _ _ _ _ _ _ _ _ _ _ _ 352 _ [.int (iI 1)] (wH ha cA hA nA ed cI cJ cZ td pr up dn dv rw sd mc n mo sh co Ca Cz K St Ex Am Bi As BL AL He Co ++ ((o, .inl (cJ, 1, .inr (.inl (lA F)))) :: (GG ++ wM ad cI cJ cZ th td pr up dn dv n K St Ex Am Ov Bj Aj BL AL He Co Ca mo sh co sd Cz Ab be)))
  refine jj_istore C0 (lv' := [(5, .int (iI 1)), (4, .int (iI (i : Int))), (3, .ref o), (2, .ref (ad 0)), (1, .ref (ha 0)), (0, .ref b)]) (by decide) rfl dL_law_352 ?_
  refine jj_toM ?_
  refine jj_aload_n C0 3 rfl dL_law_354 ?_
  refine jj_aload_n C0 5 rfl dL_law_355 ?_
  refine jj_iload C0 1 rfl dL_law_356 ?_
  refine jj_iconst C0 dL_law_358 ?_
  refine jj_iadd C0 dL_law_359 ?_
  refine jj_sald C0 hX hbl hbA hL (k := (i + 1)) (by omega) (by omega) dL_law_360 ?_
  refine jj_topi (b := a1) h1 ?_
  refine jj_aload_n C0 5 rfl dL_law_361 ?_
  refine jj_iload C0 1 rfl dL_law_362 ?_
  refine jj_iconst C0 dL_law_364 ?_
  refine jj_iadd C0 dL_law_365 ?_
  refine jj_sald C0 hX hbl hbA hL (k := (i + 2)) (by omega) (by omega) dL_law_366 ?_
  refine jj_topi (b := a2) h2 ?_
  refine jj_aload_n C0 5 rfl dL_law_367 ?_
  refine jj_iload C0 1 rfl dL_law_368 ?_
  refine jj_iconst C0 dL_law_370 ?_
  refine jj_iadd C0 dL_law_371 ?_
  refine jj_sald C0 hX hbl hbA hL (k := (i + 3)) (by omega) (by omega) dL_law_372 ?_
  refine jj_topi (b := a3) h3 ?_
  refine jj_aload_n C0 5 rfl dL_law_373 ?_
  refine jj_iload C0 1 rfl dL_law_374 ?_
  refine jj_iconst C0 dL_law_376 ?_
  refine jj_iadd C0 dL_law_377 ?_
  refine jj_sald C0 hX hbl hbA hL (k := (i + 4)) (by omega) (by omega) dL_law_378 ?_
  refine jj_topi (b := a4) h4 ?_
  refine jj_bool C0 (by omega) hvb dL_law_379 dL_law_382 dL_law_383 dL_law_386 ?_
  refine jj_callVi C0 (cells' := (cells + 1)) (slots' := (slots + 6)) (cb_X4_contract hEV (x := a1) (y := a2) (z := a3) (v := vb) (kk := 1) hr1 hr2 hr3 (by omega) htd hn (Or.inl ⟨hb, rfl⟩)) (cwV 4 hw (lw_gV hU_911 hU_912 hU_913 hU_66 hU_914) rfl rfl rfl (by decide +kernel) ⟨Nat.le_of_ble_eq_true rfl, Nat.le_of_ble_eq_true rfl⟩) (ci := 5) (q0 := 0) rfl (rfl) rfl rfl (Nat.le_of_ble_eq_true rfl) ⟨by show (cells + 1) + 0 ≤ 601024; omega, by show (slots + 6) + 0 ≤ 7293034; omega⟩ rfl rfl dL_law_387 ?_
  intro u_1 hu
  show jj_W _ _ _ _ _ _ _ _ _ _ _ _ _ _ _ _ _ 390 _ [.int (iI u_1)] (wM ad cI cJ cZ 1 td pr up dn dv n K St Ex Am Ov Bj Aj BL AL He Co Ca mo sh co sd Cz Ab be ++ (wH ha cA hA nA ed cI cJ cZ td pr up dn dv rw sd mc n mo sh co Ca Cz K St Ex Am Bi As BL AL He Co ++ ((o, .inl (cJ, 1, .inr (.inl (lA F)))) :: GG)))
  refine jj_istore C0 (lv' := [(6, .int (iI u_1)), (5, .int (iI 1)), (4, .int (iI (i : Int))), (3, .ref o), (2, .ref (ad 0)), (1, .ref (ha 0)), (0, .ref b)]) (by decide) rfl dL_law_390 ?_
  refine jj_aload_n C0 4 rfl dL_law_392 ?_
  refine jj_callVi C0 (cells' := (cells + 1)) (slots' := (slots + 6)) (cc_X4_thrown hEV  ) (cwV 0 hw (lw_gV hU_865 hU_866 hU_867 hU_66 hU_868) rfl rfl rfl (by decide +kernel) ⟨Nat.le_of_ble_eq_true rfl, Nat.le_of_ble_eq_true rfl⟩) (ci := 5) (q0 := 0) rfl (rfl) rfl rfl (Nat.le_of_ble_eq_true rfl) ⟨by show (cells + 1) + 0 ≤ 601024; omega, by show (slots + 6) + 0 ≤ 7293034; omega⟩ rfl rfl dL_law_393 ?_
  intro _ hu
  show jj_W _ _ _ _ _ _ _ _ _ _ _ _ _ _ _ _ _ 396 _ [.int (iI 1)] (wM ad cI cJ cZ 1 td pr up dn dv n K St Ex Am Ov Bj Aj BL AL He Co Ca mo sh co sd Cz Ab be ++ (wH ha cA hA nA ed cI cJ cZ td pr up dn dv rw sd mc n mo sh co Ca Cz K St Ex Am Bi As BL AL He Co ++ ((o, .inl (cJ, 1, .inr (.inl (lA F)))) :: GG)))
  refine jj_iload C0 1 rfl dL_law_396 ?_
  refine jj_icmp_eq C0 (by omega) (by omega) dL_law_398 (tgt := 403) (by decide) (fun c_2 => ?_) (fun c_2 => absurd c_2 (by omega))
  refine jj_iload C0 1 rfl dL_law_403 ?_
  refine jj_if_ne C0 (by omega) dL_law_405 (tgt := 420) (by decide) (fun c_3 => ?_) (fun c_3 => absurd c_3 (by omega))
  refine jj_goto C0 (tgt := 1530) dL_law_420 (by decide) ?_
  refine jj_toH ?_
  refine jj_lv [2, 3, 4, 5, 6] rfl ?_
  exact kK cA hA nA ed rw F mc GG 1 be Ab td pr up dn dv sd n mo sh co Ca Cz K St Ex Am Ov Bi As Bj Aj BL AL He Co _ _ (f_IV_k hV) (hG) (by omega) (by omega)
set_option maxHeartbeats 4000000 in
set_option maxRecDepth 100000 in
theorem ll_contract_S (hC9 : f_CC p l s m args meth c9 dC dI A cI cJ cZ cO es mi sa b L xs) (hi : i + 5 ≤ L) (hik : i = 5 * k) (hcs : cells + 8 ≤ 601024 ∧ slots + 80 ≤ 7293034) (hI : f_IV k td n pr up dn dv sd mo sh Ca K St Ex Am Ov Bi As Bj Aj BL AL He Co) (hG : f_LG cO es n ed cA GG) (kK : f_KK p l e s m args below meth c9 dC dI A Q ha ad cI cJ cZ cO o es b i k cells slots) {a1 a2 a3 a4 vb : Int} (h1 : (xs (i + 1)).toInt = a1) (h2 : (xs (i + 2)).toInt = a2) (h3 : (xs (i + 3)).toInt = a3) (h4 : (xs (i + 4)).toInt = a4) (hr1 : iR a1) (hr2 : iR a2) (hr3 : iR a3) (hr4 : iR a4) (hvb : (a4 ≠ 0 ∧ vb = 1) ∨ (a4 = 0 ∧ vb = 0)) (hb : 0 ≤ a1 ∧ a1 ≤ 1 ∧ 0 ≤ a2 ∧ a2 ≤ 20000 ∧ (td : Int) ≤ a3 ∧ a3 ≤ (td : Int) + 10 ∧ a3 ≤ 200) (hn12 : n = 12) : jj_W p l e room_1 s m args below meth c9 (dC, dI) vwCl A 8 cells slots Q 315 [(4, .int (iI (i : Int))), (3, .ref o), (2, .ref (ad 0)), (1, .ref (ha 0)), (0, .ref b)] [] (wH ha cA hA nA ed cI cJ cZ td pr up dn dv rw sd mc n mo sh co Ca Cz K St Ex Am Bi As BL AL He Co ++ ((o, .inl (cJ, 1, .inr (.inl (lA F)))) :: (GG ++ wM ad cI cJ cZ th td pr up dn dv n K St Ex Am Ov Bj Aj BL AL He Co Ca mo sh co sd Cz Ab be))) := by
  obtain ⟨C0, hl, hX, hbl, hbA, hL⟩ := hC9
  have hw := C0.2.2.2.2.1
  have hEV := hEVW es mi sa
  have hV := hI
  obtain ⟨⟨htd, hn, hpr, hup, hdn, hdv, hsd, hmo, hsh⟩, ⟨hK, hSt, hEx, hAm, hOv, hovs, hexs, hovn⟩, hQ9, ⟨hHe, hsums, hHz⟩, ⟨hCo, hCz⟩, hCa⟩ := hI
  have hQ := hQ9
  obtain ⟨hBi, hAs, hBj, hAj, hBL, hAL, hQt, hQ0, hQn, hQo⟩ := hQ9
  have hED0 : 0 < n → f_ED cA n ed cO (GG ++ wM ad cI cJ cZ th td pr up dn dv n K St Ex Am Ov Bj Aj BL AL He Co Ca mo sh co sd Cz Ab be) := f_LG_ED hG
  have hexs1 : ∀ c, c < n → Ex c ≤ (td : Int) + 10 := fun c hc => (hexs c hc).1
  have hk5 : k ≤ 511 := by omega
  have hHe9 : ∀ j, -999000 ≤ He j ∧ He j ≤ 999000 := fun j => by have := hHe j; omega
  have hHe6 : ∀ j, -1000000 ≤ He j ∧ He j ≤ 1000000 := fun j => by have := hHe j; omega
  have hCa9 : ∀ j, -100000000000000000 ≤ Ca j ∧ Ca j ≤ 100000000000000000 := fun j => by have := hCa j; omega
  refine jj_aload_n C0 3 rfl dL_law_315 ?_
  refine jj_aload_n C0 4 rfl dL_law_316 ?_
  refine jj_iload C0 0 rfl dL_law_317 ?_
  refine jj_iconst C0 dL_law_319 ?_
  refine jj_iadd C0 dL_law_320 ?_
  refine jj_sald C0 hX hbl hbA hL (k := (i + 1)) (by omega) (by omega) dL_law_321 ?_
  refine jj_topi (b := a1) h1 ?_
  refine jj_aload_n C0 4 rfl dL_law_322 ?_
  refine jj_iload C0 0 rfl dL_law_323 ?_
  refine jj_iconst C0 dL_law_325 ?_
  refine jj_iadd C0 dL_law_326 ?_
  refine jj_sald C0 hX hbl hbA hL (k := (i + 2)) (by omega) (by omega) dL_law_327 ?_
  refine jj_topi (b := a2) h2 ?_
  refine jj_aload_n C0 4 rfl dL_law_328 ?_
  refine jj_iload C0 0 rfl dL_law_329 ?_
  refine jj_iconst C0 dL_law_331 ?_
  refine jj_iadd C0 dL_law_332 ?_
  refine jj_sald C0 hX hbl hbA hL (k := (i + 3)) (by omega) (by omega) dL_law_333 ?_
  refine jj_topi (b := a3) h3 ?_
  refine jj_aload_n C0 4 rfl dL_law_334 ?_
  refine jj_iload C0 0 rfl dL_law_335 ?_
  refine jj_iconst C0 dL_law_337 ?_
  refine jj_iadd C0 dL_law_338 ?_
  refine jj_sald C0 hX hbl hbA hL (k := (i + 4)) (by omega) (by omega) dL_law_339 ?_
  refine jj_topi (b := a4) h4 ?_
  refine jj_bool C0 (by omega) hvb dL_law_340 dL_law_343 dL_law_344 dL_law_347 ?_
  refine jj_aload_n C0 1 rfl dL_law_348 ?_
  refine jj_callSWi C0 (cells' := cells + 1) (slots' := slots + 6) (jj_weaki (fun A U H h => h.1) (cr_L_contract_S hl (x := a1) (y := a2) (z := a3) (v := vb) hb hn12 hr1 hr2 hr3 htd hED0)) (vx_cwSW 6 hw (lw_gW hU_423 hU_424 hU_59 hU_425) rfl rfl rfl (by decide +kernel) ⟨Nat.le_of_ble_eq_true rfl, Nat.le_of_ble_eq_true rfl⟩) rfl rfl (Nat.le_of_ble_eq_true rfl) ⟨by show cells + 1 ≤ 601024; omega, by show slots + 6 ≤ 7293034; omega⟩ rfl rfl dL_law_349 ?_
  intro _ hu
  show jj_W _ _ _ _ _ _ _ _ _ _ _ _ _ _ _ _ _ 352 _ [.int (iI 2)] (wH ha cA hA nA ed cI cJ cZ td pr up dn dv rw sd mc n mo sh co Ca Cz K St Ex Am Bi As BL AL He Co ++ ((o, .inl (cJ, 1, .inr (.inl (lA F)))) :: (GG ++ wM ad cI cJ cZ th td pr up dn dv n K St Ex Am Ov Bj Aj BL AL He Co Ca mo sh co sd Cz Ab be)))
  refine jj_istore C0 (lv' := [(5, .int (iI 2)), (4, .int (iI (i : Int))), (3, .ref o), (2, .ref (ad 0)), (1, .ref (ha 0)), (0, .ref b)]) (by decide) rfl dL_law_352 ?_
  refine jj_toM ?_
  refine jj_aload_n C0 3 rfl dL_law_354 ?_
  refine jj_aload_n C0 5 rfl dL_law_355 ?_
  refine jj_iload C0 1 rfl dL_law_356 ?_
  refine jj_iconst C0 dL_law_358 ?_
  refine jj_iadd C0 dL_law_359 ?_
  refine jj_sald C0 hX hbl hbA hL (k := (i + 1)) (by omega) (by omega) dL_law_360 ?_
  refine jj_topi (b := a1) h1 ?_
  refine jj_aload_n C0 5 rfl dL_law_361 ?_
  refine jj_iload C0 1 rfl dL_law_362 ?_
  refine jj_iconst C0 dL_law_364 ?_
  refine jj_iadd C0 dL_law_365 ?_
  refine jj_sald C0 hX hbl hbA hL (k := (i + 2)) (by omega) (by omega) dL_law_366 ?_
  refine jj_topi (b := a2) h2 ?_
  refine jj_aload_n C0 5 rfl dL_law_367 ?_
  refine jj_iload C0 1 rfl dL_law_368 ?_
  refine jj_iconst C0 dL_law_370 ?_
  refine jj_iadd C0 dL_law_371 ?_
  refine jj_sald C0 hX hbl hbA hL (k := (i + 3)) (by omega) (by omega) dL_law_372 ?_
  refine jj_topi (b := a3) h3 ?_
  refine jj_aload_n C0 5 rfl dL_law_373 ?_
  refine jj_iload C0 1 rfl dL_law_374 ?_
  refine jj_iconst C0 dL_law_376 ?_
  refine jj_iadd C0 dL_law_377 ?_
  refine jj_sald C0 hX hbl hbA hL (k := (i + 4)) (by omega) (by omega) dL_law_378 ?_
  refine jj_topi (b := a4) h4 ?_
  refine jj_bool C0 (by omega) hvb dL_law_379 dL_law_382 dL_law_383 dL_law_386 ?_
  refine jj_callVi C0 (cells' := (cells + 1)) (slots' := (slots + 6)) (cb_X4_contract hEV (x := a1) (y := a2) (z := a3) (v := vb) (kk := 2) hr1 hr2 hr3 (by omega) htd hn (Or.inr ⟨hb, hn12, rfl⟩)) (cwV 4 hw (lw_gV hU_911 hU_912 hU_913 hU_66 hU_914) rfl rfl rfl (by decide +kernel) ⟨Nat.le_of_ble_eq_true rfl, Nat.le_of_ble_eq_true rfl⟩) (ci := 5) (q0 := 0) rfl (rfl) rfl rfl (Nat.le_of_ble_eq_true rfl) ⟨by show (cells + 1) + 0 ≤ 601024; omega, by show (slots + 6) + 0 ≤ 7293034; omega⟩ rfl rfl dL_law_387 ?_
  intro u_1 hu
  show jj_W _ _ _ _ _ _ _ _ _ _ _ _ _ _ _ _ _ 390 _ [.int (iI u_1)] (wM ad cI cJ cZ 2 td pr up dn dv n K St Ex Am Ov Bj Aj BL AL He Co Ca mo sh co sd Cz Ab be ++ (wH ha cA hA nA ed cI cJ cZ td pr up dn dv rw sd mc n mo sh co Ca Cz K St Ex Am Bi As BL AL He Co ++ ((o, .inl (cJ, 1, .inr (.inl (lA F)))) :: GG)))
  refine jj_istore C0 (lv' := [(6, .int (iI u_1)), (5, .int (iI 2)), (4, .int (iI (i : Int))), (3, .ref o), (2, .ref (ad 0)), (1, .ref (ha 0)), (0, .ref b)]) (by decide) rfl dL_law_390 ?_
  refine jj_aload_n C0 4 rfl dL_law_392 ?_
  refine jj_callVi C0 (cells' := (cells + 1)) (slots' := (slots + 6)) (cc_X4_thrown hEV  ) (cwV 0 hw (lw_gV hU_865 hU_866 hU_867 hU_66 hU_868) rfl rfl rfl (by decide +kernel) ⟨Nat.le_of_ble_eq_true rfl, Nat.le_of_ble_eq_true rfl⟩) (ci := 5) (q0 := 0) rfl (rfl) rfl rfl (Nat.le_of_ble_eq_true rfl) ⟨by show (cells + 1) + 0 ≤ 601024; omega, by show (slots + 6) + 0 ≤ 7293034; omega⟩ rfl rfl dL_law_393 ?_
  intro _ hu
  show jj_W _ _ _ _ _ _ _ _ _ _ _ _ _ _ _ _ _ 396 _ [.int (iI 2)] (wM ad cI cJ cZ 2 td pr up dn dv n K St Ex Am Ov Bj Aj BL AL He Co Ca mo sh co sd Cz Ab be ++ (wH ha cA hA nA ed cI cJ cZ td pr up dn dv rw sd mc n mo sh co Ca Cz K St Ex Am Bi As BL AL He Co ++ ((o, .inl (cJ, 1, .inr (.inl (lA F)))) :: GG)))
  refine jj_iload C0 1 rfl dL_law_396 ?_
  refine jj_icmp_eq C0 (by omega) (by omega) dL_law_398 (tgt := 403) (by decide) (fun c_2 => ?_) (fun c_2 => absurd c_2 (by omega))
  refine jj_iload C0 1 rfl dL_law_403 ?_
  refine jj_if_ne C0 (by omega) dL_law_405 (tgt := 420) (by decide) (fun c_3 => ?_) (fun c_3 => absurd c_3 (by omega))
  refine jj_goto C0 (tgt := 1530) dL_law_420 (by decide) ?_
  refine jj_toH ?_
  refine jj_lv [2, 3, 4, 5, 6] rfl ?_
  exact kK cA hA nA ed rw F mc GG 2 be Ab td pr up dn dv sd n mo sh co Ca Cz K St Ex Am Ov Bi As Bj Aj BL AL He Co _ _ (f_IV_k hV) (hG) (by omega) (by omega)
set_option maxHeartbeats 4000000 in
set_option maxRecDepth 100000 in
theorem ll_quote (hC9 : f_CC p l s m args meth c9 dC dI A cI cJ cZ cO es mi sa b L xs) (hi : i + 5 ≤ L) (hik : i = 5 * k) (hcs : cells + 8 ≤ 601024 ∧ slots + 80 ≤ 7293034) (hI : f_IV k td n pr up dn dv sd mo sh Ca K St Ex Am Ov Bi As Bj Aj BL AL He Co) (hG : f_LG cO es n ed cA GG) (kK : f_KK p l e s m args below meth c9 dC dI A Q ha ad cI cJ cZ cO o es b i k cells slots) {c : Nat} {a2 a3 a4 : Int} (h1 : (xs (i + 1)).toInt = (c : Int)) (h2 : (xs (i + 2)).toInt = a2) (h3 : (xs (i + 3)).toInt = a3) (h4 : (xs (i + 4)).toInt = a4) (hcn : c < n) (hov0 : Ov c = 0) (hx : 0 ≤ a2 ∧ a2 ≤ 20000) (hy : 0 ≤ a3 ∧ a3 ≤ 20000) (hz4 : 0 ≤ a4 ∧ a4 ≤ 100) : jj_W p l e room_1 s m args below meth c9 (dC, dI) vwCl A 8 cells slots Q 423 [(4, .int (iI (i : Int))), (3, .ref o), (2, .ref (ad 0)), (1, .ref (ha 0)), (0, .ref b)] [] (wH ha cA hA nA ed cI cJ cZ td pr up dn dv rw sd mc n mo sh co Ca Cz K St Ex Am Bi As BL AL He Co ++ ((o, .inl (cJ, 1, .inr (.inl (lA F)))) :: (GG ++ wM ad cI cJ cZ th td pr up dn dv n K St Ex Am Ov Bj Aj BL AL He Co Ca mo sh co sd Cz Ab be))) := by
  obtain ⟨C0, hl, hX, hbl, hbA, hL⟩ := hC9
  have hw := C0.2.2.2.2.1
  have hEV := hEVW es mi sa
  have hV := hI
  obtain ⟨⟨htd, hn, hpr, hup, hdn, hdv, hsd, hmo, hsh⟩, ⟨hK, hSt, hEx, hAm, hOv, hovs, hexs, hovn⟩, hQ9, ⟨hHe, hsums, hHz⟩, ⟨hCo, hCz⟩, hCa⟩ := hI
  have hQ := hQ9
  obtain ⟨hBi, hAs, hBj, hAj, hBL, hAL, hQt, hQ0, hQn, hQo⟩ := hQ9
  have hED0 : 0 < n → f_ED cA n ed cO (GG ++ wM ad cI cJ cZ th td pr up dn dv n K St Ex Am Ov Bj Aj BL AL He Co Ca mo sh co sd Cz Ab be) := f_LG_ED hG
  have hexs1 : ∀ c, c < n → Ex c ≤ (td : Int) + 10 := fun c hc => (hexs c hc).1
  have hk5 : k ≤ 511 := by omega
  have hHe9 : ∀ j, -999000 ≤ He j ∧ He j ≤ 999000 := fun j => by have := hHe j; omega
  have hHe6 : ∀ j, -1000000 ≤ He j ∧ He j ≤ 1000000 := fun j => by have := hHe j; omega
  have hCa9 : ∀ j, -100000000000000000 ≤ Ca j ∧ Ca j ≤ 100000000000000000 := fun j => by have := hCa j; omega
  have hov1 : (td : Int) ≤ Ex c := by have := hovs c hcn; omega
  refine jj_aload_n C0 3 rfl dL_law_423 ?_
  refine jj_aload_n C0 4 rfl dL_law_424 ?_
  refine jj_iload C0 0 rfl dL_law_425 ?_
  refine jj_iconst C0 dL_law_427 ?_
  refine jj_iadd C0 dL_law_428 ?_
  refine jj_sald C0 hX hbl hbA hL (k := (i + 1)) (by omega) (by omega) dL_law_429 ?_
  refine jj_topi (b := (c : Int)) h1 ?_
  refine jj_aload_n C0 4 rfl dL_law_430 ?_
  refine jj_iload C0 0 rfl dL_law_431 ?_
  refine jj_iconst C0 dL_law_433 ?_
  refine jj_iadd C0 dL_law_434 ?_
  refine jj_sald C0 hX hbl hbA hL (k := (i + 2)) (by omega) (by omega) dL_law_435 ?_
  refine jj_topi (b := a2) h2 ?_
  refine jj_aload_n C0 4 rfl dL_law_436 ?_
  refine jj_iload C0 0 rfl dL_law_437 ?_
  refine jj_iconst C0 dL_law_439 ?_
  refine jj_iadd C0 dL_law_440 ?_
  refine jj_sald C0 hX hbl hbA hL (k := (i + 3)) (by omega) (by omega) dL_law_441 ?_
  refine jj_topi (b := a3) h3 ?_
  refine jj_aload_n C0 4 rfl dL_law_442 ?_
  refine jj_iload C0 0 rfl dL_law_443 ?_
  refine jj_iconst C0 dL_law_445 ?_
  refine jj_iadd C0 dL_law_446 ?_
  refine jj_sald C0 hX hbl hbA hL (k := (i + 4)) (by omega) (by omega) dL_law_447 ?_
  refine jj_topi (b := a4) h4 ?_
  refine jj_aload_n C0 1 rfl dL_law_448 ?_
  refine jj_callSWi C0 (cells' := cells) (slots' := slots) (jj_weaki (fun A U H h => h.1) (cw_L_quote hl (c := c) (x := a2) (y := a3) (z := a4) hx hy hz4 hov1 hcn hn htd hK hSt hEx hAm hBi hAs hBL hAL hED0)) (vx_cwSW 6 hw (lw_gW hU_546 hU_547 hU_59 hU_548) rfl rfl rfl (by decide +kernel) ⟨Nat.le_of_ble_eq_true rfl, Nat.le_of_ble_eq_true rfl⟩) rfl rfl (Nat.le_of_ble_eq_true rfl) ⟨by show cells + 0 ≤ 601024; omega, by show slots + 0 ≤ 7293034; omega⟩ rfl rfl dL_law_449 ?_
  intro u_1 hu
  have hu_449 : (u_1 = 1 ∧ (∃ a, a < n ∧ ((0 < (va_up BL c a4) a ∧ 0 < (va_up AL c a4) a) ∧ (va_up As c (if 0 < a4 then a3 else 0)) a ≤ (va_up Bi c (if 0 < a4 then a2 else 0)) a))) ∨ (u_1 = 2 ∧ ¬ (∃ a, a < n ∧ ((0 < (va_up BL c a4) a ∧ 0 < (va_up AL c a4) a) ∧ (va_up As c (if 0 < a4 then a3 else 0)) a ≤ (va_up Bi c (if 0 < a4 then a2 else 0)) a)) ∧ (∃ a b, a < n ∧ b < n ∧ (((0 < (va_up BL c a4) a ∧ 0 < (va_up AL c a4) a) ∧ (0 < (va_up BL c a4) b ∧ 0 < (va_up AL c a4) b) ∧ St a < St b ∧ K a = K b ∧ Ex a = Ex b ∧ Am a = Am b) ∧ ((K a = 0 ∧ (va_up As c (if 0 < a4 then a3 else 0)) a < (va_up Bi c (if 0 < a4 then a2 else 0)) b) ∨ (K a ≠ 0 ∧ (va_up As c (if 0 < a4 then a3 else 0)) b < (va_up Bi c (if 0 < a4 then a2 else 0)) a))))) ∨ (u_1 = 3 ∧ ¬ (∃ a, a < n ∧ ((0 < (va_up BL c a4) a ∧ 0 < (va_up AL c a4) a) ∧ (va_up As c (if 0 < a4 then a3 else 0)) a ≤ (va_up Bi c (if 0 < a4 then a2 else 0)) a)) ∧ ¬ (∃ a b, a < n ∧ b < n ∧ (((0 < (va_up BL c a4) a ∧ 0 < (va_up AL c a4) a) ∧ (0 < (va_up BL c a4) b ∧ 0 < (va_up AL c a4) b) ∧ St a < St b ∧ K a = K b ∧ Ex a = Ex b ∧ Am a = Am b) ∧ ((K a = 0 ∧ (va_up As c (if 0 < a4 then a3 else 0)) a < (va_up Bi c (if 0 < a4 then a2 else 0)) b) ∨ (K a ≠ 0 ∧ (va_up As c (if 0 < a4 then a3 else 0)) b < (va_up Bi c (if 0 < a4 then a2 else 0)) a)))) ∧ (∃ a b, a < n ∧ b < n ∧ ∃ d, d < n ∧ (((0 < (va_up BL c a4) a ∧ 0 < (va_up AL c a4) a) ∧ (0 < (va_up BL c a4) b ∧ 0 < (va_up AL c a4) b) ∧ St a < St b ∧ K a = K b ∧ Ex a = Ex b ∧ Am a = Am b) ∧ ((0 < (va_up BL c a4) b ∧ 0 < (va_up AL c a4) b) ∧ (0 < (va_up BL c a4) d ∧ 0 < (va_up AL c a4) d) ∧ St b < St d ∧ K b = K d ∧ Ex b = Ex d ∧ Am b = Am d) ∧ St b - St a = St d - St b ∧ (va_up As c (if 0 < a4 then a3 else 0)) a + (va_up As c (if 0 < a4 then a3 else 0)) d < 2 * (va_up Bi c (if 0 < a4 then a2 else 0)) b))) ∨ (u_1 = 4 ∧ ¬ (∃ a, a < n ∧ ((0 < (va_up BL c a4) a ∧ 0 < (va_up AL c a4) a) ∧ (va_up As c (if 0 < a4 then a3 else 0)) a ≤ (va_up Bi c (if 0 < a4 then a2 else 0)) a)) ∧ ¬ (∃ a b, a < n ∧ b < n ∧ (((0 < (va_up BL c a4) a ∧ 0 < (va_up AL c a4) a) ∧ (0 < (va_up BL c a4) b ∧ 0 < (va_up AL c a4) b) ∧ St a < St b ∧ K a = K b ∧ Ex a = Ex b ∧ Am a = Am b) ∧ ((K a = 0 ∧ (va_up As c (if 0 < a4 then a3 else 0)) a < (va_up Bi c (if 0 < a4 then a2 else 0)) b) ∨ (K a ≠ 0 ∧ (va_up As c (if 0 < a4 then a3 else 0)) b < (va_up Bi c (if 0 < a4 then a2 else 0)) a)))) ∧ ¬ (∃ a b, a < n ∧ b < n ∧ ∃ d, d < n ∧ (((0 < (va_up BL c a4) a ∧ 0 < (va_up AL c a4) a) ∧ (0 < (va_up BL c a4) b ∧ 0 < (va_up AL c a4) b) ∧ St a < St b ∧ K a = K b ∧ Ex a = Ex b ∧ Am a = Am b) ∧ ((0 < (va_up BL c a4) b ∧ 0 < (va_up AL c a4) b) ∧ (0 < (va_up BL c a4) d ∧ 0 < (va_up AL c a4) d) ∧ St b < St d ∧ K b = K d ∧ Ex b = Ex d ∧ Am b = Am d) ∧ St b - St a = St d - St b ∧ (va_up As c (if 0 < a4 then a3 else 0)) a + (va_up As c (if 0 < a4 then a3 else 0)) d < 2 * (va_up Bi c (if 0 < a4 then a2 else 0)) b)) ∧ (∃ a b, a < n ∧ b < n ∧ ((0 < (va_up BL c a4) a ∧ 0 < (va_up AL c a4) a) ∧ (0 < (va_up BL c a4) b ∧ 0 < (va_up AL c a4) b) ∧ Ex a < Ex b ∧ Am a ≠ 0 ∧ Am b ≠ 0 ∧ K a = K b ∧ St a = St b ∧ (va_up As c (if 0 < a4 then a3 else 0)) b < (va_up Bi c (if 0 < a4 then a2 else 0)) a))) ∨ (u_1 = 0 ∧ ¬ (∃ a, a < n ∧ ((0 < (va_up BL c a4) a ∧ 0 < (va_up AL c a4) a) ∧ (va_up As c (if 0 < a4 then a3 else 0)) a ≤ (va_up Bi c (if 0 < a4 then a2 else 0)) a)) ∧ ¬ (∃ a b, a < n ∧ b < n ∧ (((0 < (va_up BL c a4) a ∧ 0 < (va_up AL c a4) a) ∧ (0 < (va_up BL c a4) b ∧ 0 < (va_up AL c a4) b) ∧ St a < St b ∧ K a = K b ∧ Ex a = Ex b ∧ Am a = Am b) ∧ ((K a = 0 ∧ (va_up As c (if 0 < a4 then a3 else 0)) a < (va_up Bi c (if 0 < a4 then a2 else 0)) b) ∨ (K a ≠ 0 ∧ (va_up As c (if 0 < a4 then a3 else 0)) b < (va_up Bi c (if 0 < a4 then a2 else 0)) a)))) ∧ ¬ (∃ a b, a < n ∧ b < n ∧ ∃ d, d < n ∧ (((0 < (va_up BL c a4) a ∧ 0 < (va_up AL c a4) a) ∧ (0 < (va_up BL c a4) b ∧ 0 < (va_up AL c a4) b) ∧ St a < St b ∧ K a = K b ∧ Ex a = Ex b ∧ Am a = Am b) ∧ ((0 < (va_up BL c a4) b ∧ 0 < (va_up AL c a4) b) ∧ (0 < (va_up BL c a4) d ∧ 0 < (va_up AL c a4) d) ∧ St b < St d ∧ K b = K d ∧ Ex b = Ex d ∧ Am b = Am d) ∧ St b - St a = St d - St b ∧ (va_up As c (if 0 < a4 then a3 else 0)) a + (va_up As c (if 0 < a4 then a3 else 0)) d < 2 * (va_up Bi c (if 0 < a4 then a2 else 0)) b)) ∧ ¬ (∃ a b, a < n ∧ b < n ∧ ((0 < (va_up BL c a4) a ∧ 0 < (va_up AL c a4) a) ∧ (0 < (va_up BL c a4) b ∧ 0 < (va_up AL c a4) b) ∧ Ex a < Ex b ∧ Am a ≠ 0 ∧ Am b ≠ 0 ∧ K a = K b ∧ St a = St b ∧ (va_up As c (if 0 < a4 then a3 else 0)) b < (va_up Bi c (if 0 < a4 then a2 else 0)) a))) := hu
  show jj_W _ _ _ _ _ _ _ _ _ _ _ _ _ _ _ _ _ 452 _ [.int (iI 0)] (wH ha cA hA nA ed cI cJ cZ td pr up dn dv rw sd mc n mo sh co Ca Cz K St Ex Am (va_up Bi c (if 0 < a4 then a2 else 0)) (va_up As c (if 0 < a4 then a3 else 0)) (va_up BL c a4) (va_up AL c a4) He Co ++ ((o, .inl (cJ, 1, .inr (.inl (lA (va_up F 0 u_1))))) :: (GG ++ wM ad cI cJ cZ th td pr up dn dv n K St Ex Am Ov Bj Aj BL AL He Co Ca mo sh co sd Cz Ab be)))
  refine jj_istore C0 (lv' := [(5, .int (iI 0)), (4, .int (iI (i : Int))), (3, .ref o), (2, .ref (ad 0)), (1, .ref (ha 0)), (0, .ref b)]) (by decide) rfl dL_law_452 ?_
  refine jj_toM ?_
  refine jj_aload_n C0 3 rfl dL_law_454 ?_
  refine jj_aload_n C0 5 rfl dL_law_455 ?_
  refine jj_iload C0 1 rfl dL_law_456 ?_
  refine jj_iconst C0 dL_law_458 ?_
  refine jj_iadd C0 dL_law_459 ?_
  refine jj_sald C0 hX hbl hbA hL (k := (i + 1)) (by omega) (by omega) dL_law_460 ?_
  refine jj_topi (b := (c : Int)) h1 ?_
  refine jj_aload_n C0 5 rfl dL_law_461 ?_
  refine jj_iload C0 1 rfl dL_law_462 ?_
  refine jj_iconst C0 dL_law_464 ?_
  refine jj_iadd C0 dL_law_465 ?_
  refine jj_sald C0 hX hbl hbA hL (k := (i + 2)) (by omega) (by omega) dL_law_466 ?_
  refine jj_topi (b := a2) h2 ?_
  refine jj_aload_n C0 5 rfl dL_law_467 ?_
  refine jj_iload C0 1 rfl dL_law_468 ?_
  refine jj_iconst C0 dL_law_470 ?_
  refine jj_iadd C0 dL_law_471 ?_
  refine jj_sald C0 hX hbl hbA hL (k := (i + 3)) (by omega) (by omega) dL_law_472 ?_
  refine jj_topi (b := a3) h3 ?_
  refine jj_aload_n C0 5 rfl dL_law_473 ?_
  refine jj_iload C0 1 rfl dL_law_474 ?_
  refine jj_iconst C0 dL_law_476 ?_
  refine jj_iadd C0 dL_law_477 ?_
  refine jj_sald C0 hX hbl hbA hL (k := (i + 4)) (by omega) (by omega) dL_law_478 ?_
  refine jj_topi (b := a4) h4 ?_
  refine jj_callVi C0 (cells' := cells) (slots' := slots) (cc_X4_quote hEV (c := c) (x := a2) (y := a3) (z := a4) hx hy hz4 hov0 hcn hn hK hSt hEx hAm hOv hBj hAj hBL hAL) (cwV 4 hw (lw_gV hU_915 hU_916 hU_917 hU_66 hU_918) rfl rfl rfl (by decide +kernel) ⟨Nat.le_of_ble_eq_true rfl, Nat.le_of_ble_eq_true rfl⟩) (ci := 5) (q0 := 0) rfl (rfl) rfl rfl (Nat.le_of_ble_eq_true rfl) ⟨by show cells + 0 ≤ 601024; omega, by show slots + 0 ≤ 7293034; omega⟩ rfl rfl dL_law_479 ?_
  intro u_2 hu
  have hu_479 : f_isF (f_F n K St Ex Am Ov (va_up Bj c a2) (va_up Aj c a3) (va_up BL c a4) (va_up AL c a4)) n u_2 := hu
  show jj_W _ _ _ _ _ _ _ _ _ _ _ _ _ _ _ _ _ 482 _ [.int (iI u_2)] (wM ad cI cJ cZ 0 td pr up dn dv n K St Ex Am Ov (va_up Bj c a2) (va_up Aj c a3) (va_up BL c a4) (va_up AL c a4) He Co Ca mo sh co sd Cz Ab be ++ (wH ha cA hA nA ed cI cJ cZ td pr up dn dv rw sd mc n mo sh co Ca Cz K St Ex Am (va_up Bi c (if 0 < a4 then a2 else 0)) (va_up As c (if 0 < a4 then a3 else 0)) (va_up BL c a4) (va_up AL c a4) He Co ++ ((o, .inl (cJ, 1, .inr (.inl (lA (va_up F 0 u_1))))) :: GG)))
  refine jj_istore C0 (lv' := [(6, .int (iI u_2)), (5, .int (iI 0)), (4, .int (iI (i : Int))), (3, .ref o), (2, .ref (ad 0)), (1, .ref (ha 0)), (0, .ref b)]) (by decide) rfl dL_law_482 ?_
  refine jj_aload_n C0 4 rfl dL_law_484 ?_
  refine jj_callVi C0 (cells' := cells) (slots' := slots) (cc_X4_thrown hEV  ) (cwV 0 hw (lw_gV hU_865 hU_866 hU_867 hU_66 hU_868) rfl rfl rfl (by decide +kernel) ⟨Nat.le_of_ble_eq_true rfl, Nat.le_of_ble_eq_true rfl⟩) (ci := 5) (q0 := 0) rfl (rfl) rfl rfl (Nat.le_of_ble_eq_true rfl) ⟨by show cells + 0 ≤ 601024; omega, by show slots + 0 ≤ 7293034; omega⟩ rfl rfl dL_law_485 ?_
  intro _ hu
  show jj_W _ _ _ _ _ _ _ _ _ _ _ _ _ _ _ _ _ 488 _ [.int (iI 0)] (wM ad cI cJ cZ 0 td pr up dn dv n K St Ex Am Ov (va_up Bj c a2) (va_up Aj c a3) (va_up BL c a4) (va_up AL c a4) He Co Ca mo sh co sd Cz Ab be ++ (wH ha cA hA nA ed cI cJ cZ td pr up dn dv rw sd mc n mo sh co Ca Cz K St Ex Am (va_up Bi c (if 0 < a4 then a2 else 0)) (va_up As c (if 0 < a4 then a3 else 0)) (va_up BL c a4) (va_up AL c a4) He Co ++ ((o, .inl (cJ, 1, .inr (.inl (lA (va_up F 0 u_1))))) :: GG)))
  refine jj_iload C0 1 rfl dL_law_488 ?_
  refine jj_icmp_eq C0 (by omega) (by omega) dL_law_490 (tgt := 495) (by decide) (fun c_3 => ?_) (fun c_3 => absurd c_3 (by omega))
  refine jj_iload C0 1 rfl dL_law_495 ?_
  refine jj_if_ne C0 (by omega) dL_law_497 (tgt := 512) (by decide) (fun c_4 => absurd c_4 (by omega)) (fun c_4 => ?_)
  refine jj_toH ?_
  refine jj_aload_n C0 3 rfl dL_law_500 ?_
  refine jj_iconst C0 dL_law_501 ?_
  refine jj_lald C0 (q0 := (8 + (3 * n + 0))) (t0 := 1) (f := (va_up F 0 u_1)) ((wH_ee (n := n) rfl)) rfl (k := 0) (by omega) (by omega) (by decide) dL_law_502 ?_
  refine jj_topl (b := u_1) (va_up_self _ _ _) ?_
  refine jj_iload C0 0 rfl dL_law_503 ?_
  refine jj_i2l C0 (by have := f_isF_bd hu_479; omega) dL_law_505 ?_
  refine jj_topl (b := u_1) ((f_tie (f_qq_of (f_IV_quote hV hcn hx hy hz4 hov0).2.2.1) hK hAm hu_479 hu_449).symm) ?_
  refine jj_lcmpS C0 dL_law_506 dL_law_507 (tgt := 512) (by decide) ?_
  refine jj_goto C0 (tgt := 1530) dL_law_512 (by decide) ?_
  refine jj_lv [2, 3, 4, 5, 6] rfl ?_
  exact kK cA hA nA ed rw (va_up F 0 u_1) mc GG 0 be Ab td pr up dn dv sd n mo sh co Ca Cz K St Ex Am Ov (va_up Bi c (if 0 < a4 then a2 else 0)) (va_up As c (if 0 < a4 then a3 else 0)) (va_up Bj c a2) (va_up Aj c a3) (va_up BL c a4) (va_up AL c a4) He Co _ _ (f_IV_quote hV hcn hx hy hz4 hov0) (hG) (by omega) (by omega)
set_option maxHeartbeats 4000000 in
set_option maxRecDepth 100000 in
theorem ll_quote_I (hC9 : f_CC p l s m args meth c9 dC dI A cI cJ cZ cO es mi sa b L xs) (hi : i + 5 ≤ L) (hik : i = 5 * k) (hcs : cells + 8 ≤ 601024 ∧ slots + 80 ≤ 7293034) (hI : f_IV k td n pr up dn dv sd mo sh Ca K St Ex Am Ov Bi As Bj Aj BL AL He Co) (hG : f_LG cO es n ed cA GG) (kK : f_KK p l e s m args below meth c9 dC dI A Q ha ad cI cJ cZ cO o es b i k cells slots) {a1 a2 a3 a4 : Int} (h1 : (xs (i + 1)).toInt = a1) (h2 : (xs (i + 2)).toInt = a2) (h3 : (xs (i + 3)).toInt = a3) (h4 : (xs (i + 4)).toInt = a4) (hr1 : iR a1) (hr2 : iR a2) (hr3 : iR a3) (hr4 : iR a4) (hb : ¬ (0 ≤ a1 ∧ a1 < (n : Int))) : jj_W p l e room_1 s m args below meth c9 (dC, dI) vwCl A 8 cells slots Q 423 [(4, .int (iI (i : Int))), (3, .ref o), (2, .ref (ad 0)), (1, .ref (ha 0)), (0, .ref b)] [] (wH ha cA hA nA ed cI cJ cZ td pr up dn dv rw sd mc n mo sh co Ca Cz K St Ex Am Bi As BL AL He Co ++ ((o, .inl (cJ, 1, .inr (.inl (lA F)))) :: (GG ++ wM ad cI cJ cZ th td pr up dn dv n K St Ex Am Ov Bj Aj BL AL He Co Ca mo sh co sd Cz Ab be))) := by
  obtain ⟨C0, hl, hX, hbl, hbA, hL⟩ := hC9
  have hw := C0.2.2.2.2.1
  have hEV := hEVW es mi sa
  have hV := hI
  obtain ⟨⟨htd, hn, hpr, hup, hdn, hdv, hsd, hmo, hsh⟩, ⟨hK, hSt, hEx, hAm, hOv, hovs, hexs, hovn⟩, hQ9, ⟨hHe, hsums, hHz⟩, ⟨hCo, hCz⟩, hCa⟩ := hI
  have hQ := hQ9
  obtain ⟨hBi, hAs, hBj, hAj, hBL, hAL, hQt, hQ0, hQn, hQo⟩ := hQ9
  have hED0 : 0 < n → f_ED cA n ed cO (GG ++ wM ad cI cJ cZ th td pr up dn dv n K St Ex Am Ov Bj Aj BL AL He Co Ca mo sh co sd Cz Ab be) := f_LG_ED hG
  have hexs1 : ∀ c, c < n → Ex c ≤ (td : Int) + 10 := fun c hc => (hexs c hc).1
  have hk5 : k ≤ 511 := by omega
  have hHe9 : ∀ j, -999000 ≤ He j ∧ He j ≤ 999000 := fun j => by have := hHe j; omega
  have hHe6 : ∀ j, -1000000 ≤ He j ∧ He j ≤ 1000000 := fun j => by have := hHe j; omega
  have hCa9 : ∀ j, -100000000000000000 ≤ Ca j ∧ Ca j ≤ 100000000000000000 := fun j => by have := hCa j; omega
  refine jj_aload_n C0 3 rfl dL_law_423 ?_
  refine jj_aload_n C0 4 rfl dL_law_424 ?_
  refine jj_iload C0 0 rfl dL_law_425 ?_
  refine jj_iconst C0 dL_law_427 ?_
  refine jj_iadd C0 dL_law_428 ?_
  refine jj_sald C0 hX hbl hbA hL (k := (i + 1)) (by omega) (by omega) dL_law_429 ?_
  refine jj_topi (b := a1) h1 ?_
  refine jj_aload_n C0 4 rfl dL_law_430 ?_
  refine jj_iload C0 0 rfl dL_law_431 ?_
  refine jj_iconst C0 dL_law_433 ?_
  refine jj_iadd C0 dL_law_434 ?_
  refine jj_sald C0 hX hbl hbA hL (k := (i + 2)) (by omega) (by omega) dL_law_435 ?_
  refine jj_topi (b := a2) h2 ?_
  refine jj_aload_n C0 4 rfl dL_law_436 ?_
  refine jj_iload C0 0 rfl dL_law_437 ?_
  refine jj_iconst C0 dL_law_439 ?_
  refine jj_iadd C0 dL_law_440 ?_
  refine jj_sald C0 hX hbl hbA hL (k := (i + 3)) (by omega) (by omega) dL_law_441 ?_
  refine jj_topi (b := a3) h3 ?_
  refine jj_aload_n C0 4 rfl dL_law_442 ?_
  refine jj_iload C0 0 rfl dL_law_443 ?_
  refine jj_iconst C0 dL_law_445 ?_
  refine jj_iadd C0 dL_law_446 ?_
  refine jj_sald C0 hX hbl hbA hL (k := (i + 4)) (by omega) (by omega) dL_law_447 ?_
  refine jj_topi (b := a4) h4 ?_
  refine jj_aload_n C0 1 rfl dL_law_448 ?_
  refine jj_callSWi C0 (cells' := cells + 1) (slots' := slots + 6) (jj_weaki (fun A U H h => h.1) (cr_L_quote hl (w := a1) (x := a2) (y := a3) (z := a4) hb hr1 hn hED0)) (vx_cwSW 6 hw (lw_gW hU_546 hU_547 hU_59 hU_548) rfl rfl rfl (by decide +kernel) ⟨Nat.le_of_ble_eq_true rfl, Nat.le_of_ble_eq_true rfl⟩) rfl rfl (Nat.le_of_ble_eq_true rfl) ⟨by show cells + 1 ≤ 601024; omega, by show slots + 6 ≤ 7293034; omega⟩ rfl rfl dL_law_449 ?_
  intro _ hu
  show jj_W _ _ _ _ _ _ _ _ _ _ _ _ _ _ _ _ _ 452 _ [.int (iI 1)] (wH ha cA hA nA ed cI cJ cZ td pr up dn dv rw sd mc n mo sh co Ca Cz K St Ex Am Bi As BL AL He Co ++ ((o, .inl (cJ, 1, .inr (.inl (lA F)))) :: (GG ++ wM ad cI cJ cZ th td pr up dn dv n K St Ex Am Ov Bj Aj BL AL He Co Ca mo sh co sd Cz Ab be)))
  refine jj_istore C0 (lv' := [(5, .int (iI 1)), (4, .int (iI (i : Int))), (3, .ref o), (2, .ref (ad 0)), (1, .ref (ha 0)), (0, .ref b)]) (by decide) rfl dL_law_452 ?_
  refine jj_toM ?_
  refine jj_aload_n C0 3 rfl dL_law_454 ?_
  refine jj_aload_n C0 5 rfl dL_law_455 ?_
  refine jj_iload C0 1 rfl dL_law_456 ?_
  refine jj_iconst C0 dL_law_458 ?_
  refine jj_iadd C0 dL_law_459 ?_
  refine jj_sald C0 hX hbl hbA hL (k := (i + 1)) (by omega) (by omega) dL_law_460 ?_
  refine jj_topi (b := a1) h1 ?_
  refine jj_aload_n C0 5 rfl dL_law_461 ?_
  refine jj_iload C0 1 rfl dL_law_462 ?_
  refine jj_iconst C0 dL_law_464 ?_
  refine jj_iadd C0 dL_law_465 ?_
  refine jj_sald C0 hX hbl hbA hL (k := (i + 2)) (by omega) (by omega) dL_law_466 ?_
  refine jj_topi (b := a2) h2 ?_
  refine jj_aload_n C0 5 rfl dL_law_467 ?_
  refine jj_iload C0 1 rfl dL_law_468 ?_
  refine jj_iconst C0 dL_law_470 ?_
  refine jj_iadd C0 dL_law_471 ?_
  refine jj_sald C0 hX hbl hbA hL (k := (i + 3)) (by omega) (by omega) dL_law_472 ?_
  refine jj_topi (b := a3) h3 ?_
  refine jj_aload_n C0 5 rfl dL_law_473 ?_
  refine jj_iload C0 1 rfl dL_law_474 ?_
  refine jj_iconst C0 dL_law_476 ?_
  refine jj_iadd C0 dL_law_477 ?_
  refine jj_sald C0 hX hbl hbA hL (k := (i + 4)) (by omega) (by omega) dL_law_478 ?_
  refine jj_topi (b := a4) h4 ?_
  refine jj_callVi C0 (cells' := (cells + 1)) (slots' := (slots + 6)) (cb_X4_quote hEV (w := a1) (x := a2) (y := a3) (z := a4) (kk := 1) hr2 hr3 hr4 hr1 hn hOv (Or.inl ⟨hb, rfl⟩)) (cwV 4 hw (lw_gV hU_915 hU_916 hU_917 hU_66 hU_918) rfl rfl rfl (by decide +kernel) ⟨Nat.le_of_ble_eq_true rfl, Nat.le_of_ble_eq_true rfl⟩) (ci := 5) (q0 := 0) rfl (rfl) rfl rfl (Nat.le_of_ble_eq_true rfl) ⟨by show (cells + 1) + 0 ≤ 601024; omega, by show (slots + 6) + 0 ≤ 7293034; omega⟩ rfl rfl dL_law_479 ?_
  intro u_1 hu
  show jj_W _ _ _ _ _ _ _ _ _ _ _ _ _ _ _ _ _ 482 _ [.int (iI u_1)] (wM ad cI cJ cZ 1 td pr up dn dv n K St Ex Am Ov Bj Aj BL AL He Co Ca mo sh co sd Cz Ab be ++ (wH ha cA hA nA ed cI cJ cZ td pr up dn dv rw sd mc n mo sh co Ca Cz K St Ex Am Bi As BL AL He Co ++ ((o, .inl (cJ, 1, .inr (.inl (lA F)))) :: GG)))
  refine jj_istore C0 (lv' := [(6, .int (iI u_1)), (5, .int (iI 1)), (4, .int (iI (i : Int))), (3, .ref o), (2, .ref (ad 0)), (1, .ref (ha 0)), (0, .ref b)]) (by decide) rfl dL_law_482 ?_
  refine jj_aload_n C0 4 rfl dL_law_484 ?_
  refine jj_callVi C0 (cells' := (cells + 1)) (slots' := (slots + 6)) (cc_X4_thrown hEV  ) (cwV 0 hw (lw_gV hU_865 hU_866 hU_867 hU_66 hU_868) rfl rfl rfl (by decide +kernel) ⟨Nat.le_of_ble_eq_true rfl, Nat.le_of_ble_eq_true rfl⟩) (ci := 5) (q0 := 0) rfl (rfl) rfl rfl (Nat.le_of_ble_eq_true rfl) ⟨by show (cells + 1) + 0 ≤ 601024; omega, by show (slots + 6) + 0 ≤ 7293034; omega⟩ rfl rfl dL_law_485 ?_
  intro _ hu
  show jj_W _ _ _ _ _ _ _ _ _ _ _ _ _ _ _ _ _ 488 _ [.int (iI 1)] (wM ad cI cJ cZ 1 td pr up dn dv n K St Ex Am Ov Bj Aj BL AL He Co Ca mo sh co sd Cz Ab be ++ (wH ha cA hA nA ed cI cJ cZ td pr up dn dv rw sd mc n mo sh co Ca Cz K St Ex Am Bi As BL AL He Co ++ ((o, .inl (cJ, 1, .inr (.inl (lA F)))) :: GG)))
  refine jj_iload C0 1 rfl dL_law_488 ?_
  refine jj_icmp_eq C0 (by omega) (by omega) dL_law_490 (tgt := 495) (by decide) (fun c_2 => ?_) (fun c_2 => absurd c_2 (by omega))
  refine jj_iload C0 1 rfl dL_law_495 ?_
  refine jj_if_ne C0 (by omega) dL_law_497 (tgt := 512) (by decide) (fun c_3 => ?_) (fun c_3 => absurd c_3 (by omega))
  refine jj_goto C0 (tgt := 1530) dL_law_512 (by decide) ?_
  refine jj_toH ?_
  refine jj_lv [2, 3, 4, 5, 6] rfl ?_
  exact kK cA hA nA ed rw F mc GG 1 be Ab td pr up dn dv sd n mo sh co Ca Cz K St Ex Am Ov Bi As Bj Aj BL AL He Co _ _ (f_IV_k hV) (hG) (by omega) (by omega)
set_option maxHeartbeats 4000000 in
set_option maxRecDepth 100000 in
theorem ll_quote_A (hC9 : f_CC p l s m args meth c9 dC dI A cI cJ cZ cO es mi sa b L xs) (hi : i + 5 ≤ L) (hik : i = 5 * k) (hcs : cells + 8 ≤ 601024 ∧ slots + 80 ≤ 7293034) (hI : f_IV k td n pr up dn dv sd mo sh Ca K St Ex Am Ov Bi As Bj Aj BL AL He Co) (hG : f_LG cO es n ed cA GG) (kK : f_KK p l e s m args below meth c9 dC dI A Q ha ad cI cJ cZ cO o es b i k cells slots) {c : Nat} {a2 a3 a4 : Int} (h1 : (xs (i + 1)).toInt = (c : Int)) (h2 : (xs (i + 2)).toInt = a2) (h3 : (xs (i + 3)).toInt = a3) (h4 : (xs (i + 4)).toInt = a4) (hr2 : iR a2) (hr3 : iR a3) (hr4 : iR a4) (hcn : c < n) (hb : ¬ (0 ≤ a2 ∧ a2 ≤ 20000 ∧ 0 ≤ a3 ∧ a3 ≤ 20000 ∧ 0 ≤ a4 ∧ a4 ≤ 100)) : jj_W p l e room_1 s m args below meth c9 (dC, dI) vwCl A 8 cells slots Q 423 [(4, .int (iI (i : Int))), (3, .ref o), (2, .ref (ad 0)), (1, .ref (ha 0)), (0, .ref b)] [] (wH ha cA hA nA ed cI cJ cZ td pr up dn dv rw sd mc n mo sh co Ca Cz K St Ex Am Bi As BL AL He Co ++ ((o, .inl (cJ, 1, .inr (.inl (lA F)))) :: (GG ++ wM ad cI cJ cZ th td pr up dn dv n K St Ex Am Ov Bj Aj BL AL He Co Ca mo sh co sd Cz Ab be))) := by
  obtain ⟨C0, hl, hX, hbl, hbA, hL⟩ := hC9
  have hw := C0.2.2.2.2.1
  have hEV := hEVW es mi sa
  have hV := hI
  obtain ⟨⟨htd, hn, hpr, hup, hdn, hdv, hsd, hmo, hsh⟩, ⟨hK, hSt, hEx, hAm, hOv, hovs, hexs, hovn⟩, hQ9, ⟨hHe, hsums, hHz⟩, ⟨hCo, hCz⟩, hCa⟩ := hI
  have hQ := hQ9
  obtain ⟨hBi, hAs, hBj, hAj, hBL, hAL, hQt, hQ0, hQn, hQo⟩ := hQ9
  have hED0 : 0 < n → f_ED cA n ed cO (GG ++ wM ad cI cJ cZ th td pr up dn dv n K St Ex Am Ov Bj Aj BL AL He Co Ca mo sh co sd Cz Ab be) := f_LG_ED hG
  have hexs1 : ∀ c, c < n → Ex c ≤ (td : Int) + 10 := fun c hc => (hexs c hc).1
  have hk5 : k ≤ 511 := by omega
  have hHe9 : ∀ j, -999000 ≤ He j ∧ He j ≤ 999000 := fun j => by have := hHe j; omega
  have hHe6 : ∀ j, -1000000 ≤ He j ∧ He j ≤ 1000000 := fun j => by have := hHe j; omega
  have hCa9 : ∀ j, -100000000000000000 ≤ Ca j ∧ Ca j ≤ 100000000000000000 := fun j => by have := hCa j; omega
  refine jj_aload_n C0 3 rfl dL_law_423 ?_
  refine jj_aload_n C0 4 rfl dL_law_424 ?_
  refine jj_iload C0 0 rfl dL_law_425 ?_
  refine jj_iconst C0 dL_law_427 ?_
  refine jj_iadd C0 dL_law_428 ?_
  refine jj_sald C0 hX hbl hbA hL (k := (i + 1)) (by omega) (by omega) dL_law_429 ?_
  refine jj_topi (b := (c : Int)) h1 ?_
  refine jj_aload_n C0 4 rfl dL_law_430 ?_
  refine jj_iload C0 0 rfl dL_law_431 ?_
  refine jj_iconst C0 dL_law_433 ?_
  refine jj_iadd C0 dL_law_434 ?_
  refine jj_sald C0 hX hbl hbA hL (k := (i + 2)) (by omega) (by omega) dL_law_435 ?_
  refine jj_topi (b := a2) h2 ?_
  refine jj_aload_n C0 4 rfl dL_law_436 ?_
  refine jj_iload C0 0 rfl dL_law_437 ?_
  refine jj_iconst C0 dL_law_439 ?_
  refine jj_iadd C0 dL_law_440 ?_
  refine jj_sald C0 hX hbl hbA hL (k := (i + 3)) (by omega) (by omega) dL_law_441 ?_
  refine jj_topi (b := a3) h3 ?_
  refine jj_aload_n C0 4 rfl dL_law_442 ?_
  refine jj_iload C0 0 rfl dL_law_443 ?_
  refine jj_iconst C0 dL_law_445 ?_
  refine jj_iadd C0 dL_law_446 ?_
  refine jj_sald C0 hX hbl hbA hL (k := (i + 4)) (by omega) (by omega) dL_law_447 ?_
  refine jj_topi (b := a4) h4 ?_
  refine jj_aload_n C0 1 rfl dL_law_448 ?_
  refine jj_callSWi C0 (cells' := cells + 1) (slots' := slots + 6) (jj_weaki (fun A U H h => h.1) (cr_L_quote_A hl (c := c) (x := a2) (y := a3) (z := a4) hb hr2 hr3 hr4 hcn hn hED0)) (vx_cwSW 6 hw (lw_gW hU_546 hU_547 hU_59 hU_548) rfl rfl rfl (by decide +kernel) ⟨Nat.le_of_ble_eq_true rfl, Nat.le_of_ble_eq_true rfl⟩) rfl rfl (Nat.le_of_ble_eq_true rfl) ⟨by show cells + 1 ≤ 601024; omega, by show slots + 6 ≤ 7293034; omega⟩ rfl rfl dL_law_449 ?_
  intro _ hu
  show jj_W _ _ _ _ _ _ _ _ _ _ _ _ _ _ _ _ _ 452 _ [.int (iI 2)] (wH ha cA hA nA ed cI cJ cZ td pr up dn dv rw sd mc n mo sh co Ca Cz K St Ex Am Bi As BL AL He Co ++ ((o, .inl (cJ, 1, .inr (.inl (lA F)))) :: (GG ++ wM ad cI cJ cZ th td pr up dn dv n K St Ex Am Ov Bj Aj BL AL He Co Ca mo sh co sd Cz Ab be)))
  refine jj_istore C0 (lv' := [(5, .int (iI 2)), (4, .int (iI (i : Int))), (3, .ref o), (2, .ref (ad 0)), (1, .ref (ha 0)), (0, .ref b)]) (by decide) rfl dL_law_452 ?_
  refine jj_toM ?_
  refine jj_aload_n C0 3 rfl dL_law_454 ?_
  refine jj_aload_n C0 5 rfl dL_law_455 ?_
  refine jj_iload C0 1 rfl dL_law_456 ?_
  refine jj_iconst C0 dL_law_458 ?_
  refine jj_iadd C0 dL_law_459 ?_
  refine jj_sald C0 hX hbl hbA hL (k := (i + 1)) (by omega) (by omega) dL_law_460 ?_
  refine jj_topi (b := (c : Int)) h1 ?_
  refine jj_aload_n C0 5 rfl dL_law_461 ?_
  refine jj_iload C0 1 rfl dL_law_462 ?_
  refine jj_iconst C0 dL_law_464 ?_
  refine jj_iadd C0 dL_law_465 ?_
  refine jj_sald C0 hX hbl hbA hL (k := (i + 2)) (by omega) (by omega) dL_law_466 ?_
  refine jj_topi (b := a2) h2 ?_
  refine jj_aload_n C0 5 rfl dL_law_467 ?_
  refine jj_iload C0 1 rfl dL_law_468 ?_
  refine jj_iconst C0 dL_law_470 ?_
  refine jj_iadd C0 dL_law_471 ?_
  refine jj_sald C0 hX hbl hbA hL (k := (i + 3)) (by omega) (by omega) dL_law_472 ?_
  refine jj_topi (b := a3) h3 ?_
  refine jj_aload_n C0 5 rfl dL_law_473 ?_
  refine jj_iload C0 1 rfl dL_law_474 ?_
  refine jj_iconst C0 dL_law_476 ?_
  refine jj_iadd C0 dL_law_477 ?_
  refine jj_sald C0 hX hbl hbA hL (k := (i + 4)) (by omega) (by omega) dL_law_478 ?_
  refine jj_topi (b := a4) h4 ?_
  refine jj_callVi C0 (cells' := (cells + 1)) (slots' := (slots + 6)) (cb_X4_quote hEV (w := (c : Int)) (x := a2) (y := a3) (z := a4) (kk := 2) hr2 hr3 hr4 (by omega) hn hOv (Or.inr (Or.inl ⟨by omega, hb, rfl⟩))) (cwV 4 hw (lw_gV hU_915 hU_916 hU_917 hU_66 hU_918) rfl rfl rfl (by decide +kernel) ⟨Nat.le_of_ble_eq_true rfl, Nat.le_of_ble_eq_true rfl⟩) (ci := 5) (q0 := 0) rfl (rfl) rfl rfl (Nat.le_of_ble_eq_true rfl) ⟨by show (cells + 1) + 0 ≤ 601024; omega, by show (slots + 6) + 0 ≤ 7293034; omega⟩ rfl rfl dL_law_479 ?_
  intro u_1 hu
  show jj_W _ _ _ _ _ _ _ _ _ _ _ _ _ _ _ _ _ 482 _ [.int (iI u_1)] (wM ad cI cJ cZ 2 td pr up dn dv n K St Ex Am Ov Bj Aj BL AL He Co Ca mo sh co sd Cz Ab be ++ (wH ha cA hA nA ed cI cJ cZ td pr up dn dv rw sd mc n mo sh co Ca Cz K St Ex Am Bi As BL AL He Co ++ ((o, .inl (cJ, 1, .inr (.inl (lA F)))) :: GG)))
  refine jj_istore C0 (lv' := [(6, .int (iI u_1)), (5, .int (iI 2)), (4, .int (iI (i : Int))), (3, .ref o), (2, .ref (ad 0)), (1, .ref (ha 0)), (0, .ref b)]) (by decide) rfl dL_law_482 ?_
  refine jj_aload_n C0 4 rfl dL_law_484 ?_
  refine jj_callVi C0 (cells' := (cells + 1)) (slots' := (slots + 6)) (cc_X4_thrown hEV  ) (cwV 0 hw (lw_gV hU_865 hU_866 hU_867 hU_66 hU_868) rfl rfl rfl (by decide +kernel) ⟨Nat.le_of_ble_eq_true rfl, Nat.le_of_ble_eq_true rfl⟩) (ci := 5) (q0 := 0) rfl (rfl) rfl rfl (Nat.le_of_ble_eq_true rfl) ⟨by show (cells + 1) + 0 ≤ 601024; omega, by show (slots + 6) + 0 ≤ 7293034; omega⟩ rfl rfl dL_law_485 ?_
  intro _ hu
  show jj_W _ _ _ _ _ _ _ _ _ _ _ _ _ _ _ _ _ 488 _ [.int (iI 2)] (wM ad cI cJ cZ 2 td pr up dn dv n K St Ex Am Ov Bj Aj BL AL He Co Ca mo sh co sd Cz Ab be ++ (wH ha cA hA nA ed cI cJ cZ td pr up dn dv rw sd mc n mo sh co Ca Cz K St Ex Am Bi As BL AL He Co ++ ((o, .inl (cJ, 1, .inr (.inl (lA F)))) :: GG)))
  refine jj_iload C0 1 rfl dL_law_488 ?_
  refine jj_icmp_eq C0 (by omega) (by omega) dL_law_490 (tgt := 495) (by decide) (fun c_2 => ?_) (fun c_2 => absurd c_2 (by omega))
  refine jj_iload C0 1 rfl dL_law_495 ?_
  refine jj_if_ne C0 (by omega) dL_law_497 (tgt := 512) (by decide) (fun c_3 => ?_) (fun c_3 => absurd c_3 (by omega))
  refine jj_goto C0 (tgt := 1530) dL_law_512 (by decide) ?_
  refine jj_toH ?_
  refine jj_lv [2, 3, 4, 5, 6] rfl ?_
  exact kK cA hA nA ed rw F mc GG 2 be Ab td pr up dn dv sd n mo sh co Ca Cz K St Ex Am Ov Bi As Bj Aj BL AL He Co _ _ (f_IV_k hV) (hG) (by omega) (by omega)
set_option maxHeartbeats 4000000 in
set_option maxRecDepth 100000 in
theorem ll_quote_S (hC9 : f_CC p l s m args meth c9 dC dI A cI cJ cZ cO es mi sa b L xs) (hi : i + 5 ≤ L) (hik : i = 5 * k) (hcs : cells + 8 ≤ 601024 ∧ slots + 80 ≤ 7293034) (hI : f_IV k td n pr up dn dv sd mo sh Ca K St Ex Am Ov Bi As Bj Aj BL AL He Co) (hG : f_LG cO es n ed cA GG) (kK : f_KK p l e s m args below meth c9 dC dI A Q ha ad cI cJ cZ cO o es b i k cells slots) {c : Nat} {a2 a3 a4 : Int} (h1 : (xs (i + 1)).toInt = (c : Int)) (h2 : (xs (i + 2)).toInt = a2) (h3 : (xs (i + 3)).toInt = a3) (h4 : (xs (i + 4)).toInt = a4) (hr2 : iR a2) (hr3 : iR a3) (hr4 : iR a4) (hcn : c < n) (hov0 : Ov c ≠ 0) (hb : 0 ≤ a2 ∧ a2 ≤ 20000 ∧ 0 ≤ a3 ∧ a3 ≤ 20000 ∧ 0 ≤ a4 ∧ a4 ≤ 100) : jj_W p l e room_1 s m args below meth c9 (dC, dI) vwCl A 8 cells slots Q 423 [(4, .int (iI (i : Int))), (3, .ref o), (2, .ref (ad 0)), (1, .ref (ha 0)), (0, .ref b)] [] (wH ha cA hA nA ed cI cJ cZ td pr up dn dv rw sd mc n mo sh co Ca Cz K St Ex Am Bi As BL AL He Co ++ ((o, .inl (cJ, 1, .inr (.inl (lA F)))) :: (GG ++ wM ad cI cJ cZ th td pr up dn dv n K St Ex Am Ov Bj Aj BL AL He Co Ca mo sh co sd Cz Ab be))) := by
  obtain ⟨C0, hl, hX, hbl, hbA, hL⟩ := hC9
  have hw := C0.2.2.2.2.1
  have hEV := hEVW es mi sa
  have hV := hI
  obtain ⟨⟨htd, hn, hpr, hup, hdn, hdv, hsd, hmo, hsh⟩, ⟨hK, hSt, hEx, hAm, hOv, hovs, hexs, hovn⟩, hQ9, ⟨hHe, hsums, hHz⟩, ⟨hCo, hCz⟩, hCa⟩ := hI
  have hQ := hQ9
  obtain ⟨hBi, hAs, hBj, hAj, hBL, hAL, hQt, hQ0, hQn, hQo⟩ := hQ9
  have hED0 : 0 < n → f_ED cA n ed cO (GG ++ wM ad cI cJ cZ th td pr up dn dv n K St Ex Am Ov Bj Aj BL AL He Co Ca mo sh co sd Cz Ab be) := f_LG_ED hG
  have hexs1 : ∀ c, c < n → Ex c ≤ (td : Int) + 10 := fun c hc => (hexs c hc).1
  have hk5 : k ≤ 511 := by omega
  have hHe9 : ∀ j, -999000 ≤ He j ∧ He j ≤ 999000 := fun j => by have := hHe j; omega
  have hHe6 : ∀ j, -1000000 ≤ He j ∧ He j ≤ 1000000 := fun j => by have := hHe j; omega
  have hCa9 : ∀ j, -100000000000000000 ≤ Ca j ∧ Ca j ≤ 100000000000000000 := fun j => by have := hCa j; omega
  have hov1 : Ex c < (td : Int) := by have := hovs c hcn; omega
  refine jj_aload_n C0 3 rfl dL_law_423 ?_
  refine jj_aload_n C0 4 rfl dL_law_424 ?_
  refine jj_iload C0 0 rfl dL_law_425 ?_
  refine jj_iconst C0 dL_law_427 ?_
  refine jj_iadd C0 dL_law_428 ?_
  refine jj_sald C0 hX hbl hbA hL (k := (i + 1)) (by omega) (by omega) dL_law_429 ?_
  refine jj_topi (b := (c : Int)) h1 ?_
  refine jj_aload_n C0 4 rfl dL_law_430 ?_
  refine jj_iload C0 0 rfl dL_law_431 ?_
  refine jj_iconst C0 dL_law_433 ?_
  refine jj_iadd C0 dL_law_434 ?_
  refine jj_sald C0 hX hbl hbA hL (k := (i + 2)) (by omega) (by omega) dL_law_435 ?_
  refine jj_topi (b := a2) h2 ?_
  refine jj_aload_n C0 4 rfl dL_law_436 ?_
  refine jj_iload C0 0 rfl dL_law_437 ?_
  refine jj_iconst C0 dL_law_439 ?_
  refine jj_iadd C0 dL_law_440 ?_
  refine jj_sald C0 hX hbl hbA hL (k := (i + 3)) (by omega) (by omega) dL_law_441 ?_
  refine jj_topi (b := a3) h3 ?_
  refine jj_aload_n C0 4 rfl dL_law_442 ?_
  refine jj_iload C0 0 rfl dL_law_443 ?_
  refine jj_iconst C0 dL_law_445 ?_
  refine jj_iadd C0 dL_law_446 ?_
  refine jj_sald C0 hX hbl hbA hL (k := (i + 4)) (by omega) (by omega) dL_law_447 ?_
  refine jj_topi (b := a4) h4 ?_
  refine jj_aload_n C0 1 rfl dL_law_448 ?_
  refine jj_callSWi C0 (cells' := cells + 1) (slots' := slots + 6) (jj_weaki (fun A U H h => h.1) (cr_L_quote_S hl (c := c) (x := a2) (y := a3) (z := a4) hov1 hb hcn hn hEx htd hED0)) (vx_cwSW 6 hw (lw_gW hU_546 hU_547 hU_59 hU_548) rfl rfl rfl (by decide +kernel) ⟨Nat.le_of_ble_eq_true rfl, Nat.le_of_ble_eq_true rfl⟩) rfl rfl (Nat.le_of_ble_eq_true rfl) ⟨by show cells + 1 ≤ 601024; omega, by show slots + 6 ≤ 7293034; omega⟩ rfl rfl dL_law_449 ?_
  intro _ hu
  show jj_W _ _ _ _ _ _ _ _ _ _ _ _ _ _ _ _ _ 452 _ [.int (iI 3)] (wH ha cA hA nA ed cI cJ cZ td pr up dn dv rw sd mc n mo sh co Ca Cz K St Ex Am Bi As BL AL He Co ++ ((o, .inl (cJ, 1, .inr (.inl (lA F)))) :: (GG ++ wM ad cI cJ cZ th td pr up dn dv n K St Ex Am Ov Bj Aj BL AL He Co Ca mo sh co sd Cz Ab be)))
  refine jj_istore C0 (lv' := [(5, .int (iI 3)), (4, .int (iI (i : Int))), (3, .ref o), (2, .ref (ad 0)), (1, .ref (ha 0)), (0, .ref b)]) (by decide) rfl dL_law_452 ?_
  refine jj_toM ?_
  refine jj_aload_n C0 3 rfl dL_law_454 ?_
  refine jj_aload_n C0 5 rfl dL_law_455 ?_
  refine jj_iload C0 1 rfl dL_law_456 ?_
  refine jj_iconst C0 dL_law_458 ?_
  refine jj_iadd C0 dL_law_459 ?_
  refine jj_sald C0 hX hbl hbA hL (k := (i + 1)) (by omega) (by omega) dL_law_460 ?_
  refine jj_topi (b := (c : Int)) h1 ?_
  refine jj_aload_n C0 5 rfl dL_law_461 ?_
  refine jj_iload C0 1 rfl dL_law_462 ?_
  refine jj_iconst C0 dL_law_464 ?_
  refine jj_iadd C0 dL_law_465 ?_
  refine jj_sald C0 hX hbl hbA hL (k := (i + 2)) (by omega) (by omega) dL_law_466 ?_
  refine jj_topi (b := a2) h2 ?_
  refine jj_aload_n C0 5 rfl dL_law_467 ?_
  refine jj_iload C0 1 rfl dL_law_468 ?_
  refine jj_iconst C0 dL_law_470 ?_
  refine jj_iadd C0 dL_law_471 ?_
  refine jj_sald C0 hX hbl hbA hL (k := (i + 3)) (by omega) (by omega) dL_law_472 ?_
  refine jj_topi (b := a3) h3 ?_
  refine jj_aload_n C0 5 rfl dL_law_473 ?_
  refine jj_iload C0 1 rfl dL_law_474 ?_
  refine jj_iconst C0 dL_law_476 ?_
  refine jj_iadd C0 dL_law_477 ?_
  refine jj_sald C0 hX hbl hbA hL (k := (i + 4)) (by omega) (by omega) dL_law_478 ?_
  refine jj_topi (b := a4) h4 ?_
  refine jj_callVi C0 (cells' := (cells + 1)) (slots' := (slots + 6)) (cb_X4_quote hEV (w := (c : Int)) (x := a2) (y := a3) (z := a4) (kk := 3) hr2 hr3 hr4 (by omega) hn hOv (Or.inr (Or.inr ⟨by omega, hb, hov0, rfl⟩))) (cwV 4 hw (lw_gV hU_915 hU_916 hU_917 hU_66 hU_918) rfl rfl rfl (by decide +kernel) ⟨Nat.le_of_ble_eq_true rfl, Nat.le_of_ble_eq_true rfl⟩) (ci := 5) (q0 := 0) rfl (rfl) rfl rfl (Nat.le_of_ble_eq_true rfl) ⟨by show (cells + 1) + 0 ≤ 601024; omega, by show (slots + 6) + 0 ≤ 7293034; omega⟩ rfl rfl dL_law_479 ?_
  intro u_1 hu
  show jj_W _ _ _ _ _ _ _ _ _ _ _ _ _ _ _ _ _ 482 _ [.int (iI u_1)] (wM ad cI cJ cZ 3 td pr up dn dv n K St Ex Am Ov Bj Aj BL AL He Co Ca mo sh co sd Cz Ab be ++ (wH ha cA hA nA ed cI cJ cZ td pr up dn dv rw sd mc n mo sh co Ca Cz K St Ex Am Bi As BL AL He Co ++ ((o, .inl (cJ, 1, .inr (.inl (lA F)))) :: GG)))
  refine jj_istore C0 (lv' := [(6, .int (iI u_1)), (5, .int (iI 3)), (4, .int (iI (i : Int))), (3, .ref o), (2, .ref (ad 0)), (1, .ref (ha 0)), (0, .ref b)]) (by decide) rfl dL_law_482 ?_
  refine jj_aload_n C0 4 rfl dL_law_484 ?_
  refine jj_callVi C0 (cells' := (cells + 1)) (slots' := (slots + 6)) (cc_X4_thrown hEV  ) (cwV 0 hw (lw_gV hU_865 hU_866 hU_867 hU_66 hU_868) rfl rfl rfl (by decide +kernel) ⟨Nat.le_of_ble_eq_true rfl, Nat.le_of_ble_eq_true rfl⟩) (ci := 5) (q0 := 0) rfl (rfl) rfl rfl (Nat.le_of_ble_eq_true rfl) ⟨by show (cells + 1) + 0 ≤ 601024; omega, by show (slots + 6) + 0 ≤ 7293034; omega⟩ rfl rfl dL_law_485 ?_
  intro _ hu
  show jj_W _ _ _ _ _ _ _ _ _ _ _ _ _ _ _ _ _ 488 _ [.int (iI 3)] (wM ad cI cJ cZ 3 td pr up dn dv n K St Ex Am Ov Bj Aj BL AL He Co Ca mo sh co sd Cz Ab be ++ (wH ha cA hA nA ed cI cJ cZ td pr up dn dv rw sd mc n mo sh co Ca Cz K St Ex Am Bi As BL AL He Co ++ ((o, .inl (cJ, 1, .inr (.inl (lA F)))) :: GG)))
  refine jj_iload C0 1 rfl dL_law_488 ?_
  refine jj_icmp_eq C0 (by omega) (by omega) dL_law_490 (tgt := 495) (by decide) (fun c_2 => ?_) (fun c_2 => absurd c_2 (by omega))
  refine jj_iload C0 1 rfl dL_law_495 ?_
  refine jj_if_ne C0 (by omega) dL_law_497 (tgt := 512) (by decide) (fun c_3 => ?_) (fun c_3 => absurd c_3 (by omega))
  refine jj_goto C0 (tgt := 1530) dL_law_512 (by decide) ?_
  refine jj_toH ?_
  refine jj_lv [2, 3, 4, 5, 6] rfl ?_
  exact kK cA hA nA ed rw F mc GG 3 be Ab td pr up dn dv sd n mo sh co Ca Cz K St Ex Am Ov Bi As Bj Aj BL AL He Co _ _ (f_IV_k hV) (hG) (by omega) (by omega)
set_option maxHeartbeats 4000000 in
set_option maxRecDepth 100000 in
theorem ll_kill (hC9 : f_CC p l s m args meth c9 dC dI A cI cJ cZ cO es mi sa b L xs) (hi : i + 5 ≤ L) (hik : i = 5 * k) (hcs : cells + 8 ≤ 601024 ∧ slots + 80 ≤ 7293034) (hI : f_IV k td n pr up dn dv sd mo sh Ca K St Ex Am Ov Bi As Bj Aj BL AL He Co) (hG : f_LG cO es n ed cA GG) (kK : f_KK p l e s m args below meth c9 dC dI A Q ha ad cI cJ cZ cO o es b i k cells slots)    : jj_W p l e room_1 s m args below meth c9 (dC, dI) vwCl A 8 cells slots Q 515 [(4, .int (iI (i : Int))), (3, .ref o), (2, .ref (ad 0)), (1, .ref (ha 0)), (0, .ref b)] [] (wH ha cA hA nA ed cI cJ cZ td pr up dn dv rw sd mc n mo sh co Ca Cz K St Ex Am Bi As BL AL He Co ++ ((o, .inl (cJ, 1, .inr (.inl (lA F)))) :: (GG ++ wM ad cI cJ cZ th td pr up dn dv n K St Ex Am Ov Bj Aj BL AL He Co Ca mo sh co sd Cz Ab be))) := by
  obtain ⟨C0, hl, hX, hbl, hbA, hL⟩ := hC9
  have hw := C0.2.2.2.2.1
  have hEV := hEVW es mi sa
  have hV := hI
  obtain ⟨⟨htd, hn, hpr, hup, hdn, hdv, hsd, hmo, hsh⟩, ⟨hK, hSt, hEx, hAm, hOv, hovs, hexs, hovn⟩, hQ9, ⟨hHe, hsums, hHz⟩, ⟨hCo, hCz⟩, hCa⟩ := hI
  have hQ := hQ9
  obtain ⟨hBi, hAs, hBj, hAj, hBL, hAL, hQt, hQ0, hQn, hQo⟩ := hQ9
  have hED0 : 0 < n → f_ED cA n ed cO (GG ++ wM ad cI cJ cZ th td pr up dn dv n K St Ex Am Ov Bj Aj BL AL He Co Ca mo sh co sd Cz Ab be) := f_LG_ED hG
  have hexs1 : ∀ c, c < n → Ex c ≤ (td : Int) + 10 := fun c hc => (hexs c hc).1
  have hk5 : k ≤ 511 := by omega
  have hHe9 : ∀ j, -999000 ≤ He j ∧ He j ≤ 999000 := fun j => by have := hHe j; omega
  have hHe6 : ∀ j, -1000000 ≤ He j ∧ He j ≤ 1000000 := fun j => by have := hHe j; omega
  have hCa9 : ∀ j, -100000000000000000 ≤ Ca j ∧ Ca j ≤ 100000000000000000 := fun j => by have := hCa j; omega
  refine jj_aload_n C0 3 rfl dL_law_515 ?_
  refine jj_callVi C0 (cells' := cells) (slots' := slots) (jj_weaki (fun A U H h => EVW_h h) (cc_X3_kill   hn (fun h => f_ED_cons (hED0 h)) hBL hAL)) (cwV 0 hw (lw_gV hU_181 hU_182 hU_183 hU_60 hU_184) rfl rfl rfl (by decide +kernel) ⟨Nat.le_of_ble_eq_true rfl, Nat.le_of_ble_eq_true rfl⟩) (ci := 4) (q0 := 0) rfl (rfl) rfl rfl (Nat.le_of_ble_eq_true rfl) ⟨by show cells + 0 ≤ 601024; omega, by show slots + 0 ≤ 7293034; omega⟩ rfl rfl dL_law_516 ?_
  intro _ hu
  show jj_W _ _ _ _ _ _ _ _ _ _ _ _ _ _ _ _ _ 519 _ [.int (iI (f_cnt BL AL n))] (wH ha cA hA nA ed cI cJ cZ td pr up dn dv rw sd mc n mo sh co Ca Cz K St Ex Am (f_zero Bi n) (f_zero As n) (f_zero BL n) (f_zero AL n) He Co ++ ((o, .inl (cJ, 1, .inr (.inl (lA F)))) :: (GG ++ wM ad cI cJ cZ th td pr up dn dv n K St Ex Am Ov Bj Aj BL AL He Co Ca mo sh co sd Cz Ab be)))
  refine jj_toM ?_
  refine jj_aload_n C0 2 rfl dL_law_519 ?_
  refine jj_callVi C0 (cells' := cells) (slots' := slots) (cc_X4_kill hEV  hn hBL hAL) (cwV 0 hw (lw_gV hU_944 hU_945 hU_946 hU_66 hU_947) rfl rfl rfl (by decide +kernel) ⟨Nat.le_of_ble_eq_true rfl, Nat.le_of_ble_eq_true rfl⟩) (ci := 5) (q0 := 0) rfl (rfl) rfl rfl (Nat.le_of_ble_eq_true rfl) ⟨by show cells + 0 ≤ 601024; omega, by show slots + 0 ≤ 7293034; omega⟩ rfl rfl dL_law_520 ?_
  intro _ hu
  show jj_W _ _ _ _ _ _ _ _ _ _ _ _ _ _ _ _ _ 523 _ [.int (iI (f_cnt BL AL n)), .int (iI (f_cnt BL AL n))] (wM ad cI cJ cZ 0 td pr up dn dv n K St Ex Am Ov Bj Aj (f_zero BL n) (f_zero AL n) He Co Ca mo sh co sd Cz Ab be ++ (wH ha cA hA nA ed cI cJ cZ td pr up dn dv rw sd mc n mo sh co Ca Cz K St Ex Am (f_zero Bi n) (f_zero As n) (f_zero BL n) (f_zero AL n) He Co ++ ((o, .inl (cJ, 1, .inr (.inl (lA F)))) :: GG)))
  refine jj_icmpS C0 dL_law_523 (tgt := 1530) (by decide) ?_
  refine jj_toH ?_
  exact kK cA hA nA ed rw F mc GG 0 be Ab td pr up dn dv sd n mo sh co Ca Cz K St Ex Am Ov (f_zero Bi n) (f_zero As n) Bj Aj (f_zero BL n) (f_zero AL n) He Co _ _ (f_IV_kill hV) (hG) (by omega) (by omega)
set_option maxHeartbeats 4000000 in
set_option maxRecDepth 100000 in
theorem ll_limit (hC9 : f_CC p l s m args meth c9 dC dI A cI cJ cZ cO es mi sa b L xs) (hi : i + 5 ≤ L) (hik : i = 5 * k) (hcs : cells + 8 ≤ 601024 ∧ slots + 80 ≤ 7293034) (hI : f_IV k td n pr up dn dv sd mo sh Ca K St Ex Am Ov Bi As Bj Aj BL AL He Co) (hG : f_LG cO es n ed cA GG) (kK : f_KK p l e s m args below meth c9 dC dI A Q ha ad cI cJ cZ cO o es b i k cells slots) {a1 : Int} (h1 : (xs (i + 1)).toInt = a1) (hx : 0 ≤ a1 ∧ a1 ≤ 1000) : jj_W p l e room_1 s m args below meth c9 (dC, dI) vwCl A 8 cells slots Q 528 [(4, .int (iI (i : Int))), (3, .ref o), (2, .ref (ad 0)), (1, .ref (ha 0)), (0, .ref b)] [] (wH ha cA hA nA ed cI cJ cZ td pr up dn dv rw sd mc n mo sh co Ca Cz K St Ex Am Bi As BL AL He Co ++ ((o, .inl (cJ, 1, .inr (.inl (lA F)))) :: (GG ++ wM ad cI cJ cZ th td pr up dn dv n K St Ex Am Ov Bj Aj BL AL He Co Ca mo sh co sd Cz Ab be))) := by
  obtain ⟨C0, hl, hX, hbl, hbA, hL⟩ := hC9
  have hw := C0.2.2.2.2.1
  have hEV := hEVW es mi sa
  have hV := hI
  obtain ⟨⟨htd, hn, hpr, hup, hdn, hdv, hsd, hmo, hsh⟩, ⟨hK, hSt, hEx, hAm, hOv, hovs, hexs, hovn⟩, hQ9, ⟨hHe, hsums, hHz⟩, ⟨hCo, hCz⟩, hCa⟩ := hI
  have hQ := hQ9
  obtain ⟨hBi, hAs, hBj, hAj, hBL, hAL, hQt, hQ0, hQn, hQo⟩ := hQ9
  have hED0 : 0 < n → f_ED cA n ed cO (GG ++ wM ad cI cJ cZ th td pr up dn dv n K St Ex Am Ov Bj Aj BL AL He Co Ca mo sh co sd Cz Ab be) := f_LG_ED hG
  have hexs1 : ∀ c, c < n → Ex c ≤ (td : Int) + 10 := fun c hc => (hexs c hc).1
  have hk5 : k ≤ 511 := by omega
  have hHe9 : ∀ j, -999000 ≤ He j ∧ He j ≤ 999000 := fun j => by have := hHe j; omega
  have hHe6 : ∀ j, -1000000 ≤ He j ∧ He j ≤ 1000000 := fun j => by have := hHe j; omega
  have hCa9 : ∀ j, -100000000000000000 ≤ Ca j ∧ Ca j ≤ 100000000000000000 := fun j => by have := hCa j; omega
  refine jj_aload_n C0 3 rfl dL_law_528 ?_
  refine jj_aload_n C0 4 rfl dL_law_529 ?_
  refine jj_iload C0 0 rfl dL_law_530 ?_
  refine jj_iconst C0 dL_law_532 ?_
  refine jj_iadd C0 dL_law_533 ?_
  refine jj_sald C0 hX hbl hbA hL (k := (i + 1)) (by omega) (by omega) dL_law_534 ?_
  refine jj_topi (b := a1) h1 ?_
  refine jj_aload_n C0 1 rfl dL_law_535 ?_
  refine jj_callSWi C0 (cells' := cells) (slots' := slots) (jj_weaki (fun A U H h => h.1) (cw_L_limit hl (x := a1) hx hED0 (by omega))) (vx_cwSW 3 hw (lw_gW hU_580 hU_581 hU_59 hU_582) rfl rfl rfl (by decide +kernel) ⟨Nat.le_of_ble_eq_true rfl, Nat.le_of_ble_eq_true rfl⟩) rfl rfl (Nat.le_of_ble_eq_true rfl) ⟨by show cells + 0 ≤ 601024; omega, by show slots + 0 ≤ 7293034; omega⟩ rfl rfl dL_law_536 ?_
  intro _ hu
  show jj_W _ _ _ _ _ _ _ _ _ _ _ _ _ _ _ _ _ 539 _ [.int (iI 0)] (wH ha cA hA nA ed cI cJ cZ td pr up dn dv rw sd mc n a1 sh co Ca Cz K St Ex Am Bi As BL AL He Co ++ ((o, .inl (cJ, 1, .inr (.inl (lA (va_up F 0 mo))))) :: (GG ++ wM ad cI cJ cZ th td pr up dn dv n K St Ex Am Ov Bj Aj BL AL He Co Ca mo sh co sd Cz Ab be)))
  refine jj_istore C0 (lv' := [(5, .int (iI 0)), (4, .int (iI (i : Int))), (3, .ref o), (2, .ref (ad 0)), (1, .ref (ha 0)), (0, .ref b)]) (by decide) rfl dL_law_539 ?_
  refine jj_toM ?_
  refine jj_aload_n C0 3 rfl dL_law_541 ?_
  refine jj_aload_n C0 5 rfl dL_law_542 ?_
  refine jj_iload C0 1 rfl dL_law_543 ?_
  refine jj_iconst C0 dL_law_545 ?_
  refine jj_iadd C0 dL_law_546 ?_
  refine jj_sald C0 hX hbl hbA hL (k := (i + 1)) (by omega) (by omega) dL_law_547 ?_
  refine jj_topi (b := a1) h1 ?_
  refine jj_callVi C0 (cells' := cells) (slots' := slots) (cc_X4_limit hEV (x := a1) hx) (cwV 1 hw (lw_gV hU_952 hU_953 hU_954 hU_66 hU_955) rfl rfl rfl (by decide +kernel) ⟨Nat.le_of_ble_eq_true rfl, Nat.le_of_ble_eq_true rfl⟩) (ci := 5) (q0 := 0) rfl (rfl) rfl rfl (Nat.le_of_ble_eq_true rfl) ⟨by show cells + 0 ≤ 601024; omega, by show slots + 0 ≤ 7293034; omega⟩ rfl rfl dL_law_548 ?_
  intro _ hu
  show jj_W _ _ _ _ _ _ _ _ _ _ _ _ _ _ _ _ _ 551 _ [.int (iI mo)] (wM ad cI cJ cZ 0 td pr up dn dv n K St Ex Am Ov Bj Aj BL AL He Co Ca a1 sh co sd Cz Ab be ++ (wH ha cA hA nA ed cI cJ cZ td pr up dn dv rw sd mc n a1 sh co Ca Cz K St Ex Am Bi As BL AL He Co ++ ((o, .inl (cJ, 1, .inr (.inl (lA (va_up F 0 mo))))) :: GG)))
  refine jj_istore C0 (lv' := [(6, .int (iI mo)), (5, .int (iI 0)), (4, .int (iI (i : Int))), (3, .ref o), (2, .ref (ad 0)), (1, .ref (ha 0)), (0, .ref b)]) (by decide) rfl dL_law_551 ?_
  refine jj_aload_n C0 4 rfl dL_law_553 ?_
  refine jj_callVi C0 (cells' := cells) (slots' := slots) (cc_X4_thrown hEV  ) (cwV 0 hw (lw_gV hU_865 hU_866 hU_867 hU_66 hU_868) rfl rfl rfl (by decide +kernel) ⟨Nat.le_of_ble_eq_true rfl, Nat.le_of_ble_eq_true rfl⟩) (ci := 5) (q0 := 0) rfl (rfl) rfl rfl (Nat.le_of_ble_eq_true rfl) ⟨by show cells + 0 ≤ 601024; omega, by show slots + 0 ≤ 7293034; omega⟩ rfl rfl dL_law_554 ?_
  intro _ hu
  show jj_W _ _ _ _ _ _ _ _ _ _ _ _ _ _ _ _ _ 557 _ [.int (iI 0)] (wM ad cI cJ cZ 0 td pr up dn dv n K St Ex Am Ov Bj Aj BL AL He Co Ca a1 sh co sd Cz Ab be ++ (wH ha cA hA nA ed cI cJ cZ td pr up dn dv rw sd mc n a1 sh co Ca Cz K St Ex Am Bi As BL AL He Co ++ ((o, .inl (cJ, 1, .inr (.inl (lA (va_up F 0 mo))))) :: GG)))
  refine jj_iload C0 1 rfl dL_law_557 ?_
  refine jj_icmp_eq C0 (by omega) (by omega) dL_law_559 (tgt := 564) (by decide) (fun c_1 => ?_) (fun c_1 => absurd c_1 (by omega))
  refine jj_iload C0 1 rfl dL_law_564 ?_
  refine jj_if_ne C0 (by omega) dL_law_566 (tgt := 581) (by decide) (fun c_2 => absurd c_2 (by omega)) (fun c_2 => ?_)
  refine jj_toH ?_
  refine jj_aload_n C0 3 rfl dL_law_569 ?_
  refine jj_iconst C0 dL_law_570 ?_
  refine jj_lald C0 (q0 := (8 + (3 * n + 0))) (t0 := 1) (f := (va_up F 0 mo)) ((wH_ee (n := n) rfl)) rfl (k := 0) (by omega) (by omega) (by decide) dL_law_571 ?_
  refine jj_topl (b := mo) (va_up_self _ _ _) ?_
  refine jj_iload C0 0 rfl dL_law_572 ?_
  refine jj_i2l C0 (by omega) dL_law_574 ?_
  refine jj_lcmpS C0 dL_law_575 dL_law_576 (tgt := 581) (by decide) ?_
  refine jj_goto C0 (tgt := 1530) dL_law_581 (by decide) ?_
  refine jj_lv [2, 3, 4, 5, 6] rfl ?_
  exact kK cA hA nA ed rw (va_up F 0 mo) mc GG 0 be Ab td pr up dn dv sd n a1 sh co Ca Cz K St Ex Am Ov Bi As Bj Aj BL AL He Co _ _ (⟨⟨htd, hn, hpr, hup, hdn, hdv, hsd, hx, hsh⟩, (f_IV_k hV).2⟩) (hG) (by omega) (by omega)
set_option maxHeartbeats 4000000 in
set_option maxRecDepth 100000 in
theorem ll_limit_r (hC9 : f_CC p l s m args meth c9 dC dI A cI cJ cZ cO es mi sa b L xs) (hi : i + 5 ≤ L) (hik : i = 5 * k) (hcs : cells + 8 ≤ 601024 ∧ slots + 80 ≤ 7293034) (hI : f_IV k td n pr up dn dv sd mo sh Ca K St Ex Am Ov Bi As Bj Aj BL AL He Co) (hG : f_LG cO es n ed cA GG) (kK : f_KK p l e s m args below meth c9 dC dI A Q ha ad cI cJ cZ cO o es b i k cells slots) {a1 : Int} (h1 : (xs (i + 1)).toInt = a1) (hr1 : iR a1) (hb : ¬ (0 ≤ a1 ∧ a1 ≤ 1000)) : jj_W p l e room_1 s m args below meth c9 (dC, dI) vwCl A 8 cells slots Q 528 [(4, .int (iI (i : Int))), (3, .ref o), (2, .ref (ad 0)), (1, .ref (ha 0)), (0, .ref b)] [] (wH ha cA hA nA ed cI cJ cZ td pr up dn dv rw sd mc n mo sh co Ca Cz K St Ex Am Bi As BL AL He Co ++ ((o, .inl (cJ, 1, .inr (.inl (lA F)))) :: (GG ++ wM ad cI cJ cZ th td pr up dn dv n K St Ex Am Ov Bj Aj BL AL He Co Ca mo sh co sd Cz Ab be))) := by
  obtain ⟨C0, hl, hX, hbl, hbA, hL⟩ := hC9
  have hw := C0.2.2.2.2.1
  have hEV := hEVW es mi sa
  have hV := hI
  obtain ⟨⟨htd, hn, hpr, hup, hdn, hdv, hsd, hmo, hsh⟩, ⟨hK, hSt, hEx, hAm, hOv, hovs, hexs, hovn⟩, hQ9, ⟨hHe, hsums, hHz⟩, ⟨hCo, hCz⟩, hCa⟩ := hI
  have hQ := hQ9
  obtain ⟨hBi, hAs, hBj, hAj, hBL, hAL, hQt, hQ0, hQn, hQo⟩ := hQ9
  have hED0 : 0 < n → f_ED cA n ed cO (GG ++ wM ad cI cJ cZ th td pr up dn dv n K St Ex Am Ov Bj Aj BL AL He Co Ca mo sh co sd Cz Ab be) := f_LG_ED hG
  have hexs1 : ∀ c, c < n → Ex c ≤ (td : Int) + 10 := fun c hc => (hexs c hc).1
  have hk5 : k ≤ 511 := by omega
  have hHe9 : ∀ j, -999000 ≤ He j ∧ He j ≤ 999000 := fun j => by have := hHe j; omega
  have hHe6 : ∀ j, -1000000 ≤ He j ∧ He j ≤ 1000000 := fun j => by have := hHe j; omega
  have hCa9 : ∀ j, -100000000000000000 ≤ Ca j ∧ Ca j ≤ 100000000000000000 := fun j => by have := hCa j; omega
  refine jj_aload_n C0 3 rfl dL_law_528 ?_
  refine jj_aload_n C0 4 rfl dL_law_529 ?_
  refine jj_iload C0 0 rfl dL_law_530 ?_
  refine jj_iconst C0 dL_law_532 ?_
  refine jj_iadd C0 dL_law_533 ?_
  refine jj_sald C0 hX hbl hbA hL (k := (i + 1)) (by omega) (by omega) dL_law_534 ?_
  refine jj_topi (b := a1) h1 ?_
  refine jj_aload_n C0 1 rfl dL_law_535 ?_
  refine jj_callSWi C0 (cells' := cells + 1) (slots' := slots + 6) (jj_weaki (fun A U H h => h.1) (cr_L_limit hl (x := a1) hb hr1 hED0)) (vx_cwSW 3 hw (lw_gW hU_580 hU_581 hU_59 hU_582) rfl rfl rfl (by decide +kernel) ⟨Nat.le_of_ble_eq_true rfl, Nat.le_of_ble_eq_true rfl⟩) rfl rfl (Nat.le_of_ble_eq_true rfl) ⟨by show cells + 1 ≤ 601024; omega, by show slots + 6 ≤ 7293034; omega⟩ rfl rfl dL_law_536 ?_
  intro _ hu
  show jj_W _ _ _ _ _ _ _ _ _ _ _ _ _ _ _ _ _ 539 _ [.int (iI 1)] (wH ha cA hA nA ed cI cJ cZ td pr up dn dv rw sd mc n mo sh co Ca Cz K St Ex Am Bi As BL AL He Co ++ ((o, .inl (cJ, 1, .inr (.inl (lA F)))) :: (GG ++ wM ad cI cJ cZ th td pr up dn dv n K St Ex Am Ov Bj Aj BL AL He Co Ca mo sh co sd Cz Ab be)))
  refine jj_istore C0 (lv' := [(5, .int (iI 1)), (4, .int (iI (i : Int))), (3, .ref o), (2, .ref (ad 0)), (1, .ref (ha 0)), (0, .ref b)]) (by decide) rfl dL_law_539 ?_
  refine jj_toM ?_
  refine jj_aload_n C0 3 rfl dL_law_541 ?_
  refine jj_aload_n C0 5 rfl dL_law_542 ?_
  refine jj_iload C0 1 rfl dL_law_543 ?_
  refine jj_iconst C0 dL_law_545 ?_
  refine jj_iadd C0 dL_law_546 ?_
  refine jj_sald C0 hX hbl hbA hL (k := (i + 1)) (by omega) (by omega) dL_law_547 ?_
  refine jj_topi (b := a1) h1 ?_
  refine jj_callVi C0 (cells' := (cells + 1)) (slots' := (slots + 6)) (cb_X4_limit hEV (x := a1) (kk := 1) hr1 (⟨hb, rfl⟩)) (cwV 1 hw (lw_gV hU_952 hU_953 hU_954 hU_66 hU_955) rfl rfl rfl (by decide +kernel) ⟨Nat.le_of_ble_eq_true rfl, Nat.le_of_ble_eq_true rfl⟩) (ci := 5) (q0 := 0) rfl (rfl) rfl rfl (Nat.le_of_ble_eq_true rfl) ⟨by show (cells + 1) + 0 ≤ 601024; omega, by show (slots + 6) + 0 ≤ 7293034; omega⟩ rfl rfl dL_law_548 ?_
  intro u_1 hu
  show jj_W _ _ _ _ _ _ _ _ _ _ _ _ _ _ _ _ _ 551 _ [.int (iI u_1)] (wM ad cI cJ cZ 1 td pr up dn dv n K St Ex Am Ov Bj Aj BL AL He Co Ca mo sh co sd Cz Ab be ++ (wH ha cA hA nA ed cI cJ cZ td pr up dn dv rw sd mc n mo sh co Ca Cz K St Ex Am Bi As BL AL He Co ++ ((o, .inl (cJ, 1, .inr (.inl (lA F)))) :: GG)))
  refine jj_istore C0 (lv' := [(6, .int (iI u_1)), (5, .int (iI 1)), (4, .int (iI (i : Int))), (3, .ref o), (2, .ref (ad 0)), (1, .ref (ha 0)), (0, .ref b)]) (by decide) rfl dL_law_551 ?_
  refine jj_aload_n C0 4 rfl dL_law_553 ?_
  refine jj_callVi C0 (cells' := (cells + 1)) (slots' := (slots + 6)) (cc_X4_thrown hEV  ) (cwV 0 hw (lw_gV hU_865 hU_866 hU_867 hU_66 hU_868) rfl rfl rfl (by decide +kernel) ⟨Nat.le_of_ble_eq_true rfl, Nat.le_of_ble_eq_true rfl⟩) (ci := 5) (q0 := 0) rfl (rfl) rfl rfl (Nat.le_of_ble_eq_true rfl) ⟨by show (cells + 1) + 0 ≤ 601024; omega, by show (slots + 6) + 0 ≤ 7293034; omega⟩ rfl rfl dL_law_554 ?_
  intro _ hu
  show jj_W _ _ _ _ _ _ _ _ _ _ _ _ _ _ _ _ _ 557 _ [.int (iI 1)] (wM ad cI cJ cZ 1 td pr up dn dv n K St Ex Am Ov Bj Aj BL AL He Co Ca mo sh co sd Cz Ab be ++ (wH ha cA hA nA ed cI cJ cZ td pr up dn dv rw sd mc n mo sh co Ca Cz K St Ex Am Bi As BL AL He Co ++ ((o, .inl (cJ, 1, .inr (.inl (lA F)))) :: GG)))
  refine jj_iload C0 1 rfl dL_law_557 ?_
  refine jj_icmp_eq C0 (by omega) (by omega) dL_law_559 (tgt := 564) (by decide) (fun c_2 => ?_) (fun c_2 => absurd c_2 (by omega))
  refine jj_iload C0 1 rfl dL_law_564 ?_
  refine jj_if_ne C0 (by omega) dL_law_566 (tgt := 581) (by decide) (fun c_3 => ?_) (fun c_3 => absurd c_3 (by omega))
  refine jj_goto C0 (tgt := 1530) dL_law_581 (by decide) ?_
  refine jj_toH ?_
  refine jj_lv [2, 3, 4, 5, 6] rfl ?_
  exact kK cA hA nA ed rw F mc GG 1 be Ab td pr up dn dv sd n mo sh co Ca Cz K St Ex Am Ov Bi As Bj Aj BL AL He Co _ _ (f_IV_k hV) (hG) (by omega) (by omega)
set_option maxHeartbeats 4000000 in
set_option maxRecDepth 100000 in
theorem ll_order (hC9 : f_CC p l s m args meth c9 dC dI A cI cJ cZ cO es mi sa b L xs) (hi : i + 5 ≤ L) (hik : i = 5 * k) (hcs : cells + 8 ≤ 601024 ∧ slots + 80 ≤ 7293034) (hI : f_IV k td n pr up dn dv sd mo sh Ca K St Ex Am Ov Bi As Bj Aj BL AL He Co) (hG : f_LG cO es n ed cA GG) (kK : f_KK p l e s m args below meth c9 dC dI A Q ha ad cI cJ cZ cO o es b i k cells slots) {h5 c : Nat} {a3 a4 : Int} (h1 : (xs (i + 1)).toInt = (h5 : Int)) (h2 : (xs (i + 2)).toInt = (c : Int)) (h3 : (xs (i + 3)).toInt = a3) (h4 : (xs (i + 4)).toInt = a4) (hcn : c < n) (hov0 : Ov c = 0) (hk : h5 ≤ 5) (hx : -100 ≤ a3 ∧ a3 ≤ 100 ∧ a3 ≠ 0) (hy : 0 ≤ a4 ∧ a4 ≤ 20000) : jj_W p l e room_1 s m args below meth c9 (dC, dI) vwCl A 8 cells slots Q 584 [(4, .int (iI (i : Int))), (3, .ref o), (2, .ref (ad 0)), (1, .ref (ha 0)), (0, .ref b)] [] (wH ha cA hA nA ed cI cJ cZ td pr up dn dv rw sd mc n mo sh co Ca Cz K St Ex Am Bi As BL AL He Co ++ ((o, .inl (cJ, 1, .inr (.inl (lA F)))) :: (GG ++ wM ad cI cJ cZ th td pr up dn dv n K St Ex Am Ov Bj Aj BL AL He Co Ca mo sh co sd Cz Ab be))) := by
  obtain ⟨C0, hl, hX, hbl, hbA, hL⟩ := hC9
  have hw := C0.2.2.2.2.1
  have hEV := hEVW es mi sa
  have hV := hI
  obtain ⟨⟨htd, hn, hpr, hup, hdn, hdv, hsd, hmo, hsh⟩, ⟨hK, hSt, hEx, hAm, hOv, hovs, hexs, hovn⟩, hQ9, ⟨hHe, hsums, hHz⟩, ⟨hCo, hCz⟩, hCa⟩ := hI
  have hQ := hQ9
  obtain ⟨hBi, hAs, hBj, hAj, hBL, hAL, hQt, hQ0, hQn, hQo⟩ := hQ9
  have hED0 : 0 < n → f_ED cA n ed cO (GG ++ wM ad cI cJ cZ th td pr up dn dv n K St Ex Am Ov Bj Aj BL AL He Co Ca mo sh co sd Cz Ab be) := f_LG_ED hG
  have hexs1 : ∀ c, c < n → Ex c ≤ (td : Int) + 10 := fun c hc => (hexs c hc).1
  have hk5 : k ≤ 511 := by omega
  have hHe9 : ∀ j, -999000 ≤ He j ∧ He j ≤ 999000 := fun j => by have := hHe j; omega
  have hHe6 : ∀ j, -1000000 ≤ He j ∧ He j ≤ 1000000 := fun j => by have := hHe j; omega
  have hCa9 : ∀ j, -100000000000000000 ≤ Ca j ∧ Ca j ≤ 100000000000000000 := fun j => by have := hCa j; omega
  have hov1 : (td : Int) ≤ Ex c := by have := hovs c hcn; omega
  have hb9 := f_oq_bd (x := a3) (y := a4) (bi := Bi c) (ak := As c) (bl := BL c) (al := AL c) (he := He (7 * c + 6)) (mo := mo) ⟨hx.1, hx.2.1⟩ (hBL c).1 (hAL c).1
  refine jj_aload_n C0 3 rfl dL_law_584 ?_
  refine jj_aload_n C0 4 rfl dL_law_585 ?_
  refine jj_iload C0 0 rfl dL_law_586 ?_
  refine jj_iconst C0 dL_law_588 ?_
  refine jj_iadd C0 dL_law_589 ?_
  refine jj_sald C0 hX hbl hbA hL (k := (i + 1)) (by omega) (by omega) dL_law_590 ?_
  refine jj_topi (b := (h5 : Int)) h1 ?_
  refine jj_aload_n C0 4 rfl dL_law_591 ?_
  refine jj_iload C0 0 rfl dL_law_592 ?_
  refine jj_iconst C0 dL_law_594 ?_
  refine jj_iadd C0 dL_law_595 ?_
  refine jj_sald C0 hX hbl hbA hL (k := (i + 2)) (by omega) (by omega) dL_law_596 ?_
  refine jj_topi (b := (c : Int)) h2 ?_
  refine jj_aload_n C0 4 rfl dL_law_597 ?_
  refine jj_iload C0 0 rfl dL_law_598 ?_
  refine jj_iconst C0 dL_law_600 ?_
  refine jj_iadd C0 dL_law_601 ?_
  refine jj_sald C0 hX hbl hbA hL (k := (i + 3)) (by omega) (by omega) dL_law_602 ?_
  refine jj_topi (b := a3) h3 ?_
  refine jj_aload_n C0 4 rfl dL_law_603 ?_
  refine jj_iload C0 0 rfl dL_law_604 ?_
  refine jj_iconst C0 dL_law_606 ?_
  refine jj_iadd C0 dL_law_607 ?_
  refine jj_sald C0 hX hbl hbA hL (k := (i + 4)) (by omega) (by omega) dL_law_608 ?_
  refine jj_topi (b := a4) h4 ?_
  refine jj_aload_n C0 1 rfl dL_law_609 ?_
  refine jj_callSWi C0 (cells' := cells) (slots' := slots) (jj_weaki (fun A U H h => h.1) (cw_L_order hl (k := h5) (c := c) (x := a3) (y := a4) hk hx hy hov1 (hQ0 c) hcn hHe9 hBi hAs hBL hAL hmo hpr hexs1 hn htd hup hdn hdv hK hSt hEx hAm hsh hED0 (by split <;> omega))) (vx_cwSW 6 hw (lw_gW hU_587 hU_588 hU_59 hU_589) rfl rfl rfl (by decide +kernel) ⟨Nat.le_of_ble_eq_true rfl, Nat.le_of_ble_eq_true rfl⟩) rfl rfl (Nat.le_of_ble_eq_true rfl) ⟨by show cells + 0 ≤ 601024; omega, by show slots + 0 ≤ 7293034; omega⟩ rfl rfl dL_law_610 ?_
  intro r8_1 hu
  show jj_W _ _ _ _ _ _ _ _ _ _ _ _ _ _ _ _ _ 613 _ [.int (iI 0)] (wH ha cA hA nA ed cI cJ cZ td pr up dn dv r8_1 sd mc n mo sh co (f_dCa Ca h5 (if 0 < a3 then As c else Bi c) (f_oq a3 a4 (Bi c) (As c) (BL c) (AL c) (He (7 * c + 6)) mo)) (va_up Cz 0 ((Cz 0) + ((f_W up dn dv td n K St Ex Am (f_dHe He c h5 (f_oq a3 a4 (Bi c) (As c) (BL c) (AL c) (He (7 * c + 6)) mo)) (f_dCa Ca h5 (if 0 < a3 then As c else Bi c) (f_oq a3 a4 (Bi c) (As c) (BL c) (AL c) (He (7 * c + 6)) mo)) sh pr) - (f_W up dn dv td n K St Ex Am He Ca sh pr)))) K St Ex Am (va_up Bi c (if 0 < (va_up BL c (BL c - (if 0 < a3 then 0 else -(f_oq a3 a4 (Bi c) (As c) (BL c) (AL c) (He (7 * c + 6)) mo)))) c ∨ 0 < (va_up AL c (AL c - (if 0 < a3 then (f_oq a3 a4 (Bi c) (As c) (BL c) (AL c) (He (7 * c + 6)) mo) else 0))) c then Bi c else 0)) (va_up As c (if 0 < (va_up BL c (BL c - (if 0 < a3 then 0 else -(f_oq a3 a4 (Bi c) (As c) (BL c) (AL c) (He (7 * c + 6)) mo)))) c ∨ 0 < (va_up AL c (AL c - (if 0 < a3 then (f_oq a3 a4 (Bi c) (As c) (BL c) (AL c) (He (7 * c + 6)) mo) else 0))) c then As c else 0)) (va_up BL c (BL c - (if 0 < a3 then 0 else -(f_oq a3 a4 (Bi c) (As c) (BL c) (AL c) (He (7 * c + 6)) mo)))) (va_up AL c (AL c - (if 0 < a3 then (f_oq a3 a4 (Bi c) (As c) (BL c) (AL c) (He (7 * c + 6)) mo) else 0))) (f_dHe He c h5 (f_oq a3 a4 (Bi c) (As c) (BL c) (AL c) (He (7 * c + 6)) mo)) Co ++ ((o, .inl (cJ, 1, .inr (.inl (lA (va_up F 0 (if 0 < a3 then (f_oq a3 a4 (Bi c) (As c) (BL c) (AL c) (He (7 * c + 6)) mo) else -(f_oq a3 a4 (Bi c) (As c) (BL c) (AL c) (He (7 * c + 6)) mo))))))) :: (GG ++ wM ad cI cJ cZ th td pr up dn dv n K St Ex Am Ov Bj Aj BL AL He Co Ca mo sh co sd Cz Ab be)))
  refine jj_istore C0 (lv' := [(5, .int (iI 0)), (4, .int (iI (i : Int))), (3, .ref o), (2, .ref (ad 0)), (1, .ref (ha 0)), (0, .ref b)]) (by decide) rfl dL_law_613 ?_
  refine jj_toM ?_
  refine jj_aload_n C0 3 rfl dL_law_615 ?_
  refine jj_aload_n C0 5 rfl dL_law_616 ?_
  refine jj_iload C0 1 rfl dL_law_617 ?_
  refine jj_iconst C0 dL_law_619 ?_
  refine jj_iadd C0 dL_law_620 ?_
  refine jj_sald C0 hX hbl hbA hL (k := (i + 1)) (by omega) (by omega) dL_law_621 ?_
  refine jj_topi (b := (h5 : Int)) h1 ?_
  refine jj_aload_n C0 5 rfl dL_law_622 ?_
  refine jj_iload C0 1 rfl dL_law_623 ?_
  refine jj_iconst C0 dL_law_625 ?_
  refine jj_iadd C0 dL_law_626 ?_
  refine jj_sald C0 hX hbl hbA hL (k := (i + 2)) (by omega) (by omega) dL_law_627 ?_
  refine jj_topi (b := (c : Int)) h2 ?_
  refine jj_aload_n C0 5 rfl dL_law_628 ?_
  refine jj_iload C0 1 rfl dL_law_629 ?_
  refine jj_iconst C0 dL_law_631 ?_
  refine jj_iadd C0 dL_law_632 ?_
  refine jj_sald C0 hX hbl hbA hL (k := (i + 3)) (by omega) (by omega) dL_law_633 ?_
  refine jj_topi (b := a3) h3 ?_
  refine jj_aload_n C0 5 rfl dL_law_634 ?_
  refine jj_iload C0 1 rfl dL_law_635 ?_
  refine jj_iconst C0 dL_law_637 ?_
  refine jj_iadd C0 dL_law_638 ?_
  refine jj_sald C0 hX hbl hbA hL (k := (i + 4)) (by omega) (by omega) dL_law_639 ?_
  refine jj_topi (b := a4) h4 ?_
  refine jj_callVi C0 (cells' := cells) (slots' := slots) (cc_X4_order hEV (k := h5) (c := c) (x := a3) (y := a4) hk hx hy hov0 hcn hHe9 hBj hAj hBL hAL hmo hovs hexs hn htd hpr hup hdn hdv hK hSt hEx hAm hOv hsh) (cwV 4 hw (lw_gV hU_956 hU_957 hU_958 hU_66 hU_959) rfl rfl rfl (by decide +kernel) ⟨Nat.le_of_ble_eq_true rfl, Nat.le_of_ble_eq_true rfl⟩) (ci := 5) (q0 := 0) rfl (rfl) rfl rfl (Nat.le_of_ble_eq_true rfl) ⟨by show cells + 0 ≤ 601024; omega, by show slots + 0 ≤ 7293034; omega⟩ rfl rfl dL_law_640 ?_
  intro u hu
  obtain ⟨ab_2, b_2⟩ := u
  show jj_W _ _ _ _ _ _ _ _ _ _ _ _ _ _ _ _ _ 643 _ [.int (iI (if 0 < a3 then (f_oq a3 a4 (Bj c) (Aj c) (BL c) (AL c) (He (7 * c + 6)) mo) else -(f_oq a3 a4 (Bj c) (Aj c) (BL c) (AL c) (He (7 * c + 6)) mo)))] (wM ad cI cJ cZ 0 td pr up dn dv n K St Ex Am Ov Bj Aj (va_up BL c (BL c - (if 0 < a3 then 0 else -(f_oq a3 a4 (Bj c) (Aj c) (BL c) (AL c) (He (7 * c + 6)) mo)))) (va_up AL c (AL c - (if 0 < a3 then (f_oq a3 a4 (Bj c) (Aj c) (BL c) (AL c) (He (7 * c + 6)) mo) else 0))) (f_dHe He c h5 (f_oq a3 a4 (Bj c) (Aj c) (BL c) (AL c) (He (7 * c + 6)) mo)) Co (f_dCa Ca h5 (if 0 < a3 then Aj c else Bj c) (f_oq a3 a4 (Bj c) (Aj c) (BL c) (AL c) (He (7 * c + 6)) mo)) mo sh co sd (va_up Cz 0 ((Cz 0) + ((f_W up dn dv td n K St Ex Am (f_dHe He c h5 (f_oq a3 a4 (Bj c) (Aj c) (BL c) (AL c) (He (7 * c + 6)) mo)) (f_dCa Ca h5 (if 0 < a3 then Aj c else Bj c) (f_oq a3 a4 (Bj c) (Aj c) (BL c) (AL c) (He (7 * c + 6)) mo)) sh pr) - (f_W up dn dv td n K St Ex Am He Ca sh pr)))) ab_2 b_2 ++ (wH ha cA hA nA ed cI cJ cZ td pr up dn dv r8_1 sd mc n mo sh co (f_dCa Ca h5 (if 0 < a3 then As c else Bi c) (f_oq a3 a4 (Bi c) (As c) (BL c) (AL c) (He (7 * c + 6)) mo)) (va_up Cz 0 ((Cz 0) + ((f_W up dn dv td n K St Ex Am (f_dHe He c h5 (f_oq a3 a4 (Bi c) (As c) (BL c) (AL c) (He (7 * c + 6)) mo)) (f_dCa Ca h5 (if 0 < a3 then As c else Bi c) (f_oq a3 a4 (Bi c) (As c) (BL c) (AL c) (He (7 * c + 6)) mo)) sh pr) - (f_W up dn dv td n K St Ex Am He Ca sh pr)))) K St Ex Am (va_up Bi c (if 0 < (va_up BL c (BL c - (if 0 < a3 then 0 else -(f_oq a3 a4 (Bi c) (As c) (BL c) (AL c) (He (7 * c + 6)) mo)))) c ∨ 0 < (va_up AL c (AL c - (if 0 < a3 then (f_oq a3 a4 (Bi c) (As c) (BL c) (AL c) (He (7 * c + 6)) mo) else 0))) c then Bi c else 0)) (va_up As c (if 0 < (va_up BL c (BL c - (if 0 < a3 then 0 else -(f_oq a3 a4 (Bi c) (As c) (BL c) (AL c) (He (7 * c + 6)) mo)))) c ∨ 0 < (va_up AL c (AL c - (if 0 < a3 then (f_oq a3 a4 (Bi c) (As c) (BL c) (AL c) (He (7 * c + 6)) mo) else 0))) c then As c else 0)) (va_up BL c (BL c - (if 0 < a3 then 0 else -(f_oq a3 a4 (Bi c) (As c) (BL c) (AL c) (He (7 * c + 6)) mo)))) (va_up AL c (AL c - (if 0 < a3 then (f_oq a3 a4 (Bi c) (As c) (BL c) (AL c) (He (7 * c + 6)) mo) else 0))) (f_dHe He c h5 (f_oq a3 a4 (Bi c) (As c) (BL c) (AL c) (He (7 * c + 6)) mo)) Co ++ ((o, .inl (cJ, 1, .inr (.inl (lA (va_up F 0 (if 0 < a3 then (f_oq a3 a4 (Bi c) (As c) (BL c) (AL c) (He (7 * c + 6)) mo) else -(f_oq a3 a4 (Bi c) (As c) (BL c) (AL c) (He (7 * c + 6)) mo))))))) :: GG)))
  rw [f_tie_oq hQ, f_tie_dCa ⟨hx.1, hx.2.1⟩ hQ]
  show jj_W _ _ _ _ _ _ _ _ _ _ _ _ _ _ _ _ _ 643 _ [.int (iI (if 0 < a3 then (f_oq a3 a4 (Bi c) (As c) (BL c) (AL c) (He (7 * c + 6)) mo) else -(f_oq a3 a4 (Bi c) (As c) (BL c) (AL c) (He (7 * c + 6)) mo)))] (wM ad cI cJ cZ 0 td pr up dn dv n K St Ex Am Ov Bj Aj (va_up BL c (BL c - (if 0 < a3 then 0 else -(f_oq a3 a4 (Bi c) (As c) (BL c) (AL c) (He (7 * c + 6)) mo)))) (va_up AL c (AL c - (if 0 < a3 then (f_oq a3 a4 (Bi c) (As c) (BL c) (AL c) (He (7 * c + 6)) mo) else 0))) (f_dHe He c h5 (f_oq a3 a4 (Bi c) (As c) (BL c) (AL c) (He (7 * c + 6)) mo)) Co (f_dCa Ca h5 (if 0 < a3 then As c else Bi c) (f_oq a3 a4 (Bi c) (As c) (BL c) (AL c) (He (7 * c + 6)) mo)) mo sh co sd (va_up Cz 0 ((Cz 0) + ((f_W up dn dv td n K St Ex Am (f_dHe He c h5 (f_oq a3 a4 (Bi c) (As c) (BL c) (AL c) (He (7 * c + 6)) mo)) (f_dCa Ca h5 (if 0 < a3 then As c else Bi c) (f_oq a3 a4 (Bi c) (As c) (BL c) (AL c) (He (7 * c + 6)) mo)) sh pr) - (f_W up dn dv td n K St Ex Am He Ca sh pr)))) ab_2 b_2 ++ (wH ha cA hA nA ed cI cJ cZ td pr up dn dv r8_1 sd mc n mo sh co (f_dCa Ca h5 (if 0 < a3 then As c else Bi c) (f_oq a3 a4 (Bi c) (As c) (BL c) (AL c) (He (7 * c + 6)) mo)) (va_up Cz 0 ((Cz 0) + ((f_W up dn dv td n K St Ex Am (f_dHe He c h5 (f_oq a3 a4 (Bi c) (As c) (BL c) (AL c) (He (7 * c + 6)) mo)) (f_dCa Ca h5 (if 0 < a3 then As c else Bi c) (f_oq a3 a4 (Bi c) (As c) (BL c) (AL c) (He (7 * c + 6)) mo)) sh pr) - (f_W up dn dv td n K St Ex Am He Ca sh pr)))) K St Ex Am (va_up Bi c (if 0 < (va_up BL c (BL c - (if 0 < a3 then 0 else -(f_oq a3 a4 (Bi c) (As c) (BL c) (AL c) (He (7 * c + 6)) mo)))) c ∨ 0 < (va_up AL c (AL c - (if 0 < a3 then (f_oq a3 a4 (Bi c) (As c) (BL c) (AL c) (He (7 * c + 6)) mo) else 0))) c then Bi c else 0)) (va_up As c (if 0 < (va_up BL c (BL c - (if 0 < a3 then 0 else -(f_oq a3 a4 (Bi c) (As c) (BL c) (AL c) (He (7 * c + 6)) mo)))) c ∨ 0 < (va_up AL c (AL c - (if 0 < a3 then (f_oq a3 a4 (Bi c) (As c) (BL c) (AL c) (He (7 * c + 6)) mo) else 0))) c then As c else 0)) (va_up BL c (BL c - (if 0 < a3 then 0 else -(f_oq a3 a4 (Bi c) (As c) (BL c) (AL c) (He (7 * c + 6)) mo)))) (va_up AL c (AL c - (if 0 < a3 then (f_oq a3 a4 (Bi c) (As c) (BL c) (AL c) (He (7 * c + 6)) mo) else 0))) (f_dHe He c h5 (f_oq a3 a4 (Bi c) (As c) (BL c) (AL c) (He (7 * c + 6)) mo)) Co ++ ((o, .inl (cJ, 1, .inr (.inl (lA (va_up F 0 (if 0 < a3 then (f_oq a3 a4 (Bi c) (As c) (BL c) (AL c) (He (7 * c + 6)) mo) else -(f_oq a3 a4 (Bi c) (As c) (BL c) (AL c) (He (7 * c + 6)) mo))))))) :: GG)))
  refine jj_istore C0 (lv' := [(6, .int (iI (if 0 < a3 then (f_oq a3 a4 (Bi c) (As c) (BL c) (AL c) (He (7 * c + 6)) mo) else -(f_oq a3 a4 (Bi c) (As c) (BL c) (AL c) (He (7 * c + 6)) mo)))), (5, .int (iI 0)), (4, .int (iI (i : Int))), (3, .ref o), (2, .ref (ad 0)), (1, .ref (ha 0)), (0, .ref b)]) (by decide) rfl dL_law_643 ?_
  refine jj_aload_n C0 4 rfl dL_law_645 ?_
  refine jj_callVi C0 (cells' := cells) (slots' := slots) (cc_X4_thrown hEV  ) (cwV 0 hw (lw_gV hU_865 hU_866 hU_867 hU_66 hU_868) rfl rfl rfl (by decide +kernel) ⟨Nat.le_of_ble_eq_true rfl, Nat.le_of_ble_eq_true rfl⟩) (ci := 5) (q0 := 0) rfl (rfl) rfl rfl (Nat.le_of_ble_eq_true rfl) ⟨by show cells + 0 ≤ 601024; omega, by show slots + 0 ≤ 7293034; omega⟩ rfl rfl dL_law_646 ?_
  intro _ hu
  show jj_W _ _ _ _ _ _ _ _ _ _ _ _ _ _ _ _ _ 649 _ [.int (iI 0)] (wM ad cI cJ cZ 0 td pr up dn dv n K St Ex Am Ov Bj Aj (va_up BL c (BL c - (if 0 < a3 then 0 else -(f_oq a3 a4 (Bi c) (As c) (BL c) (AL c) (He (7 * c + 6)) mo)))) (va_up AL c (AL c - (if 0 < a3 then (f_oq a3 a4 (Bi c) (As c) (BL c) (AL c) (He (7 * c + 6)) mo) else 0))) (f_dHe He c h5 (f_oq a3 a4 (Bi c) (As c) (BL c) (AL c) (He (7 * c + 6)) mo)) Co (f_dCa Ca h5 (if 0 < a3 then As c else Bi c) (f_oq a3 a4 (Bi c) (As c) (BL c) (AL c) (He (7 * c + 6)) mo)) mo sh co sd (va_up Cz 0 ((Cz 0) + ((f_W up dn dv td n K St Ex Am (f_dHe He c h5 (f_oq a3 a4 (Bi c) (As c) (BL c) (AL c) (He (7 * c + 6)) mo)) (f_dCa Ca h5 (if 0 < a3 then As c else Bi c) (f_oq a3 a4 (Bi c) (As c) (BL c) (AL c) (He (7 * c + 6)) mo)) sh pr) - (f_W up dn dv td n K St Ex Am He Ca sh pr)))) ab_2 b_2 ++ (wH ha cA hA nA ed cI cJ cZ td pr up dn dv r8_1 sd mc n mo sh co (f_dCa Ca h5 (if 0 < a3 then As c else Bi c) (f_oq a3 a4 (Bi c) (As c) (BL c) (AL c) (He (7 * c + 6)) mo)) (va_up Cz 0 ((Cz 0) + ((f_W up dn dv td n K St Ex Am (f_dHe He c h5 (f_oq a3 a4 (Bi c) (As c) (BL c) (AL c) (He (7 * c + 6)) mo)) (f_dCa Ca h5 (if 0 < a3 then As c else Bi c) (f_oq a3 a4 (Bi c) (As c) (BL c) (AL c) (He (7 * c + 6)) mo)) sh pr) - (f_W up dn dv td n K St Ex Am He Ca sh pr)))) K St Ex Am (va_up Bi c (if 0 < (va_up BL c (BL c - (if 0 < a3 then 0 else -(f_oq a3 a4 (Bi c) (As c) (BL c) (AL c) (He (7 * c + 6)) mo)))) c ∨ 0 < (va_up AL c (AL c - (if 0 < a3 then (f_oq a3 a4 (Bi c) (As c) (BL c) (AL c) (He (7 * c + 6)) mo) else 0))) c then Bi c else 0)) (va_up As c (if 0 < (va_up BL c (BL c - (if 0 < a3 then 0 else -(f_oq a3 a4 (Bi c) (As c) (BL c) (AL c) (He (7 * c + 6)) mo)))) c ∨ 0 < (va_up AL c (AL c - (if 0 < a3 then (f_oq a3 a4 (Bi c) (As c) (BL c) (AL c) (He (7 * c + 6)) mo) else 0))) c then As c else 0)) (va_up BL c (BL c - (if 0 < a3 then 0 else -(f_oq a3 a4 (Bi c) (As c) (BL c) (AL c) (He (7 * c + 6)) mo)))) (va_up AL c (AL c - (if 0 < a3 then (f_oq a3 a4 (Bi c) (As c) (BL c) (AL c) (He (7 * c + 6)) mo) else 0))) (f_dHe He c h5 (f_oq a3 a4 (Bi c) (As c) (BL c) (AL c) (He (7 * c + 6)) mo)) Co ++ ((o, .inl (cJ, 1, .inr (.inl (lA (va_up F 0 (if 0 < a3 then (f_oq a3 a4 (Bi c) (As c) (BL c) (AL c) (He (7 * c + 6)) mo) else -(f_oq a3 a4 (Bi c) (As c) (BL c) (AL c) (He (7 * c + 6)) mo))))))) :: GG)))
  refine jj_iload C0 1 rfl dL_law_649 ?_
  refine jj_icmp_eq C0 (by omega) (by omega) dL_law_651 (tgt := 656) (by decide) (fun c_3 => ?_) (fun c_3 => absurd c_3 (by omega))
  refine jj_iload C0 1 rfl dL_law_656 ?_
  refine jj_if_ne C0 (by omega) dL_law_658 (tgt := 673) (by decide) (fun c_4 => absurd c_4 (by omega)) (fun c_4 => ?_)
  refine jj_toH ?_
  refine jj_aload_n C0 3 rfl dL_law_661 ?_
  refine jj_iconst C0 dL_law_662 ?_
  refine jj_lald C0 (q0 := (8 + (3 * n + 0))) (t0 := 1) (f := (va_up F 0 (if 0 < a3 then (f_oq a3 a4 (Bi c) (As c) (BL c) (AL c) (He (7 * c + 6)) mo) else -(f_oq a3 a4 (Bi c) (As c) (BL c) (AL c) (He (7 * c + 6)) mo)))) ((wH_ee (n := n) rfl)) rfl (k := 0) (by omega) (by omega) (by decide) dL_law_663 ?_
  refine jj_topl (b := (if 0 < a3 then (f_oq a3 a4 (Bi c) (As c) (BL c) (AL c) (He (7 * c + 6)) mo) else -(f_oq a3 a4 (Bi c) (As c) (BL c) (AL c) (He (7 * c + 6)) mo))) (va_up_self _ _ _) ?_
  refine jj_iload C0 0 rfl dL_law_664 ?_
  refine jj_i2l C0 (by split <;> omega) dL_law_666 ?_
  refine jj_lcmpS C0 dL_law_667 dL_law_668 (tgt := 673) (by decide) ?_
  refine jj_goto C0 (tgt := 1530) dL_law_673 (by decide) ?_
  refine jj_lv [2, 3, 4, 5, 6] rfl ?_
  exact kK cA hA nA ed r8_1 (va_up F 0 (if 0 < a3 then (f_oq a3 a4 (Bi c) (As c) (BL c) (AL c) (He (7 * c + 6)) mo) else -(f_oq a3 a4 (Bi c) (As c) (BL c) (AL c) (He (7 * c + 6)) mo))) mc GG 0 b_2 ab_2 td pr up dn dv sd n mo sh co (f_dCa Ca h5 (if 0 < a3 then As c else Bi c) (f_oq a3 a4 (Bi c) (As c) (BL c) (AL c) (He (7 * c + 6)) mo)) (va_up Cz 0 ((Cz 0) + ((f_W up dn dv td n K St Ex Am (f_dHe He c h5 (f_oq a3 a4 (Bi c) (As c) (BL c) (AL c) (He (7 * c + 6)) mo)) (f_dCa Ca h5 (if 0 < a3 then As c else Bi c) (f_oq a3 a4 (Bi c) (As c) (BL c) (AL c) (He (7 * c + 6)) mo)) sh pr) - (f_W up dn dv td n K St Ex Am He Ca sh pr)))) K St Ex Am Ov (va_up Bi c (if 0 < (va_up BL c (BL c - (if 0 < a3 then 0 else -(f_oq a3 a4 (Bi c) (As c) (BL c) (AL c) (He (7 * c + 6)) mo)))) c ∨ 0 < (va_up AL c (AL c - (if 0 < a3 then (f_oq a3 a4 (Bi c) (As c) (BL c) (AL c) (He (7 * c + 6)) mo) else 0))) c then Bi c else 0)) (va_up As c (if 0 < (va_up BL c (BL c - (if 0 < a3 then 0 else -(f_oq a3 a4 (Bi c) (As c) (BL c) (AL c) (He (7 * c + 6)) mo)))) c ∨ 0 < (va_up AL c (AL c - (if 0 < a3 then (f_oq a3 a4 (Bi c) (As c) (BL c) (AL c) (He (7 * c + 6)) mo) else 0))) c then As c else 0)) Bj Aj (va_up BL c (BL c - (if 0 < a3 then 0 else -(f_oq a3 a4 (Bi c) (As c) (BL c) (AL c) (He (7 * c + 6)) mo)))) (va_up AL c (AL c - (if 0 < a3 then (f_oq a3 a4 (Bi c) (As c) (BL c) (AL c) (He (7 * c + 6)) mo) else 0))) (f_dHe He c h5 (f_oq a3 a4 (Bi c) (As c) (BL c) (AL c) (He (7 * c + 6)) mo)) Co _ _ (f_IV_order hV hcn hk hov0 ⟨hb9.1, hb9.2.1⟩ hb9.2.2.1 hb9.2.2.2) (hG) (by omega) (by omega)
set_option maxHeartbeats 4000000 in
set_option maxRecDepth 100000 in
theorem ll_order_I (hC9 : f_CC p l s m args meth c9 dC dI A cI cJ cZ cO es mi sa b L xs) (hi : i + 5 ≤ L) (hik : i = 5 * k) (hcs : cells + 8 ≤ 601024 ∧ slots + 80 ≤ 7293034) (hI : f_IV k td n pr up dn dv sd mo sh Ca K St Ex Am Ov Bi As Bj Aj BL AL He Co) (hG : f_LG cO es n ed cA GG) (kK : f_KK p l e s m args below meth c9 dC dI A Q ha ad cI cJ cZ cO o es b i k cells slots) {a1 a2 a3 a4 : Int} (h1 : (xs (i + 1)).toInt = a1) (h2 : (xs (i + 2)).toInt = a2) (h3 : (xs (i + 3)).toInt = a3) (h4 : (xs (i + 4)).toInt = a4) (hr1 : iR a1) (hr2 : iR a2) (hr3 : iR a3) (hr4 : iR a4) (hb : ¬ (0 ≤ a1 ∧ a1 ≤ 5 ∧ 0 ≤ a2 ∧ a2 < (n : Int))) : jj_W p l e room_1 s m args below meth c9 (dC, dI) vwCl A 8 cells slots Q 584 [(4, .int (iI (i : Int))), (3, .ref o), (2, .ref (ad 0)), (1, .ref (ha 0)), (0, .ref b)] [] (wH ha cA hA nA ed cI cJ cZ td pr up dn dv rw sd mc n mo sh co Ca Cz K St Ex Am Bi As BL AL He Co ++ ((o, .inl (cJ, 1, .inr (.inl (lA F)))) :: (GG ++ wM ad cI cJ cZ th td pr up dn dv n K St Ex Am Ov Bj Aj BL AL He Co Ca mo sh co sd Cz Ab be))) := by
  obtain ⟨C0, hl, hX, hbl, hbA, hL⟩ := hC9
  have hw := C0.2.2.2.2.1
  have hEV := hEVW es mi sa
  have hV := hI
  obtain ⟨⟨htd, hn, hpr, hup, hdn, hdv, hsd, hmo, hsh⟩, ⟨hK, hSt, hEx, hAm, hOv, hovs, hexs, hovn⟩, hQ9, ⟨hHe, hsums, hHz⟩, ⟨hCo, hCz⟩, hCa⟩ := hI
  have hQ := hQ9
  obtain ⟨hBi, hAs, hBj, hAj, hBL, hAL, hQt, hQ0, hQn, hQo⟩ := hQ9
  have hED0 : 0 < n → f_ED cA n ed cO (GG ++ wM ad cI cJ cZ th td pr up dn dv n K St Ex Am Ov Bj Aj BL AL He Co Ca mo sh co sd Cz Ab be) := f_LG_ED hG
  have hexs1 : ∀ c, c < n → Ex c ≤ (td : Int) + 10 := fun c hc => (hexs c hc).1
  have hk5 : k ≤ 511 := by omega
  have hHe9 : ∀ j, -999000 ≤ He j ∧ He j ≤ 999000 := fun j => by have := hHe j; omega
  have hHe6 : ∀ j, -1000000 ≤ He j ∧ He j ≤ 1000000 := fun j => by have := hHe j; omega
  have hCa9 : ∀ j, -100000000000000000 ≤ Ca j ∧ Ca j ≤ 100000000000000000 := fun j => by have := hCa j; omega
  refine jj_aload_n C0 3 rfl dL_law_584 ?_
  refine jj_aload_n C0 4 rfl dL_law_585 ?_
  refine jj_iload C0 0 rfl dL_law_586 ?_
  refine jj_iconst C0 dL_law_588 ?_
  refine jj_iadd C0 dL_law_589 ?_
  refine jj_sald C0 hX hbl hbA hL (k := (i + 1)) (by omega) (by omega) dL_law_590 ?_
  refine jj_topi (b := a1) h1 ?_
  refine jj_aload_n C0 4 rfl dL_law_591 ?_
  refine jj_iload C0 0 rfl dL_law_592 ?_
  refine jj_iconst C0 dL_law_594 ?_
  refine jj_iadd C0 dL_law_595 ?_
  refine jj_sald C0 hX hbl hbA hL (k := (i + 2)) (by omega) (by omega) dL_law_596 ?_
  refine jj_topi (b := a2) h2 ?_
  refine jj_aload_n C0 4 rfl dL_law_597 ?_
  refine jj_iload C0 0 rfl dL_law_598 ?_
  refine jj_iconst C0 dL_law_600 ?_
  refine jj_iadd C0 dL_law_601 ?_
  refine jj_sald C0 hX hbl hbA hL (k := (i + 3)) (by omega) (by omega) dL_law_602 ?_
  refine jj_topi (b := a3) h3 ?_
  refine jj_aload_n C0 4 rfl dL_law_603 ?_
  refine jj_iload C0 0 rfl dL_law_604 ?_
  refine jj_iconst C0 dL_law_606 ?_
  refine jj_iadd C0 dL_law_607 ?_
  refine jj_sald C0 hX hbl hbA hL (k := (i + 4)) (by omega) (by omega) dL_law_608 ?_
  refine jj_topi (b := a4) h4 ?_
  refine jj_aload_n C0 1 rfl dL_law_609 ?_
  refine jj_callSWi C0 (cells' := cells + 1) (slots' := slots + 6) (jj_weaki (fun A U H h => h.1) (cr_L_order hl (w := a1) (z := a2) (x := a3) (y := a4) hb hr1 hr2 hn hED0)) (vx_cwSW 6 hw (lw_gW hU_587 hU_588 hU_59 hU_589) rfl rfl rfl (by decide +kernel) ⟨Nat.le_of_ble_eq_true rfl, Nat.le_of_ble_eq_true rfl⟩) rfl rfl (Nat.le_of_ble_eq_true rfl) ⟨by show cells + 1 ≤ 601024; omega, by show slots + 6 ≤ 7293034; omega⟩ rfl rfl dL_law_610 ?_
  intro _ hu
  show jj_W _ _ _ _ _ _ _ _ _ _ _ _ _ _ _ _ _ 613 _ [.int (iI 1)] (wH ha cA hA nA ed cI cJ cZ td pr up dn dv rw sd mc n mo sh co Ca Cz K St Ex Am Bi As BL AL He Co ++ ((o, .inl (cJ, 1, .inr (.inl (lA F)))) :: (GG ++ wM ad cI cJ cZ th td pr up dn dv n K St Ex Am Ov Bj Aj BL AL He Co Ca mo sh co sd Cz Ab be)))
  refine jj_istore C0 (lv' := [(5, .int (iI 1)), (4, .int (iI (i : Int))), (3, .ref o), (2, .ref (ad 0)), (1, .ref (ha 0)), (0, .ref b)]) (by decide) rfl dL_law_613 ?_
  refine jj_toM ?_
  refine jj_aload_n C0 3 rfl dL_law_615 ?_
  refine jj_aload_n C0 5 rfl dL_law_616 ?_
  refine jj_iload C0 1 rfl dL_law_617 ?_
  refine jj_iconst C0 dL_law_619 ?_
  refine jj_iadd C0 dL_law_620 ?_
  refine jj_sald C0 hX hbl hbA hL (k := (i + 1)) (by omega) (by omega) dL_law_621 ?_
  refine jj_topi (b := a1) h1 ?_
  refine jj_aload_n C0 5 rfl dL_law_622 ?_
  refine jj_iload C0 1 rfl dL_law_623 ?_
  refine jj_iconst C0 dL_law_625 ?_
  refine jj_iadd C0 dL_law_626 ?_
  refine jj_sald C0 hX hbl hbA hL (k := (i + 2)) (by omega) (by omega) dL_law_627 ?_
  refine jj_topi (b := a2) h2 ?_
  refine jj_aload_n C0 5 rfl dL_law_628 ?_
  refine jj_iload C0 1 rfl dL_law_629 ?_
  refine jj_iconst C0 dL_law_631 ?_
  refine jj_iadd C0 dL_law_632 ?_
  refine jj_sald C0 hX hbl hbA hL (k := (i + 3)) (by omega) (by omega) dL_law_633 ?_
  refine jj_topi (b := a3) h3 ?_
  refine jj_aload_n C0 5 rfl dL_law_634 ?_
  refine jj_iload C0 1 rfl dL_law_635 ?_
  refine jj_iconst C0 dL_law_637 ?_
  refine jj_iadd C0 dL_law_638 ?_
  refine jj_sald C0 hX hbl hbA hL (k := (i + 4)) (by omega) (by omega) dL_law_639 ?_
  refine jj_topi (b := a4) h4 ?_
  refine jj_callVi C0 (cells' := (cells + 1)) (slots' := (slots + 6)) (cb_X4_order hEV (w := a1) (z := a2) (x := a3) (y := a4) (kk := 1) hr3 hr4 hr2 hr1 hn hOv (Or.inl ⟨hb, rfl⟩)) (cwV 4 hw (lw_gV hU_956 hU_957 hU_958 hU_66 hU_959) rfl rfl rfl (by decide +kernel) ⟨Nat.le_of_ble_eq_true rfl, Nat.le_of_ble_eq_true rfl⟩) (ci := 5) (q0 := 0) rfl (rfl) rfl rfl (Nat.le_of_ble_eq_true rfl) ⟨by show (cells + 1) + 0 ≤ 601024; omega, by show (slots + 6) + 0 ≤ 7293034; omega⟩ rfl rfl dL_law_640 ?_
  intro u_1 hu
  show jj_W _ _ _ _ _ _ _ _ _ _ _ _ _ _ _ _ _ 643 _ [.int (iI u_1)] (wM ad cI cJ cZ 1 td pr up dn dv n K St Ex Am Ov Bj Aj BL AL He Co Ca mo sh co sd Cz Ab be ++ (wH ha cA hA nA ed cI cJ cZ td pr up dn dv rw sd mc n mo sh co Ca Cz K St Ex Am Bi As BL AL He Co ++ ((o, .inl (cJ, 1, .inr (.inl (lA F)))) :: GG)))
  refine jj_istore C0 (lv' := [(6, .int (iI u_1)), (5, .int (iI 1)), (4, .int (iI (i : Int))), (3, .ref o), (2, .ref (ad 0)), (1, .ref (ha 0)), (0, .ref b)]) (by decide) rfl dL_law_643 ?_
  refine jj_aload_n C0 4 rfl dL_law_645 ?_
  refine jj_callVi C0 (cells' := (cells + 1)) (slots' := (slots + 6)) (cc_X4_thrown hEV  ) (cwV 0 hw (lw_gV hU_865 hU_866 hU_867 hU_66 hU_868) rfl rfl rfl (by decide +kernel) ⟨Nat.le_of_ble_eq_true rfl, Nat.le_of_ble_eq_true rfl⟩) (ci := 5) (q0 := 0) rfl (rfl) rfl rfl (Nat.le_of_ble_eq_true rfl) ⟨by show (cells + 1) + 0 ≤ 601024; omega, by show (slots + 6) + 0 ≤ 7293034; omega⟩ rfl rfl dL_law_646 ?_
  intro _ hu
  show jj_W _ _ _ _ _ _ _ _ _ _ _ _ _ _ _ _ _ 649 _ [.int (iI 1)] (wM ad cI cJ cZ 1 td pr up dn dv n K St Ex Am Ov Bj Aj BL AL He Co Ca mo sh co sd Cz Ab be ++ (wH ha cA hA nA ed cI cJ cZ td pr up dn dv rw sd mc n mo sh co Ca Cz K St Ex Am Bi As BL AL He Co ++ ((o, .inl (cJ, 1, .inr (.inl (lA F)))) :: GG)))
  refine jj_iload C0 1 rfl dL_law_649 ?_
  refine jj_icmp_eq C0 (by omega) (by omega) dL_law_651 (tgt := 656) (by decide) (fun c_2 => ?_) (fun c_2 => absurd c_2 (by omega))
  refine jj_iload C0 1 rfl dL_law_656 ?_
  refine jj_if_ne C0 (by omega) dL_law_658 (tgt := 673) (by decide) (fun c_3 => ?_) (fun c_3 => absurd c_3 (by omega))
  refine jj_goto C0 (tgt := 1530) dL_law_673 (by decide) ?_
  refine jj_toH ?_
  refine jj_lv [2, 3, 4, 5, 6] rfl ?_
  exact kK cA hA nA ed rw F mc GG 1 be Ab td pr up dn dv sd n mo sh co Ca Cz K St Ex Am Ov Bi As Bj Aj BL AL He Co _ _ (f_IV_k hV) (hG) (by omega) (by omega)
set_option maxHeartbeats 4000000 in
set_option maxRecDepth 100000 in
theorem ll_order_A (hC9 : f_CC p l s m args meth c9 dC dI A cI cJ cZ cO es mi sa b L xs) (hi : i + 5 ≤ L) (hik : i = 5 * k) (hcs : cells + 8 ≤ 601024 ∧ slots + 80 ≤ 7293034) (hI : f_IV k td n pr up dn dv sd mo sh Ca K St Ex Am Ov Bi As Bj Aj BL AL He Co) (hG : f_LG cO es n ed cA GG) (kK : f_KK p l e s m args below meth c9 dC dI A Q ha ad cI cJ cZ cO o es b i k cells slots) {c : Nat} {a1 a3 a4 : Int} (h1 : (xs (i + 1)).toInt = a1) (h2 : (xs (i + 2)).toInt = (c : Int)) (h3 : (xs (i + 3)).toInt = a3) (h4 : (xs (i + 4)).toInt = a4) (hr3 : iR a3) (hr4 : iR a4) (hw0 : 0 ≤ a1 ∧ a1 ≤ 5) (hcn : c < n) (hb : ¬ (-100 ≤ a3 ∧ a3 ≤ 100 ∧ a3 ≠ 0 ∧ 0 ≤ a4 ∧ a4 ≤ 20000)) : jj_W p l e room_1 s m args below meth c9 (dC, dI) vwCl A 8 cells slots Q 584 [(4, .int (iI (i : Int))), (3, .ref o), (2, .ref (ad 0)), (1, .ref (ha 0)), (0, .ref b)] [] (wH ha cA hA nA ed cI cJ cZ td pr up dn dv rw sd mc n mo sh co Ca Cz K St Ex Am Bi As BL AL He Co ++ ((o, .inl (cJ, 1, .inr (.inl (lA F)))) :: (GG ++ wM ad cI cJ cZ th td pr up dn dv n K St Ex Am Ov Bj Aj BL AL He Co Ca mo sh co sd Cz Ab be))) := by
  obtain ⟨C0, hl, hX, hbl, hbA, hL⟩ := hC9
  have hw := C0.2.2.2.2.1
  have hEV := hEVW es mi sa
  have hV := hI
  obtain ⟨⟨htd, hn, hpr, hup, hdn, hdv, hsd, hmo, hsh⟩, ⟨hK, hSt, hEx, hAm, hOv, hovs, hexs, hovn⟩, hQ9, ⟨hHe, hsums, hHz⟩, ⟨hCo, hCz⟩, hCa⟩ := hI
  have hQ := hQ9
  obtain ⟨hBi, hAs, hBj, hAj, hBL, hAL, hQt, hQ0, hQn, hQo⟩ := hQ9
  have hED0 : 0 < n → f_ED cA n ed cO (GG ++ wM ad cI cJ cZ th td pr up dn dv n K St Ex Am Ov Bj Aj BL AL He Co Ca mo sh co sd Cz Ab be) := f_LG_ED hG
  have hexs1 : ∀ c, c < n → Ex c ≤ (td : Int) + 10 := fun c hc => (hexs c hc).1
  have hk5 : k ≤ 511 := by omega
  have hHe9 : ∀ j, -999000 ≤ He j ∧ He j ≤ 999000 := fun j => by have := hHe j; omega
  have hHe6 : ∀ j, -1000000 ≤ He j ∧ He j ≤ 1000000 := fun j => by have := hHe j; omega
  have hCa9 : ∀ j, -100000000000000000 ≤ Ca j ∧ Ca j ≤ 100000000000000000 := fun j => by have := hCa j; omega
  refine jj_aload_n C0 3 rfl dL_law_584 ?_
  refine jj_aload_n C0 4 rfl dL_law_585 ?_
  refine jj_iload C0 0 rfl dL_law_586 ?_
  refine jj_iconst C0 dL_law_588 ?_
  refine jj_iadd C0 dL_law_589 ?_
  refine jj_sald C0 hX hbl hbA hL (k := (i + 1)) (by omega) (by omega) dL_law_590 ?_
  refine jj_topi (b := a1) h1 ?_
  refine jj_aload_n C0 4 rfl dL_law_591 ?_
  refine jj_iload C0 0 rfl dL_law_592 ?_
  refine jj_iconst C0 dL_law_594 ?_
  refine jj_iadd C0 dL_law_595 ?_
  refine jj_sald C0 hX hbl hbA hL (k := (i + 2)) (by omega) (by omega) dL_law_596 ?_
  refine jj_topi (b := (c : Int)) h2 ?_
  refine jj_aload_n C0 4 rfl dL_law_597 ?_
  refine jj_iload C0 0 rfl dL_law_598 ?_
  refine jj_iconst C0 dL_law_600 ?_
  refine jj_iadd C0 dL_law_601 ?_
  refine jj_sald C0 hX hbl hbA hL (k := (i + 3)) (by omega) (by omega) dL_law_602 ?_
  refine jj_topi (b := a3) h3 ?_
  refine jj_aload_n C0 4 rfl dL_law_603 ?_
  refine jj_iload C0 0 rfl dL_law_604 ?_
  refine jj_iconst C0 dL_law_606 ?_
  refine jj_iadd C0 dL_law_607 ?_
  refine jj_sald C0 hX hbl hbA hL (k := (i + 4)) (by omega) (by omega) dL_law_608 ?_
  refine jj_topi (b := a4) h4 ?_
  refine jj_aload_n C0 1 rfl dL_law_609 ?_
  refine jj_callSWi C0 (cells' := cells + 1) (slots' := slots + 6) (jj_weaki (fun A U H h => h.1) (cr_L_order_A hl (w := a1) (c := c) (x := a3) (y := a4) hb hw0 hr3 hr4 hcn hn hED0)) (vx_cwSW 6 hw (lw_gW hU_587 hU_588 hU_59 hU_589) rfl rfl rfl (by decide +kernel) ⟨Nat.le_of_ble_eq_true rfl, Nat.le_of_ble_eq_true rfl⟩) rfl rfl (Nat.le_of_ble_eq_true rfl) ⟨by show cells + 1 ≤ 601024; omega, by show slots + 6 ≤ 7293034; omega⟩ rfl rfl dL_law_610 ?_
  intro _ hu
  show jj_W _ _ _ _ _ _ _ _ _ _ _ _ _ _ _ _ _ 613 _ [.int (iI 2)] (wH ha cA hA nA ed cI cJ cZ td pr up dn dv rw sd mc n mo sh co Ca Cz K St Ex Am Bi As BL AL He Co ++ ((o, .inl (cJ, 1, .inr (.inl (lA F)))) :: (GG ++ wM ad cI cJ cZ th td pr up dn dv n K St Ex Am Ov Bj Aj BL AL He Co Ca mo sh co sd Cz Ab be)))
  refine jj_istore C0 (lv' := [(5, .int (iI 2)), (4, .int (iI (i : Int))), (3, .ref o), (2, .ref (ad 0)), (1, .ref (ha 0)), (0, .ref b)]) (by decide) rfl dL_law_613 ?_
  refine jj_toM ?_
  refine jj_aload_n C0 3 rfl dL_law_615 ?_
  refine jj_aload_n C0 5 rfl dL_law_616 ?_
  refine jj_iload C0 1 rfl dL_law_617 ?_
  refine jj_iconst C0 dL_law_619 ?_
  refine jj_iadd C0 dL_law_620 ?_
  refine jj_sald C0 hX hbl hbA hL (k := (i + 1)) (by omega) (by omega) dL_law_621 ?_
  refine jj_topi (b := a1) h1 ?_
  refine jj_aload_n C0 5 rfl dL_law_622 ?_
  refine jj_iload C0 1 rfl dL_law_623 ?_
  refine jj_iconst C0 dL_law_625 ?_
  refine jj_iadd C0 dL_law_626 ?_
  refine jj_sald C0 hX hbl hbA hL (k := (i + 2)) (by omega) (by omega) dL_law_627 ?_
  refine jj_topi (b := (c : Int)) h2 ?_
  refine jj_aload_n C0 5 rfl dL_law_628 ?_
  refine jj_iload C0 1 rfl dL_law_629 ?_
  refine jj_iconst C0 dL_law_631 ?_
  refine jj_iadd C0 dL_law_632 ?_
  refine jj_sald C0 hX hbl hbA hL (k := (i + 3)) (by omega) (by omega) dL_law_633 ?_
  refine jj_topi (b := a3) h3 ?_
  refine jj_aload_n C0 5 rfl dL_law_634 ?_
  refine jj_iload C0 1 rfl dL_law_635 ?_
  refine jj_iconst C0 dL_law_637 ?_
  refine jj_iadd C0 dL_law_638 ?_
  refine jj_sald C0 hX hbl hbA hL (k := (i + 4)) (by omega) (by omega) dL_law_639 ?_
  refine jj_topi (b := a4) h4 ?_
  refine jj_callVi C0 (cells' := (cells + 1)) (slots' := (slots + 6)) (cb_X4_order hEV (w := a1) (z := (c : Int)) (x := a3) (y := a4) (kk := 2) hr3 hr4 (by omega) (by omega) hn hOv (Or.inr (Or.inl ⟨by omega, hb, rfl⟩))) (cwV 4 hw (lw_gV hU_956 hU_957 hU_958 hU_66 hU_959) rfl rfl rfl (by decide +kernel) ⟨Nat.le_of_ble_eq_true rfl, Nat.le_of_ble_eq_true rfl⟩) (ci := 5) (q0 := 0) rfl (rfl) rfl rfl (Nat.le_of_ble_eq_true rfl) ⟨by show (cells + 1) + 0 ≤ 601024; omega, by show (slots + 6) + 0 ≤ 7293034; omega⟩ rfl rfl dL_law_640 ?_
  intro u_1 hu
  show jj_W _ _ _ _ _ _ _ _ _ _ _ _ _ _ _ _ _ 643 _ [.int (iI u_1)] (wM ad cI cJ cZ 2 td pr up dn dv n K St Ex Am Ov Bj Aj BL AL He Co Ca mo sh co sd Cz Ab be ++ (wH ha cA hA nA ed cI cJ cZ td pr up dn dv rw sd mc n mo sh co Ca Cz K St Ex Am Bi As BL AL He Co ++ ((o, .inl (cJ, 1, .inr (.inl (lA F)))) :: GG)))
  refine jj_istore C0 (lv' := [(6, .int (iI u_1)), (5, .int (iI 2)), (4, .int (iI (i : Int))), (3, .ref o), (2, .ref (ad 0)), (1, .ref (ha 0)), (0, .ref b)]) (by decide) rfl dL_law_643 ?_
  refine jj_aload_n C0 4 rfl dL_law_645 ?_
  refine jj_callVi C0 (cells' := (cells + 1)) (slots' := (slots + 6)) (cc_X4_thrown hEV  ) (cwV 0 hw (lw_gV hU_865 hU_866 hU_867 hU_66 hU_868) rfl rfl rfl (by decide +kernel) ⟨Nat.le_of_ble_eq_true rfl, Nat.le_of_ble_eq_true rfl⟩) (ci := 5) (q0 := 0) rfl (rfl) rfl rfl (Nat.le_of_ble_eq_true rfl) ⟨by show (cells + 1) + 0 ≤ 601024; omega, by show (slots + 6) + 0 ≤ 7293034; omega⟩ rfl rfl dL_law_646 ?_
  intro _ hu
  show jj_W _ _ _ _ _ _ _ _ _ _ _ _ _ _ _ _ _ 649 _ [.int (iI 2)] (wM ad cI cJ cZ 2 td pr up dn dv n K St Ex Am Ov Bj Aj BL AL He Co Ca mo sh co sd Cz Ab be ++ (wH ha cA hA nA ed cI cJ cZ td pr up dn dv rw sd mc n mo sh co Ca Cz K St Ex Am Bi As BL AL He Co ++ ((o, .inl (cJ, 1, .inr (.inl (lA F)))) :: GG)))
  refine jj_iload C0 1 rfl dL_law_649 ?_
  refine jj_icmp_eq C0 (by omega) (by omega) dL_law_651 (tgt := 656) (by decide) (fun c_2 => ?_) (fun c_2 => absurd c_2 (by omega))
  refine jj_iload C0 1 rfl dL_law_656 ?_
  refine jj_if_ne C0 (by omega) dL_law_658 (tgt := 673) (by decide) (fun c_3 => ?_) (fun c_3 => absurd c_3 (by omega))
  refine jj_goto C0 (tgt := 1530) dL_law_673 (by decide) ?_
  refine jj_toH ?_
  refine jj_lv [2, 3, 4, 5, 6] rfl ?_
  exact kK cA hA nA ed rw F mc GG 2 be Ab td pr up dn dv sd n mo sh co Ca Cz K St Ex Am Ov Bi As Bj Aj BL AL He Co _ _ (f_IV_k hV) (hG) (by omega) (by omega)
set_option maxHeartbeats 4000000 in
set_option maxRecDepth 100000 in
theorem ll_order_S (hC9 : f_CC p l s m args meth c9 dC dI A cI cJ cZ cO es mi sa b L xs) (hi : i + 5 ≤ L) (hik : i = 5 * k) (hcs : cells + 8 ≤ 601024 ∧ slots + 80 ≤ 7293034) (hI : f_IV k td n pr up dn dv sd mo sh Ca K St Ex Am Ov Bi As Bj Aj BL AL He Co) (hG : f_LG cO es n ed cA GG) (kK : f_KK p l e s m args below meth c9 dC dI A Q ha ad cI cJ cZ cO o es b i k cells slots) {c : Nat} {a1 a3 a4 : Int} (h1 : (xs (i + 1)).toInt = a1) (h2 : (xs (i + 2)).toInt = (c : Int)) (h3 : (xs (i + 3)).toInt = a3) (h4 : (xs (i + 4)).toInt = a4) (hr3 : iR a3) (hr4 : iR a4) (hcn : c < n) (hov0 : Ov c ≠ 0) (hw0 : 0 ≤ a1 ∧ a1 ≤ 5) (hb : -100 ≤ a3 ∧ a3 ≤ 100 ∧ a3 ≠ 0 ∧ 0 ≤ a4 ∧ a4 ≤ 20000) : jj_W p l e room_1 s m args below meth c9 (dC, dI) vwCl A 8 cells slots Q 584 [(4, .int (iI (i : Int))), (3, .ref o), (2, .ref (ad 0)), (1, .ref (ha 0)), (0, .ref b)] [] (wH ha cA hA nA ed cI cJ cZ td pr up dn dv rw sd mc n mo sh co Ca Cz K St Ex Am Bi As BL AL He Co ++ ((o, .inl (cJ, 1, .inr (.inl (lA F)))) :: (GG ++ wM ad cI cJ cZ th td pr up dn dv n K St Ex Am Ov Bj Aj BL AL He Co Ca mo sh co sd Cz Ab be))) := by
  obtain ⟨C0, hl, hX, hbl, hbA, hL⟩ := hC9
  have hw := C0.2.2.2.2.1
  have hEV := hEVW es mi sa
  have hV := hI
  obtain ⟨⟨htd, hn, hpr, hup, hdn, hdv, hsd, hmo, hsh⟩, ⟨hK, hSt, hEx, hAm, hOv, hovs, hexs, hovn⟩, hQ9, ⟨hHe, hsums, hHz⟩, ⟨hCo, hCz⟩, hCa⟩ := hI
  have hQ := hQ9
  obtain ⟨hBi, hAs, hBj, hAj, hBL, hAL, hQt, hQ0, hQn, hQo⟩ := hQ9
  have hED0 : 0 < n → f_ED cA n ed cO (GG ++ wM ad cI cJ cZ th td pr up dn dv n K St Ex Am Ov Bj Aj BL AL He Co Ca mo sh co sd Cz Ab be) := f_LG_ED hG
  have hexs1 : ∀ c, c < n → Ex c ≤ (td : Int) + 10 := fun c hc => (hexs c hc).1
  have hk5 : k ≤ 511 := by omega
  have hHe9 : ∀ j, -999000 ≤ He j ∧ He j ≤ 999000 := fun j => by have := hHe j; omega
  have hHe6 : ∀ j, -1000000 ≤ He j ∧ He j ≤ 1000000 := fun j => by have := hHe j; omega
  have hCa9 : ∀ j, -100000000000000000 ≤ Ca j ∧ Ca j ≤ 100000000000000000 := fun j => by have := hCa j; omega
  have hov1 : Ex c < (td : Int) := by have := hovs c hcn; omega
  refine jj_aload_n C0 3 rfl dL_law_584 ?_
  refine jj_aload_n C0 4 rfl dL_law_585 ?_
  refine jj_iload C0 0 rfl dL_law_586 ?_
  refine jj_iconst C0 dL_law_588 ?_
  refine jj_iadd C0 dL_law_589 ?_
  refine jj_sald C0 hX hbl hbA hL (k := (i + 1)) (by omega) (by omega) dL_law_590 ?_
  refine jj_topi (b := a1) h1 ?_
  refine jj_aload_n C0 4 rfl dL_law_591 ?_
  refine jj_iload C0 0 rfl dL_law_592 ?_
  refine jj_iconst C0 dL_law_594 ?_
  refine jj_iadd C0 dL_law_595 ?_
  refine jj_sald C0 hX hbl hbA hL (k := (i + 2)) (by omega) (by omega) dL_law_596 ?_
  refine jj_topi (b := (c : Int)) h2 ?_
  refine jj_aload_n C0 4 rfl dL_law_597 ?_
  refine jj_iload C0 0 rfl dL_law_598 ?_
  refine jj_iconst C0 dL_law_600 ?_
  refine jj_iadd C0 dL_law_601 ?_
  refine jj_sald C0 hX hbl hbA hL (k := (i + 3)) (by omega) (by omega) dL_law_602 ?_
  refine jj_topi (b := a3) h3 ?_
  refine jj_aload_n C0 4 rfl dL_law_603 ?_
  refine jj_iload C0 0 rfl dL_law_604 ?_
  refine jj_iconst C0 dL_law_606 ?_
  refine jj_iadd C0 dL_law_607 ?_
  refine jj_sald C0 hX hbl hbA hL (k := (i + 4)) (by omega) (by omega) dL_law_608 ?_
  refine jj_topi (b := a4) h4 ?_
  refine jj_aload_n C0 1 rfl dL_law_609 ?_
  refine jj_callSWi C0 (cells' := cells + 1) (slots' := slots + 6) (jj_weaki (fun A U H h => h.1) (cr_L_order_S hl (w := a1) (c := c) (x := a3) (y := a4) hov1 hb hw0 hcn hn hEx htd hED0)) (vx_cwSW 6 hw (lw_gW hU_587 hU_588 hU_59 hU_589) rfl rfl rfl (by decide +kernel) ⟨Nat.le_of_ble_eq_true rfl, Nat.le_of_ble_eq_true rfl⟩) rfl rfl (Nat.le_of_ble_eq_true rfl) ⟨by show cells + 1 ≤ 601024; omega, by show slots + 6 ≤ 7293034; omega⟩ rfl rfl dL_law_610 ?_
  intro _ hu
  show jj_W _ _ _ _ _ _ _ _ _ _ _ _ _ _ _ _ _ 613 _ [.int (iI 3)] (wH ha cA hA nA ed cI cJ cZ td pr up dn dv rw sd mc n mo sh co Ca Cz K St Ex Am Bi As BL AL He Co ++ ((o, .inl (cJ, 1, .inr (.inl (lA F)))) :: (GG ++ wM ad cI cJ cZ th td pr up dn dv n K St Ex Am Ov Bj Aj BL AL He Co Ca mo sh co sd Cz Ab be)))
  refine jj_istore C0 (lv' := [(5, .int (iI 3)), (4, .int (iI (i : Int))), (3, .ref o), (2, .ref (ad 0)), (1, .ref (ha 0)), (0, .ref b)]) (by decide) rfl dL_law_613 ?_
  refine jj_toM ?_
  refine jj_aload_n C0 3 rfl dL_law_615 ?_
  refine jj_aload_n C0 5 rfl dL_law_616 ?_
  refine jj_iload C0 1 rfl dL_law_617 ?_
  refine jj_iconst C0 dL_law_619 ?_
  refine jj_iadd C0 dL_law_620 ?_
  refine jj_sald C0 hX hbl hbA hL (k := (i + 1)) (by omega) (by omega) dL_law_621 ?_
  refine jj_topi (b := a1) h1 ?_
  refine jj_aload_n C0 5 rfl dL_law_622 ?_
  refine jj_iload C0 1 rfl dL_law_623 ?_
  refine jj_iconst C0 dL_law_625 ?_
  refine jj_iadd C0 dL_law_626 ?_
  refine jj_sald C0 hX hbl hbA hL (k := (i + 2)) (by omega) (by omega) dL_law_627 ?_
  refine jj_topi (b := (c : Int)) h2 ?_
  refine jj_aload_n C0 5 rfl dL_law_628 ?_
  refine jj_iload C0 1 rfl dL_law_629 ?_
  refine jj_iconst C0 dL_law_631 ?_
  refine jj_iadd C0 dL_law_632 ?_
  refine jj_sald C0 hX hbl hbA hL (k := (i + 3)) (by omega) (by omega) dL_law_633 ?_
  refine jj_topi (b := a3) h3 ?_
  refine jj_aload_n C0 5 rfl dL_law_634 ?_
  refine jj_iload C0 1 rfl dL_law_635 ?_
  refine jj_iconst C0 dL_law_637 ?_
  refine jj_iadd C0 dL_law_638 ?_
  refine jj_sald C0 hX hbl hbA hL (k := (i + 4)) (by omega) (by omega) dL_law_639 ?_
  refine jj_topi (b := a4) h4 ?_
  refine jj_callVi C0 (cells' := (cells + 1)) (slots' := (slots + 6)) (cb_X4_order hEV (w := a1) (z := (c : Int)) (x := a3) (y := a4) (kk := 3) hr3 hr4 (by omega) (by omega) hn hOv (Or.inr (Or.inr ⟨by omega, hb, hov0, rfl⟩))) (cwV 4 hw (lw_gV hU_956 hU_957 hU_958 hU_66 hU_959) rfl rfl rfl (by decide +kernel) ⟨Nat.le_of_ble_eq_true rfl, Nat.le_of_ble_eq_true rfl⟩) (ci := 5) (q0 := 0) rfl (rfl) rfl rfl (Nat.le_of_ble_eq_true rfl) ⟨by show (cells + 1) + 0 ≤ 601024; omega, by show (slots + 6) + 0 ≤ 7293034; omega⟩ rfl rfl dL_law_640 ?_
  intro u_1 hu
  show jj_W _ _ _ _ _ _ _ _ _ _ _ _ _ _ _ _ _ 643 _ [.int (iI u_1)] (wM ad cI cJ cZ 3 td pr up dn dv n K St Ex Am Ov Bj Aj BL AL He Co Ca mo sh co sd Cz Ab be ++ (wH ha cA hA nA ed cI cJ cZ td pr up dn dv rw sd mc n mo sh co Ca Cz K St Ex Am Bi As BL AL He Co ++ ((o, .inl (cJ, 1, .inr (.inl (lA F)))) :: GG)))
  refine jj_istore C0 (lv' := [(6, .int (iI u_1)), (5, .int (iI 3)), (4, .int (iI (i : Int))), (3, .ref o), (2, .ref (ad 0)), (1, .ref (ha 0)), (0, .ref b)]) (by decide) rfl dL_law_643 ?_
  refine jj_aload_n C0 4 rfl dL_law_645 ?_
  refine jj_callVi C0 (cells' := (cells + 1)) (slots' := (slots + 6)) (cc_X4_thrown hEV  ) (cwV 0 hw (lw_gV hU_865 hU_866 hU_867 hU_66 hU_868) rfl rfl rfl (by decide +kernel) ⟨Nat.le_of_ble_eq_true rfl, Nat.le_of_ble_eq_true rfl⟩) (ci := 5) (q0 := 0) rfl (rfl) rfl rfl (Nat.le_of_ble_eq_true rfl) ⟨by show (cells + 1) + 0 ≤ 601024; omega, by show (slots + 6) + 0 ≤ 7293034; omega⟩ rfl rfl dL_law_646 ?_
  intro _ hu
  show jj_W _ _ _ _ _ _ _ _ _ _ _ _ _ _ _ _ _ 649 _ [.int (iI 3)] (wM ad cI cJ cZ 3 td pr up dn dv n K St Ex Am Ov Bj Aj BL AL He Co Ca mo sh co sd Cz Ab be ++ (wH ha cA hA nA ed cI cJ cZ td pr up dn dv rw sd mc n mo sh co Ca Cz K St Ex Am Bi As BL AL He Co ++ ((o, .inl (cJ, 1, .inr (.inl (lA F)))) :: GG)))
  refine jj_iload C0 1 rfl dL_law_649 ?_
  refine jj_icmp_eq C0 (by omega) (by omega) dL_law_651 (tgt := 656) (by decide) (fun c_2 => ?_) (fun c_2 => absurd c_2 (by omega))
  refine jj_iload C0 1 rfl dL_law_656 ?_
  refine jj_if_ne C0 (by omega) dL_law_658 (tgt := 673) (by decide) (fun c_3 => ?_) (fun c_3 => absurd c_3 (by omega))
  refine jj_goto C0 (tgt := 1530) dL_law_673 (by decide) ?_
  refine jj_toH ?_
  refine jj_lv [2, 3, 4, 5, 6] rfl ?_
  exact kK cA hA nA ed rw F mc GG 3 be Ab td pr up dn dv sd n mo sh co Ca Cz K St Ex Am Ov Bi As Bj Aj BL AL He Co _ _ (f_IV_k hV) (hG) (by omega) (by omega)
set_option maxHeartbeats 4000000 in
set_option maxRecDepth 100000 in
theorem ll_hedge (hC9 : f_CC p l s m args meth c9 dC dI A cI cJ cZ cO es mi sa b L xs) (hi : i + 5 ≤ L) (hik : i = 5 * k) (hcs : cells + 8 ≤ 601024 ∧ slots + 80 ≤ 7293034) (hI : f_IV k td n pr up dn dv sd mo sh Ca K St Ex Am Ov Bi As Bj Aj BL AL He Co) (hG : f_LG cO es n ed cA GG) (kK : f_KK p l e s m args below meth c9 dC dI A Q ha ad cI cJ cZ cO o es b i k cells slots) {a1 a2 : Int} (h1 : (xs (i + 1)).toInt = a1) (h2 : (xs (i + 2)).toInt = a2) (hx : -10000 ≤ a1 ∧ a1 ≤ 10000) (hy : 0 ≤ a2 ∧ a2 ≤ 10000) (hsx : -100000 ≤ sh + a1 ∧ sh + a1 ≤ 100000) : jj_W p l e room_1 s m args below meth c9 (dC, dI) vwCl A 8 cells slots Q 676 [(4, .int (iI (i : Int))), (3, .ref o), (2, .ref (ad 0)), (1, .ref (ha 0)), (0, .ref b)] [] (wH ha cA hA nA ed cI cJ cZ td pr up dn dv rw sd mc n mo sh co Ca Cz K St Ex Am Bi As BL AL He Co ++ ((o, .inl (cJ, 1, .inr (.inl (lA F)))) :: (GG ++ wM ad cI cJ cZ th td pr up dn dv n K St Ex Am Ov Bj Aj BL AL He Co Ca mo sh co sd Cz Ab be))) := by
  obtain ⟨C0, hl, hX, hbl, hbA, hL⟩ := hC9
  have hw := C0.2.2.2.2.1
  have hEV := hEVW es mi sa
  have hV := hI
  obtain ⟨⟨htd, hn, hpr, hup, hdn, hdv, hsd, hmo, hsh⟩, ⟨hK, hSt, hEx, hAm, hOv, hovs, hexs, hovn⟩, hQ9, ⟨hHe, hsums, hHz⟩, ⟨hCo, hCz⟩, hCa⟩ := hI
  have hQ := hQ9
  obtain ⟨hBi, hAs, hBj, hAj, hBL, hAL, hQt, hQ0, hQn, hQo⟩ := hQ9
  have hED0 : 0 < n → f_ED cA n ed cO (GG ++ wM ad cI cJ cZ th td pr up dn dv n K St Ex Am Ov Bj Aj BL AL He Co Ca mo sh co sd Cz Ab be) := f_LG_ED hG
  have hexs1 : ∀ c, c < n → Ex c ≤ (td : Int) + 10 := fun c hc => (hexs c hc).1
  have hk5 : k ≤ 511 := by omega
  have hHe9 : ∀ j, -999000 ≤ He j ∧ He j ≤ 999000 := fun j => by have := hHe j; omega
  have hHe6 : ∀ j, -1000000 ≤ He j ∧ He j ≤ 1000000 := fun j => by have := hHe j; omega
  have hCa9 : ∀ j, -100000000000000000 ≤ Ca j ∧ Ca j ≤ 100000000000000000 := fun j => by have := hCa j; omega
  refine jj_aload_n C0 3 rfl dL_law_676 ?_
  refine jj_aload_n C0 4 rfl dL_law_677 ?_
  refine jj_iload C0 0 rfl dL_law_678 ?_
  refine jj_iconst C0 dL_law_680 ?_
  refine jj_iadd C0 dL_law_681 ?_
  refine jj_sald C0 hX hbl hbA hL (k := (i + 1)) (by omega) (by omega) dL_law_682 ?_
  refine jj_topi (b := a1) h1 ?_
  refine jj_aload_n C0 4 rfl dL_law_683 ?_
  refine jj_iload C0 0 rfl dL_law_684 ?_
  refine jj_iconst C0 dL_law_686 ?_
  refine jj_iadd C0 dL_law_687 ?_
  refine jj_sald C0 hX hbl hbA hL (k := (i + 2)) (by omega) (by omega) dL_law_688 ?_
  refine jj_topi (b := a2) h2 ?_
  refine jj_aload_n C0 1 rfl dL_law_689 ?_
  refine jj_callSWi C0 (cells' := cells) (slots' := slots) (jj_weaki (fun A U H h => h.1) (cw_L_hedge hl (x := a1) (y := a2) hx hy hsx hpr hexs1 hn htd hup hdn hdv hK hSt hEx hAm hHe6 hsh hED0 (by omega))) (vx_cwSW 4 hw (lw_gW hU_626 hU_627 hU_59 hU_628) rfl rfl rfl (by decide +kernel) ⟨Nat.le_of_ble_eq_true rfl, Nat.le_of_ble_eq_true rfl⟩) rfl rfl (Nat.le_of_ble_eq_true rfl) ⟨by show cells + 0 ≤ 601024; omega, by show slots + 0 ≤ 7293034; omega⟩ rfl rfl dL_law_690 ?_
  intro r8_1 hu
  show jj_W _ _ _ _ _ _ _ _ _ _ _ _ _ _ _ _ _ 693 _ [.int (iI 0)] (wH ha cA hA nA ed cI cJ cZ td pr up dn dv r8_1 sd mc n mo (sh + a1) a2 (va_up Ca 6 ((Ca 6) - (((1000 * pr) * a1) + (a2 * (if 0 ≤ a1 then a1 else -a1))))) (va_up Cz 3 ((Cz 3) + ((f_W up dn dv td n K St Ex Am He (va_up Ca 6 ((Ca 6) - (((1000 * pr) * a1) + (a2 * (if 0 ≤ a1 then a1 else -a1))))) (sh + a1) pr) - (f_W up dn dv td n K St Ex Am He Ca sh pr)))) K St Ex Am Bi As BL AL He Co ++ ((o, .inl (cJ, 1, .inr (.inl (lA (va_up F 0 (sh + a1)))))) :: (GG ++ wM ad cI cJ cZ th td pr up dn dv n K St Ex Am Ov Bj Aj BL AL He Co Ca mo sh co sd Cz Ab be)))
  refine jj_istore C0 (lv' := [(5, .int (iI 0)), (4, .int (iI (i : Int))), (3, .ref o), (2, .ref (ad 0)), (1, .ref (ha 0)), (0, .ref b)]) (by decide) rfl dL_law_693 ?_
  refine jj_toM ?_
  refine jj_aload_n C0 3 rfl dL_law_695 ?_
  refine jj_aload_n C0 5 rfl dL_law_696 ?_
  refine jj_iload C0 1 rfl dL_law_697 ?_
  refine jj_iconst C0 dL_law_699 ?_
  refine jj_iadd C0 dL_law_700 ?_
  refine jj_sald C0 hX hbl hbA hL (k := (i + 1)) (by omega) (by omega) dL_law_701 ?_
  refine jj_topi (b := a1) h1 ?_
  refine jj_aload_n C0 5 rfl dL_law_702 ?_
  refine jj_iload C0 1 rfl dL_law_703 ?_
  refine jj_iconst C0 dL_law_705 ?_
  refine jj_iadd C0 dL_law_706 ?_
  refine jj_sald C0 hX hbl hbA hL (k := (i + 2)) (by omega) (by omega) dL_law_707 ?_
  refine jj_topi (b := a2) h2 ?_
  refine jj_callVi C0 (cells' := cells) (slots' := slots) (cc_X4_hedge hEV (x := a1) (y := a2) hx hy hsx hovs hexs hn htd hpr hup hdn hdv hK hSt hEx hAm hOv hHe6 hsh) (cwV 2 hw (lw_gV hU_969 hU_970 hU_971 hU_66 hU_972) rfl rfl rfl (by decide +kernel) ⟨Nat.le_of_ble_eq_true rfl, Nat.le_of_ble_eq_true rfl⟩) (ci := 5) (q0 := 0) rfl (rfl) rfl rfl (Nat.le_of_ble_eq_true rfl) ⟨by show cells + 0 ≤ 601024; omega, by show slots + 0 ≤ 7293034; omega⟩ rfl rfl dL_law_708 ?_
  intro u hu
  obtain ⟨ab_2, b_2⟩ := u
  show jj_W _ _ _ _ _ _ _ _ _ _ _ _ _ _ _ _ _ 711 _ [.int (iI (sh + a1))] (wM ad cI cJ cZ 0 td pr up dn dv n K St Ex Am Ov Bj Aj BL AL He Co (va_up Ca 6 ((Ca 6) - (((1000 * pr) * a1) + (a2 * (if 0 ≤ a1 then a1 else -a1))))) mo (sh + a1) a2 sd (va_up Cz 3 ((Cz 3) + ((f_W up dn dv td n K St Ex Am He (va_up Ca 6 ((Ca 6) - (((1000 * pr) * a1) + (a2 * (if 0 ≤ a1 then a1 else -a1))))) (sh + a1) pr) - (f_W up dn dv td n K St Ex Am He Ca sh pr)))) ab_2 b_2 ++ (wH ha cA hA nA ed cI cJ cZ td pr up dn dv r8_1 sd mc n mo (sh + a1) a2 (va_up Ca 6 ((Ca 6) - (((1000 * pr) * a1) + (a2 * (if 0 ≤ a1 then a1 else -a1))))) (va_up Cz 3 ((Cz 3) + ((f_W up dn dv td n K St Ex Am He (va_up Ca 6 ((Ca 6) - (((1000 * pr) * a1) + (a2 * (if 0 ≤ a1 then a1 else -a1))))) (sh + a1) pr) - (f_W up dn dv td n K St Ex Am He Ca sh pr)))) K St Ex Am Bi As BL AL He Co ++ ((o, .inl (cJ, 1, .inr (.inl (lA (va_up F 0 (sh + a1)))))) :: GG)))
  refine jj_istore C0 (lv' := [(6, .int (iI (sh + a1))), (5, .int (iI 0)), (4, .int (iI (i : Int))), (3, .ref o), (2, .ref (ad 0)), (1, .ref (ha 0)), (0, .ref b)]) (by decide) rfl dL_law_711 ?_
  refine jj_aload_n C0 4 rfl dL_law_713 ?_
  refine jj_callVi C0 (cells' := cells) (slots' := slots) (cc_X4_thrown hEV  ) (cwV 0 hw (lw_gV hU_865 hU_866 hU_867 hU_66 hU_868) rfl rfl rfl (by decide +kernel) ⟨Nat.le_of_ble_eq_true rfl, Nat.le_of_ble_eq_true rfl⟩) (ci := 5) (q0 := 0) rfl (rfl) rfl rfl (Nat.le_of_ble_eq_true rfl) ⟨by show cells + 0 ≤ 601024; omega, by show slots + 0 ≤ 7293034; omega⟩ rfl rfl dL_law_714 ?_
  intro _ hu
  show jj_W _ _ _ _ _ _ _ _ _ _ _ _ _ _ _ _ _ 717 _ [.int (iI 0)] (wM ad cI cJ cZ 0 td pr up dn dv n K St Ex Am Ov Bj Aj BL AL He Co (va_up Ca 6 ((Ca 6) - (((1000 * pr) * a1) + (a2 * (if 0 ≤ a1 then a1 else -a1))))) mo (sh + a1) a2 sd (va_up Cz 3 ((Cz 3) + ((f_W up dn dv td n K St Ex Am He (va_up Ca 6 ((Ca 6) - (((1000 * pr) * a1) + (a2 * (if 0 ≤ a1 then a1 else -a1))))) (sh + a1) pr) - (f_W up dn dv td n K St Ex Am He Ca sh pr)))) ab_2 b_2 ++ (wH ha cA hA nA ed cI cJ cZ td pr up dn dv r8_1 sd mc n mo (sh + a1) a2 (va_up Ca 6 ((Ca 6) - (((1000 * pr) * a1) + (a2 * (if 0 ≤ a1 then a1 else -a1))))) (va_up Cz 3 ((Cz 3) + ((f_W up dn dv td n K St Ex Am He (va_up Ca 6 ((Ca 6) - (((1000 * pr) * a1) + (a2 * (if 0 ≤ a1 then a1 else -a1))))) (sh + a1) pr) - (f_W up dn dv td n K St Ex Am He Ca sh pr)))) K St Ex Am Bi As BL AL He Co ++ ((o, .inl (cJ, 1, .inr (.inl (lA (va_up F 0 (sh + a1)))))) :: GG)))
  refine jj_iload C0 1 rfl dL_law_717 ?_
  refine jj_icmp_eq C0 (by omega) (by omega) dL_law_719 (tgt := 724) (by decide) (fun c_3 => ?_) (fun c_3 => absurd c_3 (by omega))
  refine jj_iload C0 1 rfl dL_law_724 ?_
  refine jj_if_ne C0 (by omega) dL_law_726 (tgt := 741) (by decide) (fun c_4 => absurd c_4 (by omega)) (fun c_4 => ?_)
  refine jj_toH ?_
  refine jj_aload_n C0 3 rfl dL_law_729 ?_
  refine jj_iconst C0 dL_law_730 ?_
  refine jj_lald C0 (q0 := (8 + (3 * n + 0))) (t0 := 1) (f := (va_up F 0 (sh + a1))) ((wH_ee (n := n) rfl)) rfl (k := 0) (by omega) (by omega) (by decide) dL_law_731 ?_
  refine jj_topl (b := (sh + a1)) (va_up_self _ _ _) ?_
  refine jj_iload C0 0 rfl dL_law_732 ?_
  refine jj_i2l C0 (by omega) dL_law_734 ?_
  refine jj_lcmpS C0 dL_law_735 dL_law_736 (tgt := 741) (by decide) ?_
  refine jj_goto C0 (tgt := 1530) dL_law_741 (by decide) ?_
  refine jj_lv [2, 3, 4, 5, 6] rfl ?_
  exact kK cA hA nA ed r8_1 (va_up F 0 (sh + a1)) mc GG 0 b_2 ab_2 td pr up dn dv sd n mo (sh + a1) a2 (va_up Ca 6 ((Ca 6) - (((1000 * pr) * a1) + (a2 * (if 0 ≤ a1 then a1 else -a1))))) (va_up Cz 3 ((Cz 3) + ((f_W up dn dv td n K St Ex Am He (va_up Ca 6 ((Ca 6) - (((1000 * pr) * a1) + (a2 * (if 0 ≤ a1 then a1 else -a1))))) (sh + a1) pr) - (f_W up dn dv td n K St Ex Am He Ca sh pr)))) K St Ex Am Ov Bi As Bj Aj BL AL He Co _ _ (f_IV_hedge hV hx hy hsx) (hG) (by omega) (by omega)
set_option maxHeartbeats 4000000 in
set_option maxRecDepth 100000 in
theorem ll_hedge_r (hC9 : f_CC p l s m args meth c9 dC dI A cI cJ cZ cO es mi sa b L xs) (hi : i + 5 ≤ L) (hik : i = 5 * k) (hcs : cells + 8 ≤ 601024 ∧ slots + 80 ≤ 7293034) (hI : f_IV k td n pr up dn dv sd mo sh Ca K St Ex Am Ov Bi As Bj Aj BL AL He Co) (hG : f_LG cO es n ed cA GG) (kK : f_KK p l e s m args below meth c9 dC dI A Q ha ad cI cJ cZ cO o es b i k cells slots) {a1 a2 : Int} (h1 : (xs (i + 1)).toInt = a1) (h2 : (xs (i + 2)).toInt = a2) (hr1 : iR a1) (hr2 : iR a2) (hb : ¬ (-10000 ≤ a1 ∧ a1 ≤ 10000 ∧ 0 ≤ a2 ∧ a2 ≤ 10000 ∧ -100000 ≤ sh + a1 ∧ sh + a1 ≤ 100000)) : jj_W p l e room_1 s m args below meth c9 (dC, dI) vwCl A 8 cells slots Q 676 [(4, .int (iI (i : Int))), (3, .ref o), (2, .ref (ad 0)), (1, .ref (ha 0)), (0, .ref b)] [] (wH ha cA hA nA ed cI cJ cZ td pr up dn dv rw sd mc n mo sh co Ca Cz K St Ex Am Bi As BL AL He Co ++ ((o, .inl (cJ, 1, .inr (.inl (lA F)))) :: (GG ++ wM ad cI cJ cZ th td pr up dn dv n K St Ex Am Ov Bj Aj BL AL He Co Ca mo sh co sd Cz Ab be))) := by
  obtain ⟨C0, hl, hX, hbl, hbA, hL⟩ := hC9
  have hw := C0.2.2.2.2.1
  have hEV := hEVW es mi sa
  have hV := hI
  obtain ⟨⟨htd, hn, hpr, hup, hdn, hdv, hsd, hmo, hsh⟩, ⟨hK, hSt, hEx, hAm, hOv, hovs, hexs, hovn⟩, hQ9, ⟨hHe, hsums, hHz⟩, ⟨hCo, hCz⟩, hCa⟩ := hI
  have hQ := hQ9
  obtain ⟨hBi, hAs, hBj, hAj, hBL, hAL, hQt, hQ0, hQn, hQo⟩ := hQ9
  have hED0 : 0 < n → f_ED cA n ed cO (GG ++ wM ad cI cJ cZ th td pr up dn dv n K St Ex Am Ov Bj Aj BL AL He Co Ca mo sh co sd Cz Ab be) := f_LG_ED hG
  have hexs1 : ∀ c, c < n → Ex c ≤ (td : Int) + 10 := fun c hc => (hexs c hc).1
  have hk5 : k ≤ 511 := by omega
  have hHe9 : ∀ j, -999000 ≤ He j ∧ He j ≤ 999000 := fun j => by have := hHe j; omega
  have hHe6 : ∀ j, -1000000 ≤ He j ∧ He j ≤ 1000000 := fun j => by have := hHe j; omega
  have hCa9 : ∀ j, -100000000000000000 ≤ Ca j ∧ Ca j ≤ 100000000000000000 := fun j => by have := hCa j; omega
  refine jj_aload_n C0 3 rfl dL_law_676 ?_
  refine jj_aload_n C0 4 rfl dL_law_677 ?_
  refine jj_iload C0 0 rfl dL_law_678 ?_
  refine jj_iconst C0 dL_law_680 ?_
  refine jj_iadd C0 dL_law_681 ?_
  refine jj_sald C0 hX hbl hbA hL (k := (i + 1)) (by omega) (by omega) dL_law_682 ?_
  refine jj_topi (b := a1) h1 ?_
  refine jj_aload_n C0 4 rfl dL_law_683 ?_
  refine jj_iload C0 0 rfl dL_law_684 ?_
  refine jj_iconst C0 dL_law_686 ?_
  refine jj_iadd C0 dL_law_687 ?_
  refine jj_sald C0 hX hbl hbA hL (k := (i + 2)) (by omega) (by omega) dL_law_688 ?_
  refine jj_topi (b := a2) h2 ?_
  refine jj_aload_n C0 1 rfl dL_law_689 ?_
  refine jj_callSWi C0 (cells' := cells + 1) (slots' := slots + 6) (jj_weaki (fun A U H h => h.1) (cr_L_hedge hl (x := a1) (y := a2) hb hr1 hr2 hsh hED0)) (vx_cwSW 4 hw (lw_gW hU_626 hU_627 hU_59 hU_628) rfl rfl rfl (by decide +kernel) ⟨Nat.le_of_ble_eq_true rfl, Nat.le_of_ble_eq_true rfl⟩) rfl rfl (Nat.le_of_ble_eq_true rfl) ⟨by show cells + 1 ≤ 601024; omega, by show slots + 6 ≤ 7293034; omega⟩ rfl rfl dL_law_690 ?_
  intro _ hu
  show jj_W _ _ _ _ _ _ _ _ _ _ _ _ _ _ _ _ _ 693 _ [.int (iI 1)] (wH ha cA hA nA ed cI cJ cZ td pr up dn dv rw sd mc n mo sh co Ca Cz K St Ex Am Bi As BL AL He Co ++ ((o, .inl (cJ, 1, .inr (.inl (lA F)))) :: (GG ++ wM ad cI cJ cZ th td pr up dn dv n K St Ex Am Ov Bj Aj BL AL He Co Ca mo sh co sd Cz Ab be)))
  refine jj_istore C0 (lv' := [(5, .int (iI 1)), (4, .int (iI (i : Int))), (3, .ref o), (2, .ref (ad 0)), (1, .ref (ha 0)), (0, .ref b)]) (by decide) rfl dL_law_693 ?_
  refine jj_toM ?_
  refine jj_aload_n C0 3 rfl dL_law_695 ?_
  refine jj_aload_n C0 5 rfl dL_law_696 ?_
  refine jj_iload C0 1 rfl dL_law_697 ?_
  refine jj_iconst C0 dL_law_699 ?_
  refine jj_iadd C0 dL_law_700 ?_
  refine jj_sald C0 hX hbl hbA hL (k := (i + 1)) (by omega) (by omega) dL_law_701 ?_
  refine jj_topi (b := a1) h1 ?_
  refine jj_aload_n C0 5 rfl dL_law_702 ?_
  refine jj_iload C0 1 rfl dL_law_703 ?_
  refine jj_iconst C0 dL_law_705 ?_
  refine jj_iadd C0 dL_law_706 ?_
  refine jj_sald C0 hX hbl hbA hL (k := (i + 2)) (by omega) (by omega) dL_law_707 ?_
  refine jj_topi (b := a2) h2 ?_
  refine jj_callVi C0 (cells' := (cells + 1)) (slots' := (slots + 6)) (cb_X4_hedge hEV (x := a1) (y := a2) (kk := 1) hr1 hr2 hsh (⟨hb, rfl⟩)) (cwV 2 hw (lw_gV hU_969 hU_970 hU_971 hU_66 hU_972) rfl rfl rfl (by decide +kernel) ⟨Nat.le_of_ble_eq_true rfl, Nat.le_of_ble_eq_true rfl⟩) (ci := 5) (q0 := 0) rfl (rfl) rfl rfl (Nat.le_of_ble_eq_true rfl) ⟨by show (cells + 1) + 0 ≤ 601024; omega, by show (slots + 6) + 0 ≤ 7293034; omega⟩ rfl rfl dL_law_708 ?_
  intro u_1 hu
  show jj_W _ _ _ _ _ _ _ _ _ _ _ _ _ _ _ _ _ 711 _ [.int (iI u_1)] (wM ad cI cJ cZ 1 td pr up dn dv n K St Ex Am Ov Bj Aj BL AL He Co Ca mo sh co sd Cz Ab be ++ (wH ha cA hA nA ed cI cJ cZ td pr up dn dv rw sd mc n mo sh co Ca Cz K St Ex Am Bi As BL AL He Co ++ ((o, .inl (cJ, 1, .inr (.inl (lA F)))) :: GG)))
  refine jj_istore C0 (lv' := [(6, .int (iI u_1)), (5, .int (iI 1)), (4, .int (iI (i : Int))), (3, .ref o), (2, .ref (ad 0)), (1, .ref (ha 0)), (0, .ref b)]) (by decide) rfl dL_law_711 ?_
  refine jj_aload_n C0 4 rfl dL_law_713 ?_
  refine jj_callVi C0 (cells' := (cells + 1)) (slots' := (slots + 6)) (cc_X4_thrown hEV  ) (cwV 0 hw (lw_gV hU_865 hU_866 hU_867 hU_66 hU_868) rfl rfl rfl (by decide +kernel) ⟨Nat.le_of_ble_eq_true rfl, Nat.le_of_ble_eq_true rfl⟩) (ci := 5) (q0 := 0) rfl (rfl) rfl rfl (Nat.le_of_ble_eq_true rfl) ⟨by show (cells + 1) + 0 ≤ 601024; omega, by show (slots + 6) + 0 ≤ 7293034; omega⟩ rfl rfl dL_law_714 ?_
  intro _ hu
  show jj_W _ _ _ _ _ _ _ _ _ _ _ _ _ _ _ _ _ 717 _ [.int (iI 1)] (wM ad cI cJ cZ 1 td pr up dn dv n K St Ex Am Ov Bj Aj BL AL He Co Ca mo sh co sd Cz Ab be ++ (wH ha cA hA nA ed cI cJ cZ td pr up dn dv rw sd mc n mo sh co Ca Cz K St Ex Am Bi As BL AL He Co ++ ((o, .inl (cJ, 1, .inr (.inl (lA F)))) :: GG)))
  refine jj_iload C0 1 rfl dL_law_717 ?_
  refine jj_icmp_eq C0 (by omega) (by omega) dL_law_719 (tgt := 724) (by decide) (fun c_2 => ?_) (fun c_2 => absurd c_2 (by omega))
  refine jj_iload C0 1 rfl dL_law_724 ?_
  refine jj_if_ne C0 (by omega) dL_law_726 (tgt := 741) (by decide) (fun c_3 => ?_) (fun c_3 => absurd c_3 (by omega))
  refine jj_goto C0 (tgt := 1530) dL_law_741 (by decide) ?_
  refine jj_toH ?_
  refine jj_lv [2, 3, 4, 5, 6] rfl ?_
  exact kK cA hA nA ed rw F mc GG 1 be Ab td pr up dn dv sd n mo sh co Ca Cz K St Ex Am Ov Bi As Bj Aj BL AL He Co _ _ (f_IV_k hV) (hG) (by omega) (by omega)
set_option maxHeartbeats 4000000 in
set_option maxRecDepth 100000 in
theorem ll_seed (hC9 : f_CC p l s m args meth c9 dC dI A cI cJ cZ cO es mi sa b L xs) (hi : i + 5 ≤ L) (hik : i = 5 * k) (hcs : cells + 8 ≤ 601024 ∧ slots + 80 ≤ 7293034) (hI : f_IV k td n pr up dn dv sd mo sh Ca K St Ex Am Ov Bi As Bj Aj BL AL He Co) (hG : f_LG cO es n ed cA GG) (kK : f_KK p l e s m args below meth c9 dC dI A Q ha ad cI cJ cZ cO o es b i k cells slots) {a1 : Int} (h1 : (xs (i + 1)).toInt = a1) (hx : 0 ≤ a1 ∧ a1 ≤ 2147483647) : jj_W p l e room_1 s m args below meth c9 (dC, dI) vwCl A 8 cells slots Q 744 [(4, .int (iI (i : Int))), (3, .ref o), (2, .ref (ad 0)), (1, .ref (ha 0)), (0, .ref b)] [] (wH ha cA hA nA ed cI cJ cZ td pr up dn dv rw sd mc n mo sh co Ca Cz K St Ex Am Bi As BL AL He Co ++ ((o, .inl (cJ, 1, .inr (.inl (lA F)))) :: (GG ++ wM ad cI cJ cZ th td pr up dn dv n K St Ex Am Ov Bj Aj BL AL He Co Ca mo sh co sd Cz Ab be))) := by
  obtain ⟨C0, hl, hX, hbl, hbA, hL⟩ := hC9
  have hw := C0.2.2.2.2.1
  have hEV := hEVW es mi sa
  have hV := hI
  obtain ⟨⟨htd, hn, hpr, hup, hdn, hdv, hsd, hmo, hsh⟩, ⟨hK, hSt, hEx, hAm, hOv, hovs, hexs, hovn⟩, hQ9, ⟨hHe, hsums, hHz⟩, ⟨hCo, hCz⟩, hCa⟩ := hI
  have hQ := hQ9
  obtain ⟨hBi, hAs, hBj, hAj, hBL, hAL, hQt, hQ0, hQn, hQo⟩ := hQ9
  have hED0 : 0 < n → f_ED cA n ed cO (GG ++ wM ad cI cJ cZ th td pr up dn dv n K St Ex Am Ov Bj Aj BL AL He Co Ca mo sh co sd Cz Ab be) := f_LG_ED hG
  have hexs1 : ∀ c, c < n → Ex c ≤ (td : Int) + 10 := fun c hc => (hexs c hc).1
  have hk5 : k ≤ 511 := by omega
  have hHe9 : ∀ j, -999000 ≤ He j ∧ He j ≤ 999000 := fun j => by have := hHe j; omega
  have hHe6 : ∀ j, -1000000 ≤ He j ∧ He j ≤ 1000000 := fun j => by have := hHe j; omega
  have hCa9 : ∀ j, -100000000000000000 ≤ Ca j ∧ Ca j ≤ 100000000000000000 := fun j => by have := hCa j; omega
  refine jj_aload_n C0 3 rfl dL_law_744 ?_
  refine jj_aload_n C0 4 rfl dL_law_745 ?_
  refine jj_iload C0 0 rfl dL_law_746 ?_
  refine jj_iconst C0 dL_law_748 ?_
  refine jj_iadd C0 dL_law_749 ?_
  refine jj_sald C0 hX hbl hbA hL (k := (i + 1)) (by omega) (by omega) dL_law_750 ?_
  refine jj_topi (b := a1) h1 ?_
  refine jj_callSWi C0 (cells' := cells) (slots' := slots) (jj_weaki (fun A U H h => h.1) (cw_L_seed hl (x := a1) hx hED0)) (vx_cwSW 2 hw (lw_gW hU_639 hU_640 hU_59 hU_641) rfl rfl rfl (by decide +kernel) ⟨Nat.le_of_ble_eq_true rfl, Nat.le_of_ble_eq_true rfl⟩) rfl rfl (Nat.le_of_ble_eq_true rfl) ⟨by show cells + 0 ≤ 601024; omega, by show slots + 0 ≤ 7293034; omega⟩ rfl rfl dL_law_751 ?_
  intro _ hu
  show jj_W _ _ _ _ _ _ _ _ _ _ _ _ _ _ _ _ _ 754 _ [.int (iI 0)] (wH ha cA hA nA ed cI cJ cZ td pr up dn dv rw a1 mc n mo sh co Ca Cz K St Ex Am Bi As BL AL He Co ++ ((o, .inl (cJ, 1, .inr (.inl (lA F)))) :: (GG ++ wM ad cI cJ cZ th td pr up dn dv n K St Ex Am Ov Bj Aj BL AL He Co Ca mo sh co sd Cz Ab be)))
  refine jj_istore C0 (lv' := [(5, .int (iI 0)), (4, .int (iI (i : Int))), (3, .ref o), (2, .ref (ad 0)), (1, .ref (ha 0)), (0, .ref b)]) (by decide) rfl dL_law_754 ?_
  refine jj_toM ?_
  refine jj_aload_n C0 3 rfl dL_law_756 ?_
  refine jj_aload_n C0 5 rfl dL_law_757 ?_
  refine jj_iload C0 1 rfl dL_law_758 ?_
  refine jj_iconst C0 dL_law_760 ?_
  refine jj_iadd C0 dL_law_761 ?_
  refine jj_sald C0 hX hbl hbA hL (k := (i + 1)) (by omega) (by omega) dL_law_762 ?_
  refine jj_topi (b := a1) h1 ?_
  refine jj_callVv C0 (cells' := cells) (slots' := slots) (cc_X4_seed hEV (x := a1) hx) (cwV 1 hw (lw_gV hU_977 hU_978 hU_979 hU_66 hU_980) rfl rfl rfl (by decide +kernel) ⟨Nat.le_of_ble_eq_true rfl, Nat.le_of_ble_eq_true rfl⟩) (ci := 5) (q0 := 0) rfl (rfl) rfl rfl (Nat.le_of_ble_eq_true rfl) ⟨by show cells + 0 ≤ 601024; omega, by show slots + 0 ≤ 7293034; omega⟩ rfl rfl dL_law_763 ?_
  intro _ hu
  show jj_W _ _ _ _ _ _ _ _ _ _ _ _ _ _ _ _ _ 766 _ [] (wM ad cI cJ cZ 0 td pr up dn dv n K St Ex Am Ov Bj Aj BL AL He Co Ca mo sh co a1 Cz Ab be ++ (wH ha cA hA nA ed cI cJ cZ td pr up dn dv rw a1 mc n mo sh co Ca Cz K St Ex Am Bi As BL AL He Co ++ ((o, .inl (cJ, 1, .inr (.inl (lA F)))) :: GG)))
  refine jj_aload_n C0 3 rfl dL_law_766 ?_
  refine jj_callVi C0 (cells' := cells) (slots' := slots) (cc_X4_thrown hEV  ) (cwV 0 hw (lw_gV hU_865 hU_866 hU_867 hU_66 hU_868) rfl rfl rfl (by decide +kernel) ⟨Nat.le_of_ble_eq_true rfl, Nat.le_of_ble_eq_true rfl⟩) (ci := 5) (q0 := 0) rfl (rfl) rfl rfl (Nat.le_of_ble_eq_true rfl) ⟨by show cells + 0 ≤ 601024; omega, by show slots + 0 ≤ 7293034; omega⟩ rfl rfl dL_law_767 ?_
  intro _ hu
  show jj_W _ _ _ _ _ _ _ _ _ _ _ _ _ _ _ _ _ 770 _ [.int (iI 0)] (wM ad cI cJ cZ 0 td pr up dn dv n K St Ex Am Ov Bj Aj BL AL He Co Ca mo sh co a1 Cz Ab be ++ (wH ha cA hA nA ed cI cJ cZ td pr up dn dv rw a1 mc n mo sh co Ca Cz K St Ex Am Bi As BL AL He Co ++ ((o, .inl (cJ, 1, .inr (.inl (lA F)))) :: GG)))
  refine jj_iload C0 0 rfl dL_law_770 ?_
  refine jj_icmp_eq C0 (by omega) (by omega) dL_law_772 (tgt := 777) (by decide) (fun c_1 => ?_) (fun c_1 => absurd c_1 (by omega))
  refine jj_goto C0 (tgt := 1530) dL_law_777 (by decide) ?_
  refine jj_toH ?_
  refine jj_lv [1, 2, 3, 4, 5] rfl ?_
  exact kK cA hA nA ed rw F mc GG 0 be Ab td pr up dn dv a1 n mo sh co Ca Cz K St Ex Am Ov Bi As Bj Aj BL AL He Co _ _ (⟨⟨htd, hn, hpr, hup, hdn, hdv, hx, hmo, hsh⟩, (f_IV_k hV).2⟩) (hG) (by omega) (by omega)
set_option maxHeartbeats 4000000 in
set_option maxRecDepth 100000 in
theorem ll_seed_r (hC9 : f_CC p l s m args meth c9 dC dI A cI cJ cZ cO es mi sa b L xs) (hi : i + 5 ≤ L) (hik : i = 5 * k) (hcs : cells + 8 ≤ 601024 ∧ slots + 80 ≤ 7293034) (hI : f_IV k td n pr up dn dv sd mo sh Ca K St Ex Am Ov Bi As Bj Aj BL AL He Co) (hG : f_LG cO es n ed cA GG) (kK : f_KK p l e s m args below meth c9 dC dI A Q ha ad cI cJ cZ cO o es b i k cells slots) {a1 : Int} (h1 : (xs (i + 1)).toInt = a1) (hr1 : iR a1) (hb : a1 < 0) : jj_W p l e room_1 s m args below meth c9 (dC, dI) vwCl A 8 cells slots Q 744 [(4, .int (iI (i : Int))), (3, .ref o), (2, .ref (ad 0)), (1, .ref (ha 0)), (0, .ref b)] [] (wH ha cA hA nA ed cI cJ cZ td pr up dn dv rw sd mc n mo sh co Ca Cz K St Ex Am Bi As BL AL He Co ++ ((o, .inl (cJ, 1, .inr (.inl (lA F)))) :: (GG ++ wM ad cI cJ cZ th td pr up dn dv n K St Ex Am Ov Bj Aj BL AL He Co Ca mo sh co sd Cz Ab be))) := by
  obtain ⟨C0, hl, hX, hbl, hbA, hL⟩ := hC9
  have hw := C0.2.2.2.2.1
  have hEV := hEVW es mi sa
  have hV := hI
  obtain ⟨⟨htd, hn, hpr, hup, hdn, hdv, hsd, hmo, hsh⟩, ⟨hK, hSt, hEx, hAm, hOv, hovs, hexs, hovn⟩, hQ9, ⟨hHe, hsums, hHz⟩, ⟨hCo, hCz⟩, hCa⟩ := hI
  have hQ := hQ9
  obtain ⟨hBi, hAs, hBj, hAj, hBL, hAL, hQt, hQ0, hQn, hQo⟩ := hQ9
  have hED0 : 0 < n → f_ED cA n ed cO (GG ++ wM ad cI cJ cZ th td pr up dn dv n K St Ex Am Ov Bj Aj BL AL He Co Ca mo sh co sd Cz Ab be) := f_LG_ED hG
  have hexs1 : ∀ c, c < n → Ex c ≤ (td : Int) + 10 := fun c hc => (hexs c hc).1
  have hk5 : k ≤ 511 := by omega
  have hHe9 : ∀ j, -999000 ≤ He j ∧ He j ≤ 999000 := fun j => by have := hHe j; omega
  have hHe6 : ∀ j, -1000000 ≤ He j ∧ He j ≤ 1000000 := fun j => by have := hHe j; omega
  have hCa9 : ∀ j, -100000000000000000 ≤ Ca j ∧ Ca j ≤ 100000000000000000 := fun j => by have := hCa j; omega
  refine jj_aload_n C0 3 rfl dL_law_744 ?_
  refine jj_aload_n C0 4 rfl dL_law_745 ?_
  refine jj_iload C0 0 rfl dL_law_746 ?_
  refine jj_iconst C0 dL_law_748 ?_
  refine jj_iadd C0 dL_law_749 ?_
  refine jj_sald C0 hX hbl hbA hL (k := (i + 1)) (by omega) (by omega) dL_law_750 ?_
  refine jj_topi (b := a1) h1 ?_
  refine jj_callSWi C0 (cells' := cells + 1) (slots' := slots + 6) (jj_weaki (fun A U H h => h.1) (cr_L_seed hl (x := a1) hb hr1 hED0)) (vx_cwSW 2 hw (lw_gW hU_639 hU_640 hU_59 hU_641) rfl rfl rfl (by decide +kernel) ⟨Nat.le_of_ble_eq_true rfl, Nat.le_of_ble_eq_true rfl⟩) rfl rfl (Nat.le_of_ble_eq_true rfl) ⟨by show cells + 1 ≤ 601024; omega, by show slots + 6 ≤ 7293034; omega⟩ rfl rfl dL_law_751 ?_
  intro _ hu
  show jj_W _ _ _ _ _ _ _ _ _ _ _ _ _ _ _ _ _ 754 _ [.int (iI 1)] (wH ha cA hA nA ed cI cJ cZ td pr up dn dv rw sd mc n mo sh co Ca Cz K St Ex Am Bi As BL AL He Co ++ ((o, .inl (cJ, 1, .inr (.inl (lA F)))) :: (GG ++ wM ad cI cJ cZ th td pr up dn dv n K St Ex Am Ov Bj Aj BL AL He Co Ca mo sh co sd Cz Ab be)))
  refine jj_istore C0 (lv' := [(5, .int (iI 1)), (4, .int (iI (i : Int))), (3, .ref o), (2, .ref (ad 0)), (1, .ref (ha 0)), (0, .ref b)]) (by decide) rfl dL_law_754 ?_
  refine jj_toM ?_
  refine jj_aload_n C0 3 rfl dL_law_756 ?_
  refine jj_aload_n C0 5 rfl dL_law_757 ?_
  refine jj_iload C0 1 rfl dL_law_758 ?_
  refine jj_iconst C0 dL_law_760 ?_
  refine jj_iadd C0 dL_law_761 ?_
  refine jj_sald C0 hX hbl hbA hL (k := (i + 1)) (by omega) (by omega) dL_law_762 ?_
  refine jj_topi (b := a1) h1 ?_
  refine jj_callVv C0 (cells' := (cells + 1)) (slots' := (slots + 6)) (cb_X4_seed hEV (x := a1) (kk := 1) hr1 (⟨hb, rfl⟩)) (cwV 1 hw (lw_gV hU_977 hU_978 hU_979 hU_66 hU_980) rfl rfl rfl (by decide +kernel) ⟨Nat.le_of_ble_eq_true rfl, Nat.le_of_ble_eq_true rfl⟩) (ci := 5) (q0 := 0) rfl (rfl) rfl rfl (Nat.le_of_ble_eq_true rfl) ⟨by show (cells + 1) + 0 ≤ 601024; omega, by show (slots + 6) + 0 ≤ 7293034; omega⟩ rfl rfl dL_law_763 ?_
  intro _ hu
  show jj_W _ _ _ _ _ _ _ _ _ _ _ _ _ _ _ _ _ 766 _ [] (wM ad cI cJ cZ 1 td pr up dn dv n K St Ex Am Ov Bj Aj BL AL He Co Ca mo sh co sd Cz Ab be ++ (wH ha cA hA nA ed cI cJ cZ td pr up dn dv rw sd mc n mo sh co Ca Cz K St Ex Am Bi As BL AL He Co ++ ((o, .inl (cJ, 1, .inr (.inl (lA F)))) :: GG)))
  refine jj_aload_n C0 3 rfl dL_law_766 ?_
  refine jj_callVi C0 (cells' := (cells + 1)) (slots' := (slots + 6)) (cc_X4_thrown hEV  ) (cwV 0 hw (lw_gV hU_865 hU_866 hU_867 hU_66 hU_868) rfl rfl rfl (by decide +kernel) ⟨Nat.le_of_ble_eq_true rfl, Nat.le_of_ble_eq_true rfl⟩) (ci := 5) (q0 := 0) rfl (rfl) rfl rfl (Nat.le_of_ble_eq_true rfl) ⟨by show (cells + 1) + 0 ≤ 601024; omega, by show (slots + 6) + 0 ≤ 7293034; omega⟩ rfl rfl dL_law_767 ?_
  intro _ hu
  show jj_W _ _ _ _ _ _ _ _ _ _ _ _ _ _ _ _ _ 770 _ [.int (iI 1)] (wM ad cI cJ cZ 1 td pr up dn dv n K St Ex Am Ov Bj Aj BL AL He Co Ca mo sh co sd Cz Ab be ++ (wH ha cA hA nA ed cI cJ cZ td pr up dn dv rw sd mc n mo sh co Ca Cz K St Ex Am Bi As BL AL He Co ++ ((o, .inl (cJ, 1, .inr (.inl (lA F)))) :: GG)))
  refine jj_iload C0 0 rfl dL_law_770 ?_
  refine jj_icmp_eq C0 (by omega) (by omega) dL_law_772 (tgt := 777) (by decide) (fun c_1 => ?_) (fun c_1 => absurd c_1 (by omega))
  refine jj_goto C0 (tgt := 1530) dL_law_777 (by decide) ?_
  refine jj_toH ?_
  refine jj_lv [1, 2, 3, 4, 5] rfl ?_
  exact kK cA hA nA ed rw F mc GG 1 be Ab td pr up dn dv sd n mo sh co Ca Cz K St Ex Am Ov Bi As Bj Aj BL AL He Co _ _ (f_IV_k hV) (hG) (by omega) (by omega)
end CC25
