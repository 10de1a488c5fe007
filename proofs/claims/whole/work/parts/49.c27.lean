section CC27
variable {p : Program} {l : Launch} {e : Env} {s : State} {m : MethodId} {args : Array Value} {below : List Frame} {meth : Method} {c9 : Code} {dC : Nat → ClassId} {dI : Nat → Nat → Nat} {A : Nat → Prop} {Q : State → Prop} {ha ad : Nat → Nat} {cI cJ cZ cO : ClassId} {o es mi b L i k cells slots : Nat} {sa : Nat → Nat} {xs : Nat → Int32} {cA hA nA : Nat → Nat} {ed : Nat} {rw F : Nat → Int} {mc : Int} {GG : va_W} {th be : Int} {Ab : Nat → Int} {td : Nat} {pr up dn : Int} {dv : Nat → Int} {sd : Int} {n : Nat} {mo sh co : Int} {Ca Cz K St Ex Am Ov Bi As Bj Aj BL AL He Co : Nat → Int}
theorem lm_steps (hC9 : f_CC p l s m args meth c9 dC dI A cI cJ cZ cO es mi sa b L xs) (hi : i + 5 ≤ L) (hik : i = 5 * k) (hcs : cells + 8 ≤ 601024 ∧ slots + 80 ≤ 7293034) (hI : f_IV k td n pr up dn dv sd mo sh Ca K St Ex Am Ov Bi As Bj Aj BL AL He Co) (hG : f_LG cO es n ed cA GG) (kK : f_KK p l e s m args below meth c9 dC dI A Q ha ad cI cJ cZ cO o es b i k cells slots) : jj_W p l e room_1 s m args below meth c9 (dC, dI) vwCl A 8 cells slots Q 144 [(4, .int (iI (i : Int))), (3, .ref o), (2, .ref (ad 0)), (1, .ref (ha 0)), (0, .ref b)] [] (wH ha cA hA nA ed cI cJ cZ td pr up dn dv rw sd mc n mo sh co Ca Cz K St Ex Am Bi As BL AL He Co ++ ((o, .inl (cJ, 1, .inr (.inl (lA F)))) :: (GG ++ wM ad cI cJ cZ th td pr up dn dv n K St Ex Am Ov Bj Aj BL AL He Co Ca mo sh co sd Cz Ab be))) := by
  have hr1 := iR_of (xs (i + 1))
  generalize e1 : (xs (i + 1)).toInt = a1 at hr1
  have hr2 := iR_of (xs (i + 2))
  generalize e2 : (xs (i + 2)).toInt = a2 at hr2
  by_cases hb : (1 ≤ a1 ∧ a1 ≤ 10) ∧ (1 ≤ a2 ∧ a2 ≤ 10)
  · exact ll_steps hC9 hi hik hcs hI hG kK e1 e2 hb.1 hb.2
  · exact ll_steps_r hC9 hi hik hcs hI hG kK e1 e2 hr1 hr2 (by omega)
theorem lm_move (hC9 : f_CC p l s m args meth c9 dC dI A cI cJ cZ cO es mi sa b L xs) (hi : i + 5 ≤ L) (hik : i = 5 * k) (hcs : cells + 8 ≤ 601024 ∧ slots + 80 ≤ 7293034) (hI : f_IV k td n pr up dn dv sd mo sh Ca K St Ex Am Ov Bi As Bj Aj BL AL He Co) (hG : f_LG cO es n ed cA GG) (kK : f_KK p l e s m args below meth c9 dC dI A Q ha ad cI cJ cZ cO o es b i k cells slots) : jj_W p l e room_1 s m args below meth c9 (dC, dI) vwCl A 8 cells slots Q 192 [(4, .int (iI (i : Int))), (3, .ref o), (2, .ref (ad 0)), (1, .ref (ha 0)), (0, .ref b)] [] (wH ha cA hA nA ed cI cJ cZ td pr up dn dv rw sd mc n mo sh co Ca Cz K St Ex Am Bi As BL AL He Co ++ ((o, .inl (cJ, 1, .inr (.inl (lA F)))) :: (GG ++ wM ad cI cJ cZ th td pr up dn dv n K St Ex Am Ov Bj Aj BL AL He Co Ca mo sh co sd Cz Ab be))) := by
  have hr1 := iR_of (xs (i + 1))
  generalize e1 : (xs (i + 1)).toInt = a1 at hr1
  by_cases hb : 0 ≤ a1 ∧ a1 ≤ 20000
  · exact ll_move hC9 hi hik hcs hI hG kK e1 hb
  · exact ll_move_r hC9 hi hik hcs hI hG kK e1 hr1 hb
theorem lm_dividend (hC9 : f_CC p l s m args meth c9 dC dI A cI cJ cZ cO es mi sa b L xs) (hi : i + 5 ≤ L) (hik : i = 5 * k) (hcs : cells + 8 ≤ 601024 ∧ slots + 80 ≤ 7293034) (hI : f_IV k td n pr up dn dv sd mo sh Ca K St Ex Am Ov Bi As Bj Aj BL AL He Co) (hG : f_LG cO es n ed cA GG) (kK : f_KK p l e s m args below meth c9 dC dI A Q ha ad cI cJ cZ cO o es b i k cells slots) : jj_W p l e room_1 s m args below meth c9 (dC, dI) vwCl A 8 cells slots Q 247 [(4, .int (iI (i : Int))), (3, .ref o), (2, .ref (ad 0)), (1, .ref (ha 0)), (0, .ref b)] [] (wH ha cA hA nA ed cI cJ cZ td pr up dn dv rw sd mc n mo sh co Ca Cz K St Ex Am Bi As BL AL He Co ++ ((o, .inl (cJ, 1, .inr (.inl (lA F)))) :: (GG ++ wM ad cI cJ cZ th td pr up dn dv n K St Ex Am Ov Bj Aj BL AL He Co Ca mo sh co sd Cz Ab be))) := by
  have hr1 := iR_of (xs (i + 1))
  generalize e1 : (xs (i + 1)).toInt = a1 at hr1
  have hr2 := iR_of (xs (i + 2))
  generalize e2 : (xs (i + 2)).toInt = a2 at hr2
  by_cases hb : (td : Int) + 1 ≤ a1 ∧ a1 ≤ 200 ∧ 0 ≤ a2 ∧ a2 ≤ 1000
  · obtain ⟨d, rfl⟩ : ∃ d : Nat, a1 = (d : Int) := ⟨a1.toNat, by omega⟩
    exact ll_dividend hC9 hi hik hcs hI hG kK e1 e2 (by omega) (by omega)
  · exact ll_dividend_r hC9 hi hik hcs hI hG kK e1 e2 hr1 hr2 hb
theorem lm_contract (hC9 : f_CC p l s m args meth c9 dC dI A cI cJ cZ cO es mi sa b L xs) (hi : i + 5 ≤ L) (hik : i = 5 * k) (hcs : cells + 8 ≤ 601024 ∧ slots + 80 ≤ 7293034) (hI : f_IV k td n pr up dn dv sd mo sh Ca K St Ex Am Ov Bi As Bj Aj BL AL He Co) (hG : f_LG cO es n ed cA GG) (kK : f_KK p l e s m args below meth c9 dC dI A Q ha ad cI cJ cZ cO o es b i k cells slots) : jj_W p l e room_1 s m args below meth c9 (dC, dI) vwCl A 8 cells slots Q 315 [(4, .int (iI (i : Int))), (3, .ref o), (2, .ref (ad 0)), (1, .ref (ha 0)), (0, .ref b)] [] (wH ha cA hA nA ed cI cJ cZ td pr up dn dv rw sd mc n mo sh co Ca Cz K St Ex Am Bi As BL AL He Co ++ ((o, .inl (cJ, 1, .inr (.inl (lA F)))) :: (GG ++ wM ad cI cJ cZ th td pr up dn dv n K St Ex Am Ov Bj Aj BL AL He Co Ca mo sh co sd Cz Ab be))) := by
  have hr1 := iR_of (xs (i + 1))
  generalize e1 : (xs (i + 1)).toInt = a1 at hr1
  have hr2 := iR_of (xs (i + 2))
  generalize e2 : (xs (i + 2)).toInt = a2 at hr2
  have hr3 := iR_of (xs (i + 3))
  generalize e3 : (xs (i + 3)).toInt = a3 at hr3
  have hr4 := iR_of (xs (i + 4))
  generalize e4 : (xs (i + 4)).toInt = a4 at hr4
  obtain ⟨vb, hvb⟩ : ∃ vb : Int, (a4 ≠ 0 ∧ vb = 1) ∨ (a4 = 0 ∧ vb = 0) := by
    by_cases h : a4 = 0
    · exact ⟨0, by omega⟩
    · exact ⟨1, by omega⟩
  by_cases hb : 0 ≤ a1 ∧ a1 ≤ 1 ∧ 0 ≤ a2 ∧ a2 ≤ 20000 ∧ (td : Int) ≤ a3 ∧ a3 ≤ (td : Int) + 10 ∧ a3 ≤ 200
  · by_cases hn : n < 12
    · by_cases hp : 0 < n
      · exact ll_contract hC9 hi hik hcs hI hG kK e1 e2 e3 e4 hr4 hvb (by omega) (by omega) (by omega) hn hp
      · obtain rfl : n = 0 := by omega
        have he := hG.2 rfl
        rw [he] at hG ⊢
        exact ll_contract_0 hC9 hi hik hcs hI hG kK e1 e2 e3 e4 hr4 hvb (by omega) (by omega) (by omega)
    · exact ll_contract_S hC9 hi hik hcs hI hG kK e1 e2 e3 e4 hr1 hr2 hr3 hr4 hvb hb (by have := hI.1.2.1; omega)
  · exact ll_contract_A hC9 hi hik hcs hI hG kK e1 e2 e3 e4 hr1 hr2 hr3 hr4 hvb hb
theorem lm_quote (hC9 : f_CC p l s m args meth c9 dC dI A cI cJ cZ cO es mi sa b L xs) (hi : i + 5 ≤ L) (hik : i = 5 * k) (hcs : cells + 8 ≤ 601024 ∧ slots + 80 ≤ 7293034) (hI : f_IV k td n pr up dn dv sd mo sh Ca K St Ex Am Ov Bi As Bj Aj BL AL He Co) (hG : f_LG cO es n ed cA GG) (kK : f_KK p l e s m args below meth c9 dC dI A Q ha ad cI cJ cZ cO o es b i k cells slots) : jj_W p l e room_1 s m args below meth c9 (dC, dI) vwCl A 8 cells slots Q 423 [(4, .int (iI (i : Int))), (3, .ref o), (2, .ref (ad 0)), (1, .ref (ha 0)), (0, .ref b)] [] (wH ha cA hA nA ed cI cJ cZ td pr up dn dv rw sd mc n mo sh co Ca Cz K St Ex Am Bi As BL AL He Co ++ ((o, .inl (cJ, 1, .inr (.inl (lA F)))) :: (GG ++ wM ad cI cJ cZ th td pr up dn dv n K St Ex Am Ov Bj Aj BL AL He Co Ca mo sh co sd Cz Ab be))) := by
  have hr1 := iR_of (xs (i + 1))
  generalize e1 : (xs (i + 1)).toInt = a1 at hr1
  have hr2 := iR_of (xs (i + 2))
  generalize e2 : (xs (i + 2)).toInt = a2 at hr2
  have hr3 := iR_of (xs (i + 3))
  generalize e3 : (xs (i + 3)).toInt = a3 at hr3
  have hr4 := iR_of (xs (i + 4))
  generalize e4 : (xs (i + 4)).toInt = a4 at hr4
  by_cases hc : 0 ≤ a1 ∧ a1 < (n : Int)
  · obtain ⟨c, rfl⟩ : ∃ c : Nat, a1 = (c : Int) := ⟨(a1).toNat, by omega⟩
    have hcn : c < n := by omega
    by_cases hb : 0 ≤ a2 ∧ a2 ≤ 20000 ∧ 0 ≤ a3 ∧ a3 ≤ 20000 ∧ 0 ≤ a4 ∧ a4 ≤ 100
    · by_cases ho : Ov c = 0
      · exact ll_quote hC9 hi hik hcs hI hG kK e1 e2 e3 e4 hcn ho (by omega) (by omega) (by omega)
      · exact ll_quote_S hC9 hi hik hcs hI hG kK e1 e2 e3 e4 hr2 hr3 hr4 hcn ho hb
    · exact ll_quote_A hC9 hi hik hcs hI hG kK e1 e2 e3 e4 hr2 hr3 hr4 hcn hb
  · exact ll_quote_I hC9 hi hik hcs hI hG kK e1 e2 e3 e4 hr1 hr2 hr3 hr4 hc
theorem lm_kill (hC9 : f_CC p l s m args meth c9 dC dI A cI cJ cZ cO es mi sa b L xs) (hi : i + 5 ≤ L) (hik : i = 5 * k) (hcs : cells + 8 ≤ 601024 ∧ slots + 80 ≤ 7293034) (hI : f_IV k td n pr up dn dv sd mo sh Ca K St Ex Am Ov Bi As Bj Aj BL AL He Co) (hG : f_LG cO es n ed cA GG) (kK : f_KK p l e s m args below meth c9 dC dI A Q ha ad cI cJ cZ cO o es b i k cells slots) : jj_W p l e room_1 s m args below meth c9 (dC, dI) vwCl A 8 cells slots Q 515 [(4, .int (iI (i : Int))), (3, .ref o), (2, .ref (ad 0)), (1, .ref (ha 0)), (0, .ref b)] [] (wH ha cA hA nA ed cI cJ cZ td pr up dn dv rw sd mc n mo sh co Ca Cz K St Ex Am Bi As BL AL He Co ++ ((o, .inl (cJ, 1, .inr (.inl (lA F)))) :: (GG ++ wM ad cI cJ cZ th td pr up dn dv n K St Ex Am Ov Bj Aj BL AL He Co Ca mo sh co sd Cz Ab be))) := by
  exact ll_kill hC9 hi hik hcs hI hG kK
theorem lm_limit (hC9 : f_CC p l s m args meth c9 dC dI A cI cJ cZ cO es mi sa b L xs) (hi : i + 5 ≤ L) (hik : i = 5 * k) (hcs : cells + 8 ≤ 601024 ∧ slots + 80 ≤ 7293034) (hI : f_IV k td n pr up dn dv sd mo sh Ca K St Ex Am Ov Bi As Bj Aj BL AL He Co) (hG : f_LG cO es n ed cA GG) (kK : f_KK p l e s m args below meth c9 dC dI A Q ha ad cI cJ cZ cO o es b i k cells slots) : jj_W p l e room_1 s m args below meth c9 (dC, dI) vwCl A 8 cells slots Q 528 [(4, .int (iI (i : Int))), (3, .ref o), (2, .ref (ad 0)), (1, .ref (ha 0)), (0, .ref b)] [] (wH ha cA hA nA ed cI cJ cZ td pr up dn dv rw sd mc n mo sh co Ca Cz K St Ex Am Bi As BL AL He Co ++ ((o, .inl (cJ, 1, .inr (.inl (lA F)))) :: (GG ++ wM ad cI cJ cZ th td pr up dn dv n K St Ex Am Ov Bj Aj BL AL He Co Ca mo sh co sd Cz Ab be))) := by
  have hr1 := iR_of (xs (i + 1))
  generalize e1 : (xs (i + 1)).toInt = a1 at hr1
  by_cases hb : 0 ≤ a1 ∧ a1 ≤ 1000
  · exact ll_limit hC9 hi hik hcs hI hG kK e1 hb
  · exact ll_limit_r hC9 hi hik hcs hI hG kK e1 hr1 hb
theorem lm_order (hC9 : f_CC p l s m args meth c9 dC dI A cI cJ cZ cO es mi sa b L xs) (hi : i + 5 ≤ L) (hik : i = 5 * k) (hcs : cells + 8 ≤ 601024 ∧ slots + 80 ≤ 7293034) (hI : f_IV k td n pr up dn dv sd mo sh Ca K St Ex Am Ov Bi As Bj Aj BL AL He Co) (hG : f_LG cO es n ed cA GG) (kK : f_KK p l e s m args below meth c9 dC dI A Q ha ad cI cJ cZ cO o es b i k cells slots) : jj_W p l e room_1 s m args below meth c9 (dC, dI) vwCl A 8 cells slots Q 584 [(4, .int (iI (i : Int))), (3, .ref o), (2, .ref (ad 0)), (1, .ref (ha 0)), (0, .ref b)] [] (wH ha cA hA nA ed cI cJ cZ td pr up dn dv rw sd mc n mo sh co Ca Cz K St Ex Am Bi As BL AL He Co ++ ((o, .inl (cJ, 1, .inr (.inl (lA F)))) :: (GG ++ wM ad cI cJ cZ th td pr up dn dv n K St Ex Am Ov Bj Aj BL AL He Co Ca mo sh co sd Cz Ab be))) := by
  have hr1 := iR_of (xs (i + 1))
  generalize e1 : (xs (i + 1)).toInt = a1 at hr1
  have hr2 := iR_of (xs (i + 2))
  generalize e2 : (xs (i + 2)).toInt = a2 at hr2
  have hr3 := iR_of (xs (i + 3))
  generalize e3 : (xs (i + 3)).toInt = a3 at hr3
  have hr4 := iR_of (xs (i + 4))
  generalize e4 : (xs (i + 4)).toInt = a4 at hr4
  by_cases hc : 0 ≤ a1 ∧ a1 ≤ 5 ∧ 0 ≤ a2 ∧ a2 < (n : Int)
  · obtain ⟨c, rfl⟩ : ∃ c : Nat, a2 = (c : Int) := ⟨(a2).toNat, by omega⟩
    have hcn : c < n := by omega
    by_cases hb : -100 ≤ a3 ∧ a3 ≤ 100 ∧ a3 ≠ 0 ∧ 0 ≤ a4 ∧ a4 ≤ 20000
    · by_cases ho : Ov c = 0
      · obtain ⟨h5, rfl⟩ : ∃ h5 : Nat, a1 = (h5 : Int) := ⟨a1.toNat, by omega⟩
        exact ll_order hC9 hi hik hcs hI hG kK e1 e2 e3 e4 hcn ho (by omega) ⟨hb.1, hb.2.1, hb.2.2.1⟩ hb.2.2.2
      · exact ll_order_S hC9 hi hik hcs hI hG kK e1 e2 e3 e4 hr3 hr4 hcn ho ⟨hc.1, hc.2.1⟩ hb
    · exact ll_order_A hC9 hi hik hcs hI hG kK e1 e2 e3 e4 hr3 hr4 ⟨hc.1, hc.2.1⟩ hcn hb
  · exact ll_order_I hC9 hi hik hcs hI hG kK e1 e2 e3 e4 hr1 hr2 hr3 hr4 hc
theorem lm_hedge (hC9 : f_CC p l s m args meth c9 dC dI A cI cJ cZ cO es mi sa b L xs) (hi : i + 5 ≤ L) (hik : i = 5 * k) (hcs : cells + 8 ≤ 601024 ∧ slots + 80 ≤ 7293034) (hI : f_IV k td n pr up dn dv sd mo sh Ca K St Ex Am Ov Bi As Bj Aj BL AL He Co) (hG : f_LG cO es n ed cA GG) (kK : f_KK p l e s m args below meth c9 dC dI A Q ha ad cI cJ cZ cO o es b i k cells slots) : jj_W p l e room_1 s m args below meth c9 (dC, dI) vwCl A 8 cells slots Q 676 [(4, .int (iI (i : Int))), (3, .ref o), (2, .ref (ad 0)), (1, .ref (ha 0)), (0, .ref b)] [] (wH ha cA hA nA ed cI cJ cZ td pr up dn dv rw sd mc n mo sh co Ca Cz K St Ex Am Bi As BL AL He Co ++ ((o, .inl (cJ, 1, .inr (.inl (lA F)))) :: (GG ++ wM ad cI cJ cZ th td pr up dn dv n K St Ex Am Ov Bj Aj BL AL He Co Ca mo sh co sd Cz Ab be))) := by
  have hr1 := iR_of (xs (i + 1))
  generalize e1 : (xs (i + 1)).toInt = a1 at hr1
  have hr2 := iR_of (xs (i + 2))
  generalize e2 : (xs (i + 2)).toInt = a2 at hr2
  by_cases hb : -10000 ≤ a1 ∧ a1 ≤ 10000 ∧ 0 ≤ a2 ∧ a2 ≤ 10000 ∧ -100000 ≤ sh + a1 ∧ sh + a1 ≤ 100000
  · exact ll_hedge hC9 hi hik hcs hI hG kK e1 e2 (by omega) (by omega) (by omega)
  · exact ll_hedge_r hC9 hi hik hcs hI hG kK e1 e2 hr1 hr2 hb
theorem lm_seed (hC9 : f_CC p l s m args meth c9 dC dI A cI cJ cZ cO es mi sa b L xs) (hi : i + 5 ≤ L) (hik : i = 5 * k) (hcs : cells + 8 ≤ 601024 ∧ slots + 80 ≤ 7293034) (hI : f_IV k td n pr up dn dv sd mo sh Ca K St Ex Am Ov Bi As Bj Aj BL AL He Co) (hG : f_LG cO es n ed cA GG) (kK : f_KK p l e s m args below meth c9 dC dI A Q ha ad cI cJ cZ cO o es b i k cells slots) : jj_W p l e room_1 s m args below meth c9 (dC, dI) vwCl A 8 cells slots Q 744 [(4, .int (iI (i : Int))), (3, .ref o), (2, .ref (ad 0)), (1, .ref (ha 0)), (0, .ref b)] [] (wH ha cA hA nA ed cI cJ cZ td pr up dn dv rw sd mc n mo sh co Ca Cz K St Ex Am Bi As BL AL He Co ++ ((o, .inl (cJ, 1, .inr (.inl (lA F)))) :: (GG ++ wM ad cI cJ cZ th td pr up dn dv n K St Ex Am Ov Bj Aj BL AL He Co Ca mo sh co sd Cz Ab be))) := by
  have hr1 := iR_of (xs (i + 1))
  generalize e1 : (xs (i + 1)).toInt = a1 at hr1
  by_cases hb : a1 < 0
  · exact ll_seed_r hC9 hi hik hcs hI hG kK e1 hr1 hb
  · exact ll_seed hC9 hi hik hcs hI hG kK e1 (by omega)
theorem lm_exercise (hC9 : f_CC p l s m args meth c9 dC dI A cI cJ cZ cO es mi sa b L xs) (hi : i + 5 ≤ L) (hik : i = 5 * k) (hcs : cells + 8 ≤ 601024 ∧ slots + 80 ≤ 7293034) (hI : f_IV k td n pr up dn dv sd mo sh Ca K St Ex Am Ov Bi As Bj Aj BL AL He Co) (hG : f_LG cO es n ed cA GG) (kK : f_KK p l e s m args below meth c9 dC dI A Q ha ad cI cJ cZ cO o es b i k cells slots) : jj_W p l e room_1 s m args below meth c9 (dC, dI) vwCl A 8 cells slots Q 780 [(4, .int (iI (i : Int))), (3, .ref o), (2, .ref (ad 0)), (1, .ref (ha 0)), (0, .ref b)] [] (wH ha cA hA nA ed cI cJ cZ td pr up dn dv rw sd mc n mo sh co Ca Cz K St Ex Am Bi As BL AL He Co ++ ((o, .inl (cJ, 1, .inr (.inl (lA F)))) :: (GG ++ wM ad cI cJ cZ th td pr up dn dv n K St Ex Am Ov Bj Aj BL AL He Co Ca mo sh co sd Cz Ab be))) := by
  have hr1 := iR_of (xs (i + 1))
  generalize e1 : (xs (i + 1)).toInt = a1 at hr1
  have hr2 := iR_of (xs (i + 2))
  generalize e2 : (xs (i + 2)).toInt = a2 at hr2
  have hr3 := iR_of (xs (i + 3))
  generalize e3 : (xs (i + 3)).toInt = a3 at hr3
  by_cases hw : -1 ≤ a1 ∧ a1 ≤ 5
  · obtain ⟨h5, hzk⟩ : ∃ h5 : Nat, (a1 = -1 ∧ h5 = 6) ∨ (a1 = (h5 : Int) ∧ h5 ≤ 5) := by
      by_cases h : a1 = -1
      · exact ⟨6, by omega⟩
      · exact ⟨(a1).toNat, by omega⟩
    by_cases hc : 0 ≤ a2 ∧ a2 < (n : Int)
    · obtain ⟨c, rfl⟩ : ∃ c : Nat, a2 = (c : Int) := ⟨(a2).toNat, by omega⟩
      have hcn : c < n := by omega
      by_cases hx : 1 ≤ a3 ∧ a3 ≤ 1000
      · by_cases hb : a3 ≤ He (7 * c + h5) ∧ Ov c = 0 ∧ (Am c ≠ 0 ∨ Ex c = (td : Int))
        · obtain ⟨L5, rfl⟩ : ∃ L5 : Nat, a3 = (L5 : Int) := ⟨a3.toNat, by omega⟩
          exact ll_exercise hC9 hi hik hcs hI hG kK e1 e2 e3 hcn hb.2.1 hzk (by omega) hb.1 hb.2.2
        · exact ll_exercise_S hC9 hi hik hcs hI hG kK e1 e2 e3 hr1 hr3 hzk hcn hx hb
      · exact ll_exercise_A hC9 hi hik hcs hI hG kK e1 e2 e3 hr1 hr3 hzk hcn hx
    · exact ll_exercise_2 hC9 hi hik hcs hI hG kK e1 e2 e3 hr1 hr2 hr3 hzk hc
  · exact ll_exercise_1 hC9 hi hik hcs hI hG kK e1 e2 e3 hr1 hr2 hr3 hw
theorem lm_contrary (hC9 : f_CC p l s m args meth c9 dC dI A cI cJ cZ cO es mi sa b L xs) (hi : i + 5 ≤ L) (hik : i = 5 * k) (hcs : cells + 8 ≤ 601024 ∧ slots + 80 ≤ 7293034) (hI : f_IV k td n pr up dn dv sd mo sh Ca K St Ex Am Ov Bi As Bj Aj BL AL He Co) (hG : f_LG cO es n ed cA GG) (kK : f_KK p l e s m args below meth c9 dC dI A Q ha ad cI cJ cZ cO o es b i k cells slots) : jj_W p l e room_1 s m args below meth c9 (dC, dI) vwCl A 8 cells slots Q 860 [(4, .int (iI (i : Int))), (3, .ref o), (2, .ref (ad 0)), (1, .ref (ha 0)), (0, .ref b)] [] (wH ha cA hA nA ed cI cJ cZ td pr up dn dv rw sd mc n mo sh co Ca Cz K St Ex Am Bi As BL AL He Co ++ ((o, .inl (cJ, 1, .inr (.inl (lA F)))) :: (GG ++ wM ad cI cJ cZ th td pr up dn dv n K St Ex Am Ov Bj Aj BL AL He Co Ca mo sh co sd Cz Ab be))) := by
  have hr1 := iR_of (xs (i + 1))
  generalize e1 : (xs (i + 1)).toInt = a1 at hr1
  have hr2 := iR_of (xs (i + 2))
  generalize e2 : (xs (i + 2)).toInt = a2 at hr2
  have hr3 := iR_of (xs (i + 3))
  generalize e3 : (xs (i + 3)).toInt = a3 at hr3
  obtain ⟨vb, hvb⟩ : ∃ vb : Int, (a3 ≠ 0 ∧ vb = 1) ∨ (a3 = 0 ∧ vb = 0) := by
    by_cases h : a3 = 0
    · exact ⟨0, by omega⟩
    · exact ⟨1, by omega⟩
  by_cases hc : 0 ≤ a1 ∧ a1 ≤ 5 ∧ 0 ≤ a2 ∧ a2 < (n : Int)
  · obtain ⟨c, rfl⟩ : ∃ c : Nat, a2 = (c : Int) := ⟨(a2).toNat, by omega⟩
    have hcn : c < n := by omega
    by_cases ho : Ov c = 0
    · obtain ⟨h5, rfl⟩ : ∃ h5 : Nat, a1 = (h5 : Int) := ⟨a1.toNat, by omega⟩
      exact ll_contrary hC9 hi hik hcs hI hG kK e1 e2 e3 hr3 hvb hcn ho (by omega)
    · exact ll_contrary_S hC9 hi hik hcs hI hG kK e1 e2 e3 hr3 hvb hcn ho ⟨hc.1, hc.2.1⟩
  · exact ll_contrary_I hC9 hi hik hcs hI hG kK e1 e2 e3 hr1 hr2 hr3 hvb hc
theorem lm_close (hC9 : f_CC p l s m args meth c9 dC dI A cI cJ cZ cO es mi sa b L xs) (hi : i + 5 ≤ L) (hik : i = 5 * k) (hcs : cells + 8 ≤ 601024 ∧ slots + 80 ≤ 7293034) (hI : f_IV k td n pr up dn dv sd mo sh Ca K St Ex Am Ov Bi As Bj Aj BL AL He Co) (hG : f_LG cO es n ed cA GG) (kK : f_KK p l e s m args below meth c9 dC dI A Q ha ad cI cJ cZ cO o es b i k cells slots) : jj_W p l e room_1 s m args below meth c9 (dC, dI) vwCl A 8 cells slots Q 963 [(4, .int (iI (i : Int))), (3, .ref o), (2, .ref (ad 0)), (1, .ref (ha 0)), (0, .ref b)] [] (wH ha cA hA nA ed cI cJ cZ td pr up dn dv rw sd mc n mo sh co Ca Cz K St Ex Am Bi As BL AL He Co ++ ((o, .inl (cJ, 1, .inr (.inl (lA F)))) :: (GG ++ wM ad cI cJ cZ th td pr up dn dv n K St Ex Am Ov Bj Aj BL AL He Co Ca mo sh co sd Cz Ab be))) := by
  have htd := hI.1.1
  by_cases hb : td < 200
  · exact ll_close hC9 hi hik hcs hI hG kK hb
  · exact ll_close_r hC9 hi hik hcs hI hG kK (by omega)
theorem lm_value (hC9 : f_CC p l s m args meth c9 dC dI A cI cJ cZ cO es mi sa b L xs) (hi : i + 5 ≤ L) (hik : i = 5 * k) (hcs : cells + 8 ≤ 601024 ∧ slots + 80 ≤ 7293034) (hI : f_IV k td n pr up dn dv sd mo sh Ca K St Ex Am Ov Bi As Bj Aj BL AL He Co) (hG : f_LG cO es n ed cA GG) (kK : f_KK p l e s m args below meth c9 dC dI A Q ha ad cI cJ cZ cO o es b i k cells slots) : jj_W p l e room_1 s m args below meth c9 (dC, dI) vwCl A 8 cells slots Q 1007 [(4, .int (iI (i : Int))), (3, .ref o), (2, .ref (ad 0)), (1, .ref (ha 0)), (0, .ref b)] [] (wH ha cA hA nA ed cI cJ cZ td pr up dn dv rw sd mc n mo sh co Ca Cz K St Ex Am Bi As BL AL He Co ++ ((o, .inl (cJ, 1, .inr (.inl (lA F)))) :: (GG ++ wM ad cI cJ cZ th td pr up dn dv n K St Ex Am Ov Bj Aj BL AL He Co Ca mo sh co sd Cz Ab be))) := by
  have hr1 := iR_of (xs (i + 1))
  generalize e1 : (xs (i + 1)).toInt = a1 at hr1
  have hr2 := iR_of (xs (i + 2))
  generalize e2 : (xs (i + 2)).toInt = a2 at hr2
  obtain ⟨vb, hvb⟩ : ∃ vb : Int, (a2 ≠ 0 ∧ vb = 1) ∨ (a2 = 0 ∧ vb = 0) := by
    by_cases h : a2 = 0
    · exact ⟨0, by omega⟩
    · exact ⟨1, by omega⟩
  by_cases hc : 0 ≤ a1 ∧ a1 < (n : Int)
  · obtain ⟨c, rfl⟩ : ∃ c : Nat, a1 = (c : Int) := ⟨(a1).toNat, by omega⟩
    exact ll_value hC9 hi hik hcs hI hG kK e1 e2 hr2 hvb (by omega)
  · exact ll_value_r hC9 hi hik hcs hI hG kK e1 e2 hr1 hr2 hvb hc
theorem lm_mark (hC9 : f_CC p l s m args meth c9 dC dI A cI cJ cZ cO es mi sa b L xs) (hi : i + 5 ≤ L) (hik : i = 5 * k) (hcs : cells + 8 ≤ 601024 ∧ slots + 80 ≤ 7293034) (hI : f_IV k td n pr up dn dv sd mo sh Ca K St Ex Am Ov Bi As Bj Aj BL AL He Co) (hG : f_LG cO es n ed cA GG) (kK : f_KK p l e s m args below meth c9 dC dI A Q ha ad cI cJ cZ cO o es b i k cells slots) : jj_W p l e room_1 s m args below meth c9 (dC, dI) vwCl A 8 cells slots Q 1090 [(4, .int (iI (i : Int))), (3, .ref o), (2, .ref (ad 0)), (1, .ref (ha 0)), (0, .ref b)] [] (wH ha cA hA nA ed cI cJ cZ td pr up dn dv rw sd mc n mo sh co Ca Cz K St Ex Am Bi As BL AL He Co ++ ((o, .inl (cJ, 1, .inr (.inl (lA F)))) :: (GG ++ wM ad cI cJ cZ th td pr up dn dv n K St Ex Am Ov Bj Aj BL AL He Co Ca mo sh co sd Cz Ab be))) := by
  have hr1 := iR_of (xs (i + 1))
  generalize e1 : (xs (i + 1)).toInt = a1 at hr1
  by_cases hc : 0 ≤ a1 ∧ a1 < (n : Int)
  · obtain ⟨c, rfl⟩ : ∃ c : Nat, a1 = (c : Int) := ⟨(a1).toNat, by omega⟩
    exact ll_mark hC9 hi hik hcs hI hG kK e1 (by omega)
  · exact ll_mark_r hC9 hi hik hcs hI hG kK e1 hr1 hc
theorem lm_markByWays (hC9 : f_CC p l s m args meth c9 dC dI A cI cJ cZ cO es mi sa b L xs) (hi : i + 5 ≤ L) (hik : i = 5 * k) (hcs : cells + 8 ≤ 601024 ∧ slots + 80 ≤ 7293034) (hI : f_IV k td n pr up dn dv sd mo sh Ca K St Ex Am Ov Bi As Bj Aj BL AL He Co) (hG : f_LG cO es n ed cA GG) (kK : f_KK p l e s m args below meth c9 dC dI A Q ha ad cI cJ cZ cO o es b i k cells slots) : jj_W p l e room_1 s m args below meth c9 (dC, dI) vwCl A 8 cells slots Q 1146 [(4, .int (iI (i : Int))), (3, .ref o), (2, .ref (ad 0)), (1, .ref (ha 0)), (0, .ref b)] [] (wH ha cA hA nA ed cI cJ cZ td pr up dn dv rw sd mc n mo sh co Ca Cz K St Ex Am Bi As BL AL He Co ++ ((o, .inl (cJ, 1, .inr (.inl (lA F)))) :: (GG ++ wM ad cI cJ cZ th td pr up dn dv n K St Ex Am Ov Bj Aj BL AL He Co Ca mo sh co sd Cz Ab be))) := by
  have hr1 := iR_of (xs (i + 1))
  generalize e1 : (xs (i + 1)).toInt = a1 at hr1
  by_cases hc : 0 ≤ a1 ∧ a1 < (n : Int)
  · obtain ⟨c, rfl⟩ : ∃ c : Nat, a1 = (c : Int) := ⟨(a1).toNat, by omega⟩
    exact ll_markByWays hC9 hi hik hcs hI hG kK e1 (by omega)
  · exact ll_markByWays_r hC9 hi hik hcs hI hG kK e1 hr1 hc
theorem lm_fault (hC9 : f_CC p l s m args meth c9 dC dI A cI cJ cZ cO es mi sa b L xs) (hi : i + 5 ≤ L) (hik : i = 5 * k) (hcs : cells + 8 ≤ 601024 ∧ slots + 80 ≤ 7293034) (hI : f_IV k td n pr up dn dv sd mo sh Ca K St Ex Am Ov Bi As Bj Aj BL AL He Co) (hG : f_LG cO es n ed cA GG) (kK : f_KK p l e s m args below meth c9 dC dI A Q ha ad cI cJ cZ cO o es b i k cells slots) : jj_W p l e room_1 s m args below meth c9 (dC, dI) vwCl A 8 cells slots Q 1202 [(4, .int (iI (i : Int))), (3, .ref o), (2, .ref (ad 0)), (1, .ref (ha 0)), (0, .ref b)] [] (wH ha cA hA nA ed cI cJ cZ td pr up dn dv rw sd mc n mo sh co Ca Cz K St Ex Am Bi As BL AL He Co ++ ((o, .inl (cJ, 1, .inr (.inl (lA F)))) :: (GG ++ wM ad cI cJ cZ th td pr up dn dv n K St Ex Am Ov Bj Aj BL AL He Co Ca mo sh co sd Cz Ab be))) := by
  exact ll_fault hC9 hi hik hcs hI hG kK
theorem lm_quoted (hC9 : f_CC p l s m args meth c9 dC dI A cI cJ cZ cO es mi sa b L xs) (hi : i + 5 ≤ L) (hik : i = 5 * k) (hcs : cells + 8 ≤ 601024 ∧ slots + 80 ≤ 7293034) (hI : f_IV k td n pr up dn dv sd mo sh Ca K St Ex Am Ov Bi As Bj Aj BL AL He Co) (hG : f_LG cO es n ed cA GG) (kK : f_KK p l e s m args below meth c9 dC dI A Q ha ad cI cJ cZ cO o es b i k cells slots) : jj_W p l e room_1 s m args below meth c9 (dC, dI) vwCl A 8 cells slots Q 1215 [(4, .int (iI (i : Int))), (3, .ref o), (2, .ref (ad 0)), (1, .ref (ha 0)), (0, .ref b)] [] (wH ha cA hA nA ed cI cJ cZ td pr up dn dv rw sd mc n mo sh co Ca Cz K St Ex Am Bi As BL AL He Co ++ ((o, .inl (cJ, 1, .inr (.inl (lA F)))) :: (GG ++ wM ad cI cJ cZ th td pr up dn dv n K St Ex Am Ov Bj Aj BL AL He Co Ca mo sh co sd Cz Ab be))) := by
  have hr1 := iR_of (xs (i + 1))
  generalize e1 : (xs (i + 1)).toInt = a1 at hr1
  have hr2 := iR_of (xs (i + 2))
  generalize e2 : (xs (i + 2)).toInt = a2 at hr2
  by_cases hc : 0 ≤ a1 ∧ a1 < (n : Int)
  · obtain ⟨c, rfl⟩ : ∃ c : Nat, a1 = (c : Int) := ⟨(a1).toNat, by omega⟩
    by_cases hx : 0 ≤ a2 ∧ a2 ≤ 3
    · exact ll_quoted hC9 hi hik hcs hI hG kK e1 e2 (by omega) hx
    · exact ll_quoted_A hC9 hi hik hcs hI hG kK e1 e2 hr2 (by omega) hx
  · exact ll_quoted_I hC9 hi hik hcs hI hG kK e1 e2 hr1 hr2 hc
theorem lm_lots (hC9 : f_CC p l s m args meth c9 dC dI A cI cJ cZ cO es mi sa b L xs) (hi : i + 5 ≤ L) (hik : i = 5 * k) (hcs : cells + 8 ≤ 601024 ∧ slots + 80 ≤ 7293034) (hI : f_IV k td n pr up dn dv sd mo sh Ca K St Ex Am Ov Bi As Bj Aj BL AL He Co) (hG : f_LG cO es n ed cA GG) (kK : f_KK p l e s m args below meth c9 dC dI A Q ha ad cI cJ cZ cO o es b i k cells slots) : jj_W p l e room_1 s m args below meth c9 (dC, dI) vwCl A 8 cells slots Q 1283 [(4, .int (iI (i : Int))), (3, .ref o), (2, .ref (ad 0)), (1, .ref (ha 0)), (0, .ref b)] [] (wH ha cA hA nA ed cI cJ cZ td pr up dn dv rw sd mc n mo sh co Ca Cz K St Ex Am Bi As BL AL He Co ++ ((o, .inl (cJ, 1, .inr (.inl (lA F)))) :: (GG ++ wM ad cI cJ cZ th td pr up dn dv n K St Ex Am Ov Bj Aj BL AL He Co Ca mo sh co sd Cz Ab be))) := by
  have hr1 := iR_of (xs (i + 1))
  generalize e1 : (xs (i + 1)).toInt = a1 at hr1
  have hr2 := iR_of (xs (i + 2))
  generalize e2 : (xs (i + 2)).toInt = a2 at hr2
  by_cases hw : -1 ≤ a1 ∧ a1 ≤ 5
  · obtain ⟨h5, hzk⟩ : ∃ h5 : Nat, (a1 = -1 ∧ h5 = 6) ∨ (a1 = (h5 : Int) ∧ h5 ≤ 5) := by
      by_cases h : a1 = -1
      · exact ⟨6, by omega⟩
      · exact ⟨(a1).toNat, by omega⟩
    by_cases hc : 0 ≤ a2 ∧ a2 < (n : Int)
    · obtain ⟨c, rfl⟩ : ∃ c : Nat, a2 = (c : Int) := ⟨(a2).toNat, by omega⟩
      exact ll_lots hC9 hi hik hcs hI hG kK e1 e2 hzk (by omega)
    · exact ll_lots_2 hC9 hi hik hcs hI hG kK e1 e2 hr1 hr2 hzk hc
  · exact ll_lots_1 hC9 hi hik hcs hI hG kK e1 e2 hr1 hr2 hw
theorem lm_cash (hC9 : f_CC p l s m args meth c9 dC dI A cI cJ cZ cO es mi sa b L xs) (hi : i + 5 ≤ L) (hik : i = 5 * k) (hcs : cells + 8 ≤ 601024 ∧ slots + 80 ≤ 7293034) (hI : f_IV k td n pr up dn dv sd mo sh Ca K St Ex Am Ov Bi As Bj Aj BL AL He Co) (hG : f_LG cO es n ed cA GG) (kK : f_KK p l e s m args below meth c9 dC dI A Q ha ad cI cJ cZ cO o es b i k cells slots) : jj_W p l e room_1 s m args below meth c9 (dC, dI) vwCl A 8 cells slots Q 1351 [(4, .int (iI (i : Int))), (3, .ref o), (2, .ref (ad 0)), (1, .ref (ha 0)), (0, .ref b)] [] (wH ha cA hA nA ed cI cJ cZ td pr up dn dv rw sd mc n mo sh co Ca Cz K St Ex Am Bi As BL AL He Co ++ ((o, .inl (cJ, 1, .inr (.inl (lA F)))) :: (GG ++ wM ad cI cJ cZ th td pr up dn dv n K St Ex Am Ov Bj Aj BL AL He Co Ca mo sh co sd Cz Ab be))) := by
  have hr1 := iR_of (xs (i + 1))
  generalize e1 : (xs (i + 1)).toInt = a1 at hr1
  by_cases hw : -1 ≤ a1 ∧ a1 ≤ 5
  · obtain ⟨h5, hzk⟩ : ∃ h5 : Nat, (a1 = -1 ∧ h5 = 6) ∨ (a1 = (h5 : Int) ∧ h5 ≤ 5) := by
      by_cases h : a1 = -1
      · exact ⟨6, by omega⟩
      · exact ⟨(a1).toNat, by omega⟩
    exact ll_cash hC9 hi hik hcs hI hG kK e1 hzk
  · exact ll_cash_r hC9 hi hik hcs hI hG kK e1 hr1 hw
theorem lm_worth (hC9 : f_CC p l s m args meth c9 dC dI A cI cJ cZ cO es mi sa b L xs) (hi : i + 5 ≤ L) (hik : i = 5 * k) (hcs : cells + 8 ≤ 601024 ∧ slots + 80 ≤ 7293034) (hI : f_IV k td n pr up dn dv sd mo sh Ca K St Ex Am Ov Bi As Bj Aj BL AL He Co) (hG : f_LG cO es n ed cA GG) (kK : f_KK p l e s m args below meth c9 dC dI A Q ha ad cI cJ cZ cO o es b i k cells slots) : jj_W p l e room_1 s m args below meth c9 (dC, dI) vwCl A 8 cells slots Q 1406 [(4, .int (iI (i : Int))), (3, .ref o), (2, .ref (ad 0)), (1, .ref (ha 0)), (0, .ref b)] [] (wH ha cA hA nA ed cI cJ cZ td pr up dn dv rw sd mc n mo sh co Ca Cz K St Ex Am Bi As BL AL He Co ++ ((o, .inl (cJ, 1, .inr (.inl (lA F)))) :: (GG ++ wM ad cI cJ cZ th td pr up dn dv n K St Ex Am Ov Bj Aj BL AL He Co Ca mo sh co sd Cz Ab be))) := by
  exact ll_worth hC9 hi hik hcs hI hG kK
theorem lm_cause (hC9 : f_CC p l s m args meth c9 dC dI A cI cJ cZ cO es mi sa b L xs) (hi : i + 5 ≤ L) (hik : i = 5 * k) (hcs : cells + 8 ≤ 601024 ∧ slots + 80 ≤ 7293034) (hI : f_IV k td n pr up dn dv sd mo sh Ca K St Ex Am Ov Bi As Bj Aj BL AL He Co) (hG : f_LG cO es n ed cA GG) (kK : f_KK p l e s m args below meth c9 dC dI A Q ha ad cI cJ cZ cO o es b i k cells slots) : jj_W p l e room_1 s m args below meth c9 (dC, dI) vwCl A 8 cells slots Q 1420 [(4, .int (iI (i : Int))), (3, .ref o), (2, .ref (ad 0)), (1, .ref (ha 0)), (0, .ref b)] [] (wH ha cA hA nA ed cI cJ cZ td pr up dn dv rw sd mc n mo sh co Ca Cz K St Ex Am Bi As BL AL He Co ++ ((o, .inl (cJ, 1, .inr (.inl (lA F)))) :: (GG ++ wM ad cI cJ cZ th td pr up dn dv n K St Ex Am Ov Bj Aj BL AL He Co Ca mo sh co sd Cz Ab be))) := by
  have hr1 := iR_of (xs (i + 1))
  generalize e1 : (xs (i + 1)).toInt = a1 at hr1
  by_cases hb : 0 ≤ a1 ∧ a1 ≤ 5
  · obtain ⟨h5, rfl⟩ : ∃ h5 : Nat, a1 = (h5 : Int) := ⟨a1.toNat, by omega⟩
    exact ll_cause hC9 hi hik hcs hI hG kK e1 (by omega)
  · exact ll_cause_r hC9 hi hik hcs hI hG kK e1 hr1 hb
theorem lm_worst (hC9 : f_CC p l s m args meth c9 dC dI A cI cJ cZ cO es mi sa b L xs) (hi : i + 5 ≤ L) (hik : i = 5 * k) (hcs : cells + 8 ≤ 601024 ∧ slots + 80 ≤ 7293034) (hI : f_IV k td n pr up dn dv sd mo sh Ca K St Ex Am Ov Bi As Bj Aj BL AL He Co) (hG : f_LG cO es n ed cA GG) (kK : f_KK p l e s m args below meth c9 dC dI A Q ha ad cI cJ cZ cO o es b i k cells slots) : jj_W p l e room_1 s m args below meth c9 (dC, dI) vwCl A 8 cells slots Q 1475 [(4, .int (iI (i : Int))), (3, .ref o), (2, .ref (ad 0)), (1, .ref (ha 0)), (0, .ref b)] [] (wH ha cA hA nA ed cI cJ cZ td pr up dn dv rw sd mc n mo sh co Ca Cz K St Ex Am Bi As BL AL He Co ++ ((o, .inl (cJ, 1, .inr (.inl (lA F)))) :: (GG ++ wM ad cI cJ cZ th td pr up dn dv n K St Ex Am Ov Bj Aj BL AL He Co Ca mo sh co sd Cz Ab be))) := by
  have hr1 := iR_of (xs (i + 1))
  generalize e1 : (xs (i + 1)).toInt = a1 at hr1
  by_cases hb : 0 ≤ a1 ∧ a1 ≤ 100
  · obtain ⟨m5, rfl⟩ : ∃ m5 : Nat, a1 = (m5 : Int) := ⟨a1.toNat, by omega⟩
    exact ll_worst hC9 hi hik hcs hI hG kK e1 (by omega)
  · exact ll_worst_r hC9 hi hik hcs hI hG kK e1 hr1 hb
/-- how the law ends -/
def f_EX (p : Program) (l : Launch) (e : Env) (s : State) (m : MethodId) (args : Array Value) (below : List Frame) (meth : Method) (c9 : Code) (dC : Nat → ClassId) (dI : Nat → Nat → Nat) (A : Nat → Prop) (Q : State → Prop) : Prop := ∀ (cells slots : Nat) (lv : List (Nat × Value)) (ws : va_W), cells ≤ 601024 → slots ≤ 7293034 → jj_W p l e room_1 s m args below meth c9 (dC, dI) vwCl A 8 cells slots Q 1537 lv [.int (iI 1)] ws
set_option maxHeartbeats 4000000 in
set_option maxRecDepth 100000 in
theorem law_loop (hC9 : f_CC p l s m args meth c9 dC dI A cI cJ cZ cO es mi sa b L xs) (hX9 : f_EX p l e s m args below meth c9 dC dI A Q) : ∀ (r : Nat) (cA hA nA : Nat → Nat) (ed : Nat) (rw F : Nat → Int) (mc : Int) (GG : va_W) (th be : Int) (Ab : Nat → Int) (td : Nat) (pr up dn : Int) (dv : Nat → Int) (sd : Int) (n : Nat) (mo sh co : Int) (Ca Cz K St Ex Am Ov Bi As Bj Aj BL AL He Co : Nat → Int) (i k cells slots : Nat), L < i + r → i = 5 * k → i ≤ L → f_IV k td n pr up dn dv sd mo sh Ca K St Ex Am Ov Bi As Bj Aj BL AL He Co → f_LG cO es n ed cA GG → cells ≤ 100 + 8 * k → slots ≤ 2000 + 80 * k → jj_W p l e room_1 s m args below meth c9 (dC, dI) vwCl A 8 cells slots Q 23 [(4, .int (iI (i : Int))), (3, .ref o), (2, .ref (ad 0)), (1, .ref (ha 0)), (0, .ref b)] [] (wH ha cA hA nA ed cI cJ cZ td pr up dn dv rw sd mc n mo sh co Ca Cz K St Ex Am Bi As BL AL He Co ++ ((o, .inl (cJ, 1, .inr (.inl (lA F)))) :: (GG ++ wM ad cI cJ cZ th td pr up dn dv n K St Ex Am Ov Bj Aj BL AL He Co Ca mo sh co sd Cz Ab be))) := by
  obtain ⟨C0, hl, hX, hbl, hbA, hL⟩ := id hC9
  have hw := C0.2.2.2.2.1
  intro r
  induction r with
  | zero => intros; omega
  | succ r ih =>
    intro cA hA nA ed rw F mc GG th be Ab td pr up dn dv sd n mo sh co Ca Cz K St Ex Am Ov Bi As Bj Aj BL AL He Co i k cells slots hr hik hiL hI hG hc1 hc2
    refine jj_iload C0 0 rfl dL_law_23 ?_
    refine jj_aload_n C0 4 rfl dL_law_25 ?_
    refine jj_slen C0 hX hbl hbA hL dL_law_26 ?_
    refine jj_iconst C0 dL_law_27 ?_
    refine jj_isub C0 dL_law_28 ?_
    refine jj_icmp_gt C0 (by omega) (by omega) dL_law_29 (tgt := 1536) (by decide) (fun hend => ?_) (fun hgo => ?_)
    · refine jj_iconst C0 dL_law_1536 ?_
      exact hX9 _ _ _ _ (by omega) (by omega)
    have hi5 : i + 5 ≤ L := by omega
    have hcs : cells + 8 ≤ 601024 ∧ slots + 80 ≤ 7293034 := by omega
    have kK : f_KK p l e s m args below meth c9 dC dI A Q ha ad cI cJ cZ cO o es b i k cells slots := by
      intro cA hA nA ed rw F mc GG th be Ab td pr up dn dv sd n mo sh co Ca Cz K St Ex Am Ov Bi As Bj Aj BL AL He Co cells' slots' hI' hG' h1 h2
      refine jj_iinc C0 (z := ((i + 5 : Nat) : Int)) (lv' := [(4, .int (iI ((i + 5 : Nat) : Int))), (3, .ref o), (2, .ref (ad 0)), (1, .ref (ha 0)), (0, .ref b)]) 0 rfl (by omega) (by decide) rfl dL_law_1530 ?_
      refine jj_goto C0 (tgt := 23) dL_law_1533 (by decide) ?_
      exact ih cA hA nA ed rw F mc GG th be Ab td pr up dn dv sd n mo sh co Ca Cz K St Ex Am Ov Bi As Bj Aj BL AL He Co (i + 5) (k + 1) cells' slots' (by omega) (by omega) (by omega) hI' hG' (by omega) (by omega)
    refine jj_aload_n C0 4 rfl dL_law_32 ?_
    refine jj_iload C0 0 rfl dL_law_33 ?_
    refine jj_sald C0 hX hbl hbA hL (k := i) rfl (by omega) dL_law_35 ?_
    refine jj_bipush C0 dL_law_36 (by decide) ?_
    refine jj_iand31 C0 dL_law_38 ?_
    have hz := f_op_bd (xs i).toInt
    generalize f_op (xs i).toInt = z at hz ⊢
    by_cases h23 : 22 < z
    · refine jj_tabD C0 (tgt := 1530) (by omega) dL_law_39 (Or.inr h23) (by decide) ?_
      exact kK cA hA nA ed rw F mc GG th be Ab td pr up dn dv sd n mo sh co Ca Cz K St Ex Am Ov Bi As Bj Aj BL AL He Co cells slots (f_IV_k hI) hG (by omega) (by omega)
    rcases (by omega : z = 0 ∨ z = 1 ∨ z = 2 ∨ z = 3 ∨ z = 4 ∨ z = 5 ∨ z = 6 ∨ z = 7 ∨ z = 8 ∨ z = 9 ∨ z = 10 ∨ z = 11 ∨ z = 12 ∨ z = 13 ∨ z = 14 ∨ z = 15 ∨ z = 16 ∨ z = 17 ∨ z = 18 ∨ z = 19 ∨ z = 20 ∨ z = 21 ∨ z = 22) with rfl | rfl | rfl | rfl | rfl | rfl | rfl | rfl | rfl | rfl | rfl | rfl | rfl | rfl | rfl | rfl | rfl | rfl | rfl | rfl | rfl | rfl | rfl
    · exact jj_tab C0 (tgt := 144) (k := 0) (by omega) dL_law_39 (by decide) (by decide) rfl (by decide) (lm_steps hC9 hi5 hik hcs hI hG kK)
    · exact jj_tab C0 (tgt := 192) (k := 1) (by omega) dL_law_39 (by decide) (by decide) rfl (by decide) (lm_move hC9 hi5 hik hcs hI hG kK)
    · exact jj_tab C0 (tgt := 247) (k := 2) (by omega) dL_law_39 (by decide) (by decide) rfl (by decide) (lm_dividend hC9 hi5 hik hcs hI hG kK)
    · exact jj_tab C0 (tgt := 315) (k := 3) (by omega) dL_law_39 (by decide) (by decide) rfl (by decide) (lm_contract hC9 hi5 hik hcs hI hG kK)
    · exact jj_tab C0 (tgt := 423) (k := 4) (by omega) dL_law_39 (by decide) (by decide) rfl (by decide) (lm_quote hC9 hi5 hik hcs hI hG kK)
    · exact jj_tab C0 (tgt := 515) (k := 5) (by omega) dL_law_39 (by decide) (by decide) rfl (by decide) (lm_kill hC9 hi5 hik hcs hI hG kK)
    · exact jj_tab C0 (tgt := 528) (k := 6) (by omega) dL_law_39 (by decide) (by decide) rfl (by decide) (lm_limit hC9 hi5 hik hcs hI hG kK)
    · exact jj_tab C0 (tgt := 584) (k := 7) (by omega) dL_law_39 (by decide) (by decide) rfl (by decide) (lm_order hC9 hi5 hik hcs hI hG kK)
    · exact jj_tab C0 (tgt := 676) (k := 8) (by omega) dL_law_39 (by decide) (by decide) rfl (by decide) (lm_hedge hC9 hi5 hik hcs hI hG kK)
    · exact jj_tab C0 (tgt := 744) (k := 9) (by omega) dL_law_39 (by decide) (by decide) rfl (by decide) (lm_seed hC9 hi5 hik hcs hI hG kK)
    · exact jj_tab C0 (tgt := 780) (k := 10) (by omega) dL_law_39 (by decide) (by decide) rfl (by decide) (lm_exercise hC9 hi5 hik hcs hI hG kK)
    · exact jj_tab C0 (tgt := 860) (k := 11) (by omega) dL_law_39 (by decide) (by decide) rfl (by decide) (lm_contrary hC9 hi5 hik hcs hI hG kK)
    · exact jj_tab C0 (tgt := 963) (k := 12) (by omega) dL_law_39 (by decide) (by decide) rfl (by decide) (lm_close hC9 hi5 hik hcs hI hG kK)
    · exact jj_tab C0 (tgt := 1007) (k := 13) (by omega) dL_law_39 (by decide) (by decide) rfl (by decide) (lm_value hC9 hi5 hik hcs hI hG kK)
    · exact jj_tab C0 (tgt := 1090) (k := 14) (by omega) dL_law_39 (by decide) (by decide) rfl (by decide) (lm_mark hC9 hi5 hik hcs hI hG kK)
    · exact jj_tab C0 (tgt := 1146) (k := 15) (by omega) dL_law_39 (by decide) (by decide) rfl (by decide) (lm_markByWays hC9 hi5 hik hcs hI hG kK)
    · exact jj_tab C0 (tgt := 1202) (k := 16) (by omega) dL_law_39 (by decide) (by decide) rfl (by decide) (lm_fault hC9 hi5 hik hcs hI hG kK)
    · exact jj_tab C0 (tgt := 1215) (k := 17) (by omega) dL_law_39 (by decide) (by decide) rfl (by decide) (lm_quoted hC9 hi5 hik hcs hI hG kK)
    · exact jj_tab C0 (tgt := 1283) (k := 18) (by omega) dL_law_39 (by decide) (by decide) rfl (by decide) (lm_lots hC9 hi5 hik hcs hI hG kK)
    · exact jj_tab C0 (tgt := 1351) (k := 19) (by omega) dL_law_39 (by decide) (by decide) rfl (by decide) (lm_cash hC9 hi5 hik hcs hI hG kK)
    · exact jj_tab C0 (tgt := 1406) (k := 20) (by omega) dL_law_39 (by decide) (by decide) rfl (by decide) (lm_worth hC9 hi5 hik hcs hI hG kK)
    · exact jj_tab C0 (tgt := 1420) (k := 21) (by omega) dL_law_39 (by decide) (by decide) rfl (by decide) (lm_cause hC9 hi5 hik hcs hI hG kK)
    · exact jj_tab C0 (tgt := 1475) (k := 22) (by omega) dL_law_39 (by decide) (by decide) rfl (by decide) (lm_worst hC9 hi5 hik hcs hI hG kK)
end CC27
