/-! more of what is reckoned, for the class -/
theorem up_up (f : Nat → Int) (k : Nat) (a b : Int) : va_up (va_up f k a) k b = va_up f k b := by
  funext j
  simp only [va_up]
  split <;> rfl
theorem up_comm (f : Nat → Int) {k j : Nat} (a b : Int) (h : k ≠ j) : va_up (va_up f k a) j b = va_up (va_up f j b) k a := by
  funext i
  simp only [va_up]
  by_cases e : i = j
  · subst e; rw [if_pos rfl, if_neg (by omega), if_pos rfl]
  · rw [if_neg e, if_neg e]
theorem f_price_up (up dn : Int) (dv : Nat → Int) (t : Nat) (fr : Int) (d k : Nat) : f_price up dn dv t fr d 0 + (k : Int) * (10 * (up + dn)) = f_price up dn dv t fr d k := by
  simp only [f_price, f_pb]
  have e1 : (k : Int) * (10 * (up + dn)) = 10 * up * k + 10 * dn * k := by
    rw [Int.mul_add, Int.mul_add, Int.mul_comm (k : Int) (10 * up), Int.mul_comm (k : Int) (10 * dn)]
  rw [e1, Int.mul_sub, Int.mul_sub]
  simp
  omega
theorem f_price_dn (up dn : Int) (dv : Nat → Int) (t : Nat) (fr : Int) (d : Nat) : f_price up dn dv t fr (d + 1) 0 = f_price up dn dv t fr d 0 - (10 * dn + dv (t + 1 + d)) := by
  simp only [f_price, f_pb, f_dsum]
  have e1 : 10 * dn * (((d + 1 : Nat) : Int) - ((0 : Nat) : Int)) = 10 * dn * ((d : Int) - ((0 : Nat) : Int)) + 10 * dn := by
    rw [show (((d + 1 : Nat) : Int) - ((0 : Nat) : Int)) = ((d : Int) - ((0 : Nat) : Int)) + 1 by omega, Int.mul_add, Int.mul_one]
  rw [e1]
  omega
theorem f_price_00 (up dn : Int) (dv : Nat → Int) (t : Nat) (fr : Int) : f_price up dn dv t fr 0 0 = fr := by
  simp [f_price, f_pb, f_dsum]
theorem f_ow_max (He : Nat → Int) (c h : Nat) : f_ow He c (h + 1) = f_ow He c h + max 0 (-He (7 * c + h)) := by
  simp only [f_ow]
  split <;> omega
theorem f_xHe_sw {He : Nat → Int} {c k h : Nat} (hne : h ≠ k) : va_up (va_up He (7 * c + k) (He (7 * c + k) + -1)) (7 * c + h) ((va_up He (7 * c + k) (He (7 * c + k) + -1)) (7 * c + h) + 1) = f_xHe He c k h := by
  unfold f_xHe
  rw [va_up_ne He _ (show 7 * c + h ≠ 7 * c + k by omega), va_up_ne He _ (show 7 * c + k ≠ 7 * c + h by omega), up_comm He _ _ (show 7 * c + k ≠ 7 * c + h by omega)]
  rfl
theorem f_xCa_sw {Ca : Nat → Int} {k h : Nat} {br : Int} (hne : h ≠ k) : va_up (va_up Ca k (Ca k + 1000 * br)) h ((va_up Ca k (Ca k + 1000 * br)) h + -(1000 * br)) = f_xCa Ca k h br := by
  unfold f_xCa
  rw [va_up_ne Ca _ hne, va_up_ne Ca _ (Ne.symm hne), up_comm Ca _ _ (Ne.symm hne)]
  rfl
theorem f_exH_0 {Co : Nat → Int} {c : Nat} {br : Int} (hb : ¬ 0 < br) (s : (Nat → Int) × (Nat → Int) × Int) : ∀ h, f_exH Co c br h s = s
  | 0 => rfl
  | h + 1 => by
    simp only [f_exH]
    rw [f_exH_0 hb s h]
    unfold f_lot
    rw [if_neg (fun q => hb q.1)]
    rfl
/-- the places of those that expire today are 0 -/
def f_gone (Ex : Nat → Int) (t i : Nat) (F : Nat → Int) : Nat → Int := fun j => if j < i ∧ Ex j = (t : Int) then 0 else F j
theorem f_gone_0 (Ex : Nat → Int) (t : Nat) (F : Nat → Int) : f_gone Ex t 0 F = F := by
  funext j
  unfold f_gone
  rw [if_neg (by omega)]
theorem f_gone_up {Ex : Nat → Int} {t i : Nat} {F : Nat → Int} (h : Ex i = (t : Int)) : va_up (f_gone Ex t i F) i 0 = f_gone Ex t (i + 1) F := by
  funext j
  simp only [va_up, f_gone]
  by_cases e : j = i
  · subst e; rw [if_pos rfl, if_pos ⟨by omega, h⟩]
  · rw [if_neg e]
    by_cases g : j < i ∧ Ex j = (t : Int)
    · rw [if_pos g, if_pos (by omega)]
    · rw [if_neg g, if_neg (by omega)]
theorem f_gone_no {Ex : Nat → Int} {t i : Nat} {F : Nat → Int} (h : Ex i ≠ (t : Int)) : f_gone Ex t i F = f_gone Ex t (i + 1) F := by
  funext j
  simp only [f_gone]
  by_cases e : j = i
  · subst e; rw [if_neg (by omega), if_neg (by omega)]
  · by_cases g : j < i ∧ Ex j = (t : Int)
    · rw [if_pos g, if_pos (by omega)]
    · rw [if_neg g, if_neg (by omega)]
theorem f_cl_q {K St Ex Co : Nat → Int} {pr : Int} {t : Nat} {s : f_T} (h1 : ∀ j, 0 ≤ s.2.2.1 j ∧ s.2.2.1 j ≤ 100) (h2 : ∀ j, 0 ≤ s.2.2.2 j ∧ s.2.2.2 j ≤ 100) : ∀ i, (∀ j, 0 ≤ (f_cl K St Ex Co pr t i s).2.2.1 j ∧ (f_cl K St Ex Co pr t i s).2.2.1 j ≤ 100) ∧ ∀ j, 0 ≤ (f_cl K St Ex Co pr t i s).2.2.2 j ∧ (f_cl K St Ex Co pr t i s).2.2.2 j ≤ 100
  | 0 => ⟨h1, h2⟩
  | i + 1 => by
    have h := f_cl_q h1 h2 (K := K) (St := St) (Ex := Ex) (Co := Co) (pr := pr) (t := t) i
    simp only [f_cl]
    split
    · exact ⟨up_bd h.1 (by omega), up_bd h.2 (by omega)⟩
    · exact h
/-! Euclid's way ends in time -/
theorem f_mod_half {p q : Int} (hp : 0 ≤ p) (hq : 0 < q) (h : q < p) : 0 ≤ p % q ∧ p % q < q ∧ q * (p % q) * 2 ≤ p * q := by
  have h1 := Int.emod_nonneg p (show q ≠ 0 by omega)
  have h2 := Int.emod_lt_of_pos p hq
  refine ⟨h1, h2, ?_⟩
  have h3 : 1 ≤ p / q := by
    have := Int.ediv_le_ediv (c := q) (by omega) (show q ≤ p by omega)
    rwa [Int.ediv_self (by omega)] at this
  have h4 := Int.emod_add_mul_ediv p q
  have h5 : q * 1 ≤ q * (p / q) := Int.mul_le_mul_of_nonneg_left h3 (by omega)
  have h6 : p % q * 2 ≤ p := by omega
  have h7 : q * (p % q * 2) ≤ q * p := Int.mul_le_mul_of_nonneg_left h6 (by omega)
  rw [Int.mul_comm p q, Int.mul_assoc]
  exact h7
/-- what holds in Euclid's way behind i rounds -/
def f_eu (a b : Int) (i : Nat) (p q : Int) : Prop := (0 ≤ p ∧ p ≤ 1024000000000000000) ∧ (0 ≤ q ∧ q ≤ 10240000000000) ∧ f_g p q = f_g a b ∧ (i = 0 ∨ (q < p ∧ p * q * 2 ^ i ≤ 2 ^ 90))
theorem f_eu_0 {a b : Int} (ha : 0 ≤ a ∧ a ≤ 1024000000000000000) (hb : 1 ≤ b ∧ b ≤ 10240000000000) : f_eu a b 0 a b := ⟨ha, by omega, rfl, Or.inl rfl⟩
theorem f_eu_1 {a b p q : Int} {i : Nat} (h : f_eu a b i p q) (hq : 0 < q) : f_eu a b (i + 1) q (p % q) := by
  obtain ⟨hp, hq1, hg, hi⟩ := h
  have h1 := Int.emod_nonneg p (show q ≠ 0 by omega)
  have h2 := Int.emod_lt_of_pos p hq
  refine ⟨by omega, by omega, by rw [f_g_mod hp.1 hq]; exact hg, Or.inr ⟨h2, ?_⟩⟩
  rcases hi with rfl | ⟨h3, h4⟩
  · have h5 := f_mul_bd (a := q) (A := 10240000000000) (b := p % q) (B := 10240000000000) (by omega) (by omega) h1 (by omega)
    have h6 : (2 : Int) ^ (0 + 1) = 2 := by decide
    have h7 : (2 : Int) ^ 90 = 1237940039285380274899124224 := by decide
    rw [h6, h7]
    generalize q * (p % q) = z at *
    omega
  · have h5 := (f_mod_half hp.1 hq h3).2.2
    have h6 : (0 : Int) ≤ 2 ^ i := Int.pow_nonneg (by decide)
    have h7 := Int.mul_le_mul_of_nonneg_right h5 h6
    rw [Int.pow_succ, Int.mul_comm (2 ^ i) 2, ← Int.mul_assoc]
    generalize p * q * 2 ^ i = z at *
    omega
theorem f_eu_end {a b p q : Int} (h : f_eu a b 100 p q) : q = 0 := by
  obtain ⟨hp, hq1, hg, hi⟩ := h
  rcases hi with h | ⟨h3, h4⟩
  · omega
  · by_cases e : q = 0
    · exact e
    · exfalso
      have h5 : 1 * 1 ≤ p * q := Int.mul_le_mul (by omega) (by omega) (by omega) (by omega)
      have h6 : (2 : Int) ^ 100 = 1267650600228229401496703205376 := by decide
      have h7 : (2 : Int) ^ 90 = 1237940039285380274899124224 := by decide
      rw [h6, h7] at h4
      generalize p * q = z at *
      omega
theorem f_g_comm (a b : Int) : f_g a b = f_g b a := by
  unfold f_g
  rw [Nat.gcd_comm]
theorem f_pr_up {up dn : Int} {dv : Nat → Int} {t : Nat} {fr : Int} {d k : Nat} : f_price up dn dv t fr d k - dv (t + 1 + d) + 10 * up = f_price up dn dv t fr (d + 1) (k + 1) := by
  simp only [f_price, f_pb, f_dsum]
  have e1 : 10 * up * ((k + 1 : Nat) : Int) = 10 * up * (k : Int) + 10 * up := by
    rw [show ((k + 1 : Nat) : Int) = (k : Int) + 1 by omega, Int.mul_add, Int.mul_one]
  rw [e1, show (((d + 1 : Nat) : Int) - ((k + 1 : Nat) : Int)) = (d : Int) - (k : Int) by omega]
  omega
theorem f_pr_dn {up dn : Int} {dv : Nat → Int} {t : Nat} {fr : Int} {d k : Nat} : f_price up dn dv t fr d k - dv (t + 1 + d) - 10 * dn = f_price up dn dv t fr (d + 1) k := by
  simp only [f_price, f_pb, f_dsum]
  have e1 : 10 * dn * (((d + 1 : Nat) : Int) - (k : Int)) = 10 * dn * ((d : Int) - (k : Int)) + 10 * dn := by
    rw [show (((d + 1 : Nat) : Int) - (k : Int)) = ((d : Int) - (k : Int)) + 1 by omega, Int.mul_add, Int.mul_one]
  rw [e1]
  omega
theorem up_q {f : Nat → Int} {k : Nat} {P : Prop} [Decidable P] (h : P ∨ f k = 0) : va_up f k (if P then f k else 0) = f := by
  by_cases g : P
  · rw [if_pos g, up_id]
  · rw [if_neg g, show (0 : Int) = f k from (h.resolve_left g).symm, up_id]
theorem up_z {f : Nat → Int} {k : Nat} (h : f k = 0) : va_up f k 0 = f := by
  rw [show (0 : Int) = f k from h.symm, up_id]
