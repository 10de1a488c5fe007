section CC22
theorem f_isF_of {F : Int → Nat → Nat → Prop} {n : Nat} {u : Int} (hk : ∀ c o k, F k c o → 1 ≤ k ∧ k ≤ 4) {S1 S2 S3 S4 : Prop} (e1 : S1 ↔ ∃ c o, c < n ∧ o < n ∧ F 1 c o) (e2 : S2 ↔ ∃ c o, c < n ∧ o < n ∧ F 2 c o) (e3 : S3 ↔ ∃ c o, c < n ∧ o < n ∧ F 3 c o) (e4 : S4 ↔ ∃ c o, c < n ∧ o < n ∧ F 4 c o)
    (h : (u = 1 ∧ S1) ∨ (u = 2 ∧ ¬ S1 ∧ S2) ∨ (u = 3 ∧ ¬ S1 ∧ ¬ S2 ∧ S3) ∨ (u = 4 ∧ ¬ S1 ∧ ¬ S2 ∧ ¬ S3 ∧ S4) ∨ (u = 0 ∧ ¬ S1 ∧ ¬ S2 ∧ ¬ S3 ∧ ¬ S4)) : f_isF F n u := by
  have no : ∀ (c o : Nat) (k : Int), c < n → o < n → F k c o → (k = 1 ∧ S1) ∨ (k = 2 ∧ S2) ∨ (k = 3 ∧ S3) ∨ (k = 4 ∧ S4) := by
    intro c o k hc ho hf
    obtain ⟨a, b⟩ := hk c o k hf
    rcases (by omega : k = 1 ∨ k = 2 ∨ k = 3 ∨ k = 4) with rfl | rfl | rfl | rfl
    · exact Or.inl ⟨rfl, e1.mpr ⟨c, o, hc, ho, hf⟩⟩
    · exact Or.inr (Or.inl ⟨rfl, e2.mpr ⟨c, o, hc, ho, hf⟩⟩)
    · exact Or.inr (Or.inr (Or.inl ⟨rfl, e3.mpr ⟨c, o, hc, ho, hf⟩⟩))
    · exact Or.inr (Or.inr (Or.inr ⟨rfl, e4.mpr ⟨c, o, hc, ho, hf⟩⟩))
  rcases h with ⟨rfl, s⟩ | ⟨rfl, n1, s⟩ | ⟨rfl, n1, n2, s⟩ | ⟨rfl, n1, n2, n3, s⟩ | ⟨rfl, n1, n2, n3, n4⟩
  · refine Or.inr ⟨by omega, by omega, e1.mp s, fun c o k hc ho hf => ?_⟩
    have := hk c o k hf
    omega
  · refine Or.inr ⟨by omega, by omega, e2.mp s, fun c o k hc ho hf => ?_⟩
    rcases no c o k hc ho hf with ⟨rfl, q⟩ | ⟨rfl, q⟩ | ⟨rfl, q⟩ | ⟨rfl, q⟩
    · exact absurd q n1
    · omega
    · omega
    · omega
  · refine Or.inr ⟨by omega, by omega, e3.mp s, fun c o k hc ho hf => ?_⟩
    rcases no c o k hc ho hf with ⟨rfl, q⟩ | ⟨rfl, q⟩ | ⟨rfl, q⟩ | ⟨rfl, q⟩
    · exact absurd q n1
    · exact absurd q n2
    · omega
    · omega
  · refine Or.inr ⟨by omega, by omega, e4.mp s, fun c o k hc ho hf => ?_⟩
    rcases no c o k hc ho hf with ⟨rfl, q⟩ | ⟨rfl, q⟩ | ⟨rfl, q⟩ | ⟨rfl, q⟩
    · exact absurd q n1
    · exact absurd q n2
    · exact absurd q n3
    · omega
  · refine Or.inl ⟨rfl, fun c o k hc ho hf => ?_⟩
    rcases no c o k hc ho hf with ⟨rfl, q⟩ | ⟨rfl, q⟩ | ⟨rfl, q⟩ | ⟨rfl, q⟩
    · exact n1 q
    · exact n2 q
    · exact n3 q
    · exact n4 q
theorem f_F_k {n : Nat} {K St Ex Am Ov Bi As BL AL : Nat → Int} {k : Int} {c o : Nat} (h : f_F n K St Ex Am Ov Bi As BL AL k c o) : 1 ≤ k ∧ k ≤ 4 := by
  obtain ⟨-, -, h⟩ := h
  rcases h with ⟨rfl, -⟩ | ⟨rfl, -⟩ | ⟨rfl, -⟩ | ⟨rfl, -⟩ <;> omega
variable {n : Nat} {K St Ex Am Ov Bi As BL AL Bj Aj : Nat → Int}
/-- the two sides' quotes: alike where both bid and ask stand -/
def f_qq (n : Nat) (Ov Bi As BL AL Bj Aj : Nat → Int) : Prop := ∀ c, c < n → 0 < BL c → 0 < AL c → Ov c = 0 ∧ Bi c = Bj c ∧ As c = Aj c
theorem f_tie1 (hq : f_qq n Ov Bi As BL AL Bj Aj) : (∃ a, a < n ∧ ((0 < BL a ∧ 0 < AL a) ∧ As a ≤ Bi a)) ↔ ∃ c o, c < n ∧ o < n ∧ f_F n K St Ex Am Ov Bj Aj BL AL 1 c o := by
  constructor
  · rintro ⟨a, ha, ⟨h1, h2⟩, h3⟩
    obtain ⟨g1, g2, g3⟩ := hq a ha h1 h2
    exact ⟨a, a, ha, ha, ⟨g1, h1, h2⟩, ⟨g1, h1, h2⟩, Or.inl ⟨rfl, rfl, by omega⟩⟩
  · rintro ⟨c, o, hc, ho, ⟨a1, a2, a3⟩, -, h⟩
    obtain ⟨g1, g2, g3⟩ := hq c hc a2 a3
    rcases h with ⟨-, -, h⟩ | ⟨h, -⟩ | ⟨h, -⟩ | ⟨h, -⟩
    · exact ⟨c, hc, ⟨a2, a3⟩, by omega⟩
    · exact absurd h (by decide)
    · exact absurd h (by decide)
    · exact absurd h (by decide)
theorem f_tie2 (hq : f_qq n Ov Bi As BL AL Bj Aj) (hK : ∀ j, 0 ≤ K j ∧ K j ≤ 1) : (∃ a b, a < n ∧ b < n ∧ (((0 < BL a ∧ 0 < AL a) ∧ (0 < BL b ∧ 0 < AL b) ∧ St a < St b ∧ K a = K b ∧ Ex a = Ex b ∧ Am a = Am b) ∧ ((K a = 0 ∧ As a < Bi b) ∨ (K a ≠ 0 ∧ As b < Bi a)))) ↔ ∃ c o, c < n ∧ o < n ∧ f_F n K St Ex Am Ov Bj Aj BL AL 2 c o := by
  constructor
  · rintro ⟨a, b, ha, hb, ⟨⟨h1, h2⟩, ⟨h3, h4⟩, h5, h6, h7, h8⟩, h9⟩
    obtain ⟨g1, g2, g3⟩ := hq a ha h1 h2
    obtain ⟨k1, k2, k3⟩ := hq b hb h3 h4
    rcases h9 with ⟨z, h9⟩ | ⟨z, h9⟩
    · exact ⟨b, a, hb, ha, ⟨k1, h3, h4⟩, ⟨g1, h1, h2⟩, Or.inr (Or.inl ⟨rfl, ⟨h6.symm, h8.symm, h7.symm, by omega⟩, Or.inl ⟨by omega, h5⟩, by omega⟩)⟩
    · exact ⟨a, b, ha, hb, ⟨g1, h1, h2⟩, ⟨k1, h3, h4⟩, Or.inr (Or.inl ⟨rfl, ⟨h6, h8, h7, by omega⟩, Or.inr ⟨z, h5⟩, by omega⟩)⟩
  · rintro ⟨c, o, hc, ho, ⟨a1, a2, a3⟩, ⟨b1, b2, b3⟩, h⟩
    obtain ⟨g1, g2, g3⟩ := hq c hc a2 a3
    obtain ⟨k1, k2, k3⟩ := hq o ho b2 b3
    rcases h with ⟨h, -⟩ | ⟨-, ⟨q1, q2, q3, q4⟩, h, h9⟩ | ⟨h, -⟩ | ⟨h, -⟩
    · exact absurd h (by decide)
    · rcases h with ⟨z, h⟩ | ⟨z, h⟩
      · exact ⟨o, c, ho, hc, ⟨⟨b2, b3⟩, ⟨a2, a3⟩, h, q1.symm, q3.symm, q2.symm⟩, Or.inl ⟨by omega, by omega⟩⟩
      · exact ⟨c, o, hc, ho, ⟨⟨a2, a3⟩, ⟨b2, b3⟩, h, q1, q3, q2⟩, Or.inr ⟨z, by omega⟩⟩
    · exact absurd h (by decide)
    · exact absurd h (by decide)
end CC22
