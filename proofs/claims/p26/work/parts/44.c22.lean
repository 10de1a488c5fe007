section CC22
theorem f_isF_of {F : Int → Nat → Nat → Prop} {n : Nat} {u : Int} (hk : ∀ c o k, F k c o → 1 ≤ k ∧ k ≤ 4) {S1 S2 S3 S4 : Prop} (e1 : S1 ↔ ∃ c o, c < n ∧ o < n ∧ F 1 c o) (e2 : S2 ↔ ∃ c o, c < n ∧ o < n ∧ F 2 c o) (e3 : S3 ↔ ∃ c o, c < n ∧ o < n ∧ F 3 c o) (e4 : S4 ↔ ∃ c o, c < n ∧ o < n ∧ F 4 c o)
    (h : (u = 1 ∧ S1) ∨ (u = 2 ∧ ¬ S1 ∧ S2) ∨ (u = 3 ∧ ¬ S1 ∧ ¬ S2 ∧ S3) ∨ (u = 4 ∧ ¬ S1 ∧ ¬ S2 ∧ ¬ S3 ∧ S4) ∨ (u = 0 ∧ ¬ S1 ∧ ¬ S2 ∧ ¬ S3 ∧ ¬ S4)) : f_isF F n u := by
  have no : ∀ (c o : Nat) (k : Int), c < n → o < n → F k c o → (k = 1 ∧ S1) ∨ (k = 2 ∧ S2) ∨ (k = 3 ∧ S3) ∨ (k = 4 ∧ S4) := by
    intro c o k hc ho hf
    obtain ⟨a, b⟩ := hk c o k hf
    rcases (by omega : k = 1 ∨ k = 2 ∨ k = 3 ∨ k = 4) with rfl | rfl | rfl | rfl
    · exact Or.inl ⟨rfl, e1.mpr ⟨c, o, hc, ho, hf⟩⟩
    · exact Or.inr (Or.inl ⟨rfl, e2.mpr ⟨c, o, hc, ho, hf⟩⟩)
    · exact Or.inr (Or.inr (Or.inl ⟨rfl, e3.mpr ⟨c, o, hc, ho, hf⟩⟩))
    · exact Or.inr (Or.inr (Or.inr ⟨rfl, e4.mpr ⟨c, o, hc, ho, hf⟩⟩))
  rcases h with ⟨rfl, s⟩ | ⟨rfl, n1, s⟩ | ⟨rfl, n1, n2, s⟩ | ⟨rfl, n1, n2, n3, s⟩ | ⟨rfl, n1, n2, n3, n4⟩
  · refine Or.inr ⟨by omega, by omega, e1.mp s, fun c o k hc ho hf => ?_⟩
    have := hk c o k hf
    omega
  · refine Or.inr ⟨by omega, by omega, e2.mp s, fun c o k hc ho hf => ?_⟩
    rcases no c o k hc ho hf with ⟨rfl, q⟩ | ⟨rfl, q⟩ | ⟨rfl, q⟩ | ⟨rfl, q⟩
    · exact absurd q n1
    · omega
    · omega
    · omega
  · refine Or.inr ⟨by omega, by omega, e3.mp s, fun c o k hc ho hf => ?_⟩
    rcases no c o k hc ho hf with ⟨rfl, q⟩ | ⟨rfl, q⟩ | ⟨rfl, q⟩ | ⟨rfl, q⟩
    · exact absurd q n1
    · exact absurd q n2
    · omega
    · omega
  · refine Or.inr ⟨by omega, by omega, e4.mp s, fun c o k hc ho hf => ?_⟩
    rcases no c o k hc ho hf with ⟨rfl, q⟩ | ⟨rfl, q⟩ | ⟨rfl, q⟩ | ⟨rfl, q⟩
    · exact absurd q n1
    · exact absurd q n2
    · exact absurd q n3
    · omega
  · refine Or.inl ⟨rfl, fun c o k hc ho hf => ?_⟩
    rcases no c o k hc ho hf with ⟨rfl, q⟩ | ⟨rfl, q⟩ | ⟨rfl, q⟩ | ⟨rfl, q⟩
    · exact n1 q
    · exact n2 q
    · exact n3 q
    · exact n4 q
theorem f_F_k {n : Nat} {K St Ex Am Ov Bi As BL AL : Nat → Int} {k : Int} {c o : Nat} (h : f_F n K St Ex Am Ov Bi As BL AL k c o) : 1 ≤ k ∧ k ≤ 4 := by
  obtain ⟨-, -, h⟩ := h
  rcases h with ⟨rfl, -⟩ | ⟨rfl, -⟩ | ⟨rfl, -⟩ | ⟨rfl, -⟩ <;> omega
variable {n : Nat} {K St Ex Am Ov Bi As BL AL Bj Aj : Nat → Int}
/-- the two sides' quotes: alike where both bid and ask stand -/
def f_qq (n : Nat) (Ov Bi As BL AL Bj Aj : Nat → Int) : Prop := ∀ c, c < n → 0 < BL c → 0 < AL c → Ov c = 0 ∧ Bi c = Bj c ∧ As c = Aj c
theorem f_tie1 (hq : f_qq n Ov Bi As BL AL Bj Aj) : (∃ a, a < n ∧ ((0 < BL a ∧ 0 < AL a) ∧ As a ≤ Bi a)) ↔ ∃ c o, c < n ∧ o < n ∧ f_F n K St Ex Am Ov Bj Aj BL AL 1 c o := by
  constructor
  · rintro ⟨a, ha, ⟨h1, h2⟩, h3⟩
    obtain ⟨g1, g2, g3⟩ := hq a ha h1 h2
    exact ⟨a, a, ha, ha, ⟨g1, h1, h2⟩, ⟨g1, h1, h2⟩, Or.inl ⟨rfl, rfl, by omega⟩⟩
  · rintro ⟨c, o, hc, ho, ⟨a1, a2, a3⟩, -, h⟩
    obtain ⟨g1, g2, g3⟩ := hq c hc a2 a3
    rcases h with ⟨-, -, h⟩ | ⟨h, -⟩ | ⟨h, -⟩ | ⟨h, -⟩
    · exact ⟨c, hc, ⟨a2, a3⟩, by omega⟩
    · exact absurd h (by decide)
    · exact absurd h (by decide)
    · exact absurd h (by decide)
theorem f_tie2 (hq : f_qq n Ov Bi As BL AL Bj Aj) (hK : ∀ j, 0 ≤ K j ∧ K j ≤ 1) : (∃ a b, a < n ∧ b < n ∧ (((0 < BL a ∧ 0 < AL a) ∧ (0 < BL b ∧ 0 < AL b) ∧ St a < St b ∧ K a = K b ∧ Ex a = Ex b ∧ Am a = Am b) ∧ ((K a = 0 ∧ As a < Bi b) ∨ (K a ≠ 0 ∧ As b < Bi a)))) ↔ ∃ c o, c < n ∧ o < n ∧ f_F n K St Ex Am Ov Bj Aj BL AL 2 c o := by
  constructor
  · rintro ⟨a, b, ha, hb, ⟨⟨h1, h2⟩, ⟨h3, h4⟩, h5, h6, h7, h8⟩, h9⟩
    obtain ⟨g1, g2, g3⟩ := hq a ha h1 h2
    obtain ⟨k1, k2, k3⟩ := hq b hb h3 h4
    rcases h9 with ⟨z, h9⟩ | ⟨z, h9⟩
    · exact ⟨b, a, hb, ha, ⟨k1, h3, h4⟩, ⟨g1, h1, h2⟩, Or.inr (Or.inl ⟨rfl, ⟨h6.symm, h8.symm, h7.symm, by omega⟩, Or.inl ⟨by omega, h5⟩, by omega⟩)⟩
    · exact ⟨a, b, ha, hb, ⟨g1, h1, h2⟩, ⟨k1, h3, h4⟩, Or.inr (Or.inl ⟨rfl, ⟨h6, h8, h7, by omega⟩, Or.inr ⟨z, h5⟩, by omega⟩)⟩
  · rintro ⟨c, o, hc, ho, ⟨a1, a2, a3⟩, ⟨b1, b2, b3⟩, h⟩
    obtain ⟨g1, g2, g3⟩ := hq c hc a2 a3
    obtain ⟨k1, k2, k3⟩ := hq o ho b2 b3
    rcases h with ⟨h, -⟩ | ⟨-, ⟨q1, q2, q3, q4⟩, h, h9⟩ | ⟨h, -⟩ | ⟨h, -⟩
    · exact absurd h (by decide)
    · rcases h with ⟨z, h⟩ | ⟨z, h⟩
      · exact ⟨o, c, ho, hc, ⟨⟨b2, b3⟩, ⟨a2, a3⟩, h, q1.symm, q3.symm, q2.symm⟩, Or.inl ⟨by omega, by omega⟩⟩
      · exact ⟨c, o, hc, ho, ⟨⟨a2, a3⟩, ⟨b2, b3⟩, h, q1, q3, q2⟩, Or.inr ⟨z, by omega⟩⟩
    · exact absurd h (by decide)
    · exact absurd h (by decide)
theorem f_tie3 (hq : f_qq n Ov Bi As BL AL Bj Aj) : (∃ a b, a < n ∧ b < n ∧ ∃ d, d < n ∧ (((0 < BL a ∧ 0 < AL a) ∧ (0 < BL b ∧ 0 < AL b) ∧ St a < St b ∧ K a = K b ∧ Ex a = Ex b ∧ Am a = Am b) ∧ ((0 < BL b ∧ 0 < AL b) ∧ (0 < BL d ∧ 0 < AL d) ∧ St b < St d ∧ K b = K d ∧ Ex b = Ex d ∧ Am b = Am d) ∧ St b - St a = St d - St b ∧ As a + As d < 2 * Bi b)) ↔ ∃ c o, c < n ∧ o < n ∧ f_F n K St Ex Am Ov Bj Aj BL AL 3 c o := by
  constructor
  · rintro ⟨a, b, ha, hb, d, hd, ⟨⟨h1, h2⟩, ⟨h3, h4⟩, h5, h6, h7, h8⟩, ⟨-, ⟨i3, i4⟩, i5, i6, i7, i8⟩, h9, h10⟩
    obtain ⟨g1, g2, g3⟩ := hq a ha h1 h2
    obtain ⟨k1, k2, k3⟩ := hq b hb h3 h4
    obtain ⟨l1, l2, l3⟩ := hq d hd i3 i4
    exact ⟨b, a, hb, ha, ⟨k1, h3, h4⟩, ⟨g1, h1, h2⟩, Or.inr (Or.inr (Or.inl ⟨rfl, d, hd, ⟨⟨l1, i3, i4⟩, ⟨h6.symm, h8.symm, h7.symm, by omega⟩, ⟨i6, i8, i7, by omega⟩, by omega, by omega⟩, by omega⟩))⟩
  · rintro ⟨c, o, hc, ho, ⟨a1, a2, a3⟩, ⟨b1, b2, b3⟩, h⟩
    obtain ⟨g1, g2, g3⟩ := hq c hc a2 a3
    obtain ⟨k1, k2, k3⟩ := hq o ho b2 b3
    rcases h with ⟨h, -⟩ | ⟨h, -⟩ | ⟨-, p, hp, ⟨⟨r1, r2, r3⟩, ⟨q1, q2, q3, q4⟩, ⟨s1, s2, s3, s4⟩, h5, h6⟩, h9⟩ | ⟨h, -⟩
    · exact absurd h (by decide)
    · exact absurd h (by decide)
    · obtain ⟨l1, l2, l3⟩ := hq p hp r2 r3
      exact ⟨o, c, ho, hc, p, hp, ⟨⟨b2, b3⟩, ⟨a2, a3⟩, by omega, q1.symm, q3.symm, q2.symm⟩, ⟨⟨a2, a3⟩, ⟨r2, r3⟩, by omega, s1, s3, s2⟩, by omega, by omega⟩
    · exact absurd h (by decide)
theorem f_tie4 (hq : f_qq n Ov Bi As BL AL Bj Aj) (hAm : ∀ j, 0 ≤ Am j ∧ Am j ≤ 1) : (∃ a b, a < n ∧ b < n ∧ ((0 < BL a ∧ 0 < AL a) ∧ (0 < BL b ∧ 0 < AL b) ∧ Ex a < Ex b ∧ Am a ≠ 0 ∧ Am b ≠ 0 ∧ K a = K b ∧ St a = St b ∧ As b < Bi a)) ↔ ∃ c o, c < n ∧ o < n ∧ f_F n K St Ex Am Ov Bj Aj BL AL 4 c o := by
  constructor
  · rintro ⟨a, b, ha, hb, ⟨h1, h2⟩, ⟨h3, h4⟩, h5, h6, h7, h8, h9, h10⟩
    obtain ⟨g1, g2, g3⟩ := hq a ha h1 h2
    obtain ⟨k1, k2, k3⟩ := hq b hb h3 h4
    have ma := hAm a
    have mb := hAm b
    exact ⟨a, b, ha, hb, ⟨g1, h1, h2⟩, ⟨k1, h3, h4⟩, Or.inr (Or.inr (Or.inr ⟨rfl, h6, ⟨h8, by omega, h9, by omega⟩, h5, by omega⟩))⟩
  · rintro ⟨c, o, hc, ho, ⟨a1, a2, a3⟩, ⟨b1, b2, b3⟩, h⟩
    obtain ⟨g1, g2, g3⟩ := hq c hc a2 a3
    obtain ⟨k1, k2, k3⟩ := hq o ho b2 b3
    rcases h with ⟨h, -⟩ | ⟨h, -⟩ | ⟨h, -⟩ | ⟨-, z, ⟨q1, q2, q3, q4⟩, h5, h9⟩
    · exact absurd h (by decide)
    · exact absurd h (by decide)
    · exact absurd h (by decide)
    · exact ⟨c, o, hc, ho, ⟨a2, a3⟩, ⟨b2, b3⟩, h5, z, by omega, q1, q3, by omega⟩
/-- the class's first fault is the reference's -/
theorem f_tie {u r : Int} (hq : f_qq n Ov Bi As BL AL Bj Aj) (hK : ∀ j, 0 ≤ K j ∧ K j ≤ 1) (hAm : ∀ j, 0 ≤ Am j ∧ Am j ≤ 1) (hr : f_isF (f_F n K St Ex Am Ov Bj Aj BL AL) n r) (h : (u = 1 ∧ (∃ a, a < n ∧ ((0 < BL a ∧ 0 < AL a) ∧ As a ≤ Bi a))) ∨ (u = 2 ∧ ¬ (∃ a, a < n ∧ ((0 < BL a ∧ 0 < AL a) ∧ As a ≤ Bi a)) ∧ (∃ a b, a < n ∧ b < n ∧ (((0 < BL a ∧ 0 < AL a) ∧ (0 < BL b ∧ 0 < AL b) ∧ St a < St b ∧ K a = K b ∧ Ex a = Ex b ∧ Am a = Am b) ∧ ((K a = 0 ∧ As a < Bi b) ∨ (K a ≠ 0 ∧ As b < Bi a))))) ∨ (u = 3 ∧ ¬ (∃ a, a < n ∧ ((0 < BL a ∧ 0 < AL a) ∧ As a ≤ Bi a)) ∧ ¬ (∃ a b, a < n ∧ b < n ∧ (((0 < BL a ∧ 0 < AL a) ∧ (0 < BL b ∧ 0 < AL b) ∧ St a < St b ∧ K a = K b ∧ Ex a = Ex b ∧ Am a = Am b) ∧ ((K a = 0 ∧ As a < Bi b) ∨ (K a ≠ 0 ∧ As b < Bi a)))) ∧ (∃ a b, a < n ∧ b < n ∧ ∃ d, d < n ∧ (((0 < BL a ∧ 0 < AL a) ∧ (0 < BL b ∧ 0 < AL b) ∧ St a < St b ∧ K a = K b ∧ Ex a = Ex b ∧ Am a = Am b) ∧ ((0 < BL b ∧ 0 < AL b) ∧ (0 < BL d ∧ 0 < AL d) ∧ St b < St d ∧ K b = K d ∧ Ex b = Ex d ∧ Am b = Am d) ∧ St b - St a = St d - St b ∧ As a + As d < 2 * Bi b))) ∨ (u = 4 ∧ ¬ (∃ a, a < n ∧ ((0 < BL a ∧ 0 < AL a) ∧ As a ≤ Bi a)) ∧ ¬ (∃ a b, a < n ∧ b < n ∧ (((0 < BL a ∧ 0 < AL a) ∧ (0 < BL b ∧ 0 < AL b) ∧ St a < St b ∧ K a = K b ∧ Ex a = Ex b ∧ Am a = Am b) ∧ ((K a = 0 ∧ As a < Bi b) ∨ (K a ≠ 0 ∧ As b < Bi a)))) ∧ ¬ (∃ a b, a < n ∧ b < n ∧ ∃ d, d < n ∧ (((0 < BL a ∧ 0 < AL a) ∧ (0 < BL b ∧ 0 < AL b) ∧ St a < St b ∧ K a = K b ∧ Ex a = Ex b ∧ Am a = Am b) ∧ ((0 < BL b ∧ 0 < AL b) ∧ (0 < BL d ∧ 0 < AL d) ∧ St b < St d ∧ K b = K d ∧ Ex b = Ex d ∧ Am b = Am d) ∧ St b - St a = St d - St b ∧ As a + As d < 2 * Bi b)) ∧ (∃ a b, a < n ∧ b < n ∧ ((0 < BL a ∧ 0 < AL a) ∧ (0 < BL b ∧ 0 < AL b) ∧ Ex a < Ex b ∧ Am a ≠ 0 ∧ Am b ≠ 0 ∧ K a = K b ∧ St a = St b ∧ As b < Bi a))) ∨ (u = 0 ∧ ¬ (∃ a, a < n ∧ ((0 < BL a ∧ 0 < AL a) ∧ As a ≤ Bi a)) ∧ ¬ (∃ a b, a < n ∧ b < n ∧ (((0 < BL a ∧ 0 < AL a) ∧ (0 < BL b ∧ 0 < AL b) ∧ St a < St b ∧ K a = K b ∧ Ex a = Ex b ∧ Am a = Am b) ∧ ((K a = 0 ∧ As a < Bi b) ∨ (K a ≠ 0 ∧ As b < Bi a)))) ∧ ¬ (∃ a b, a < n ∧ b < n ∧ ∃ d, d < n ∧ (((0 < BL a ∧ 0 < AL a) ∧ (0 < BL b ∧ 0 < AL b) ∧ St a < St b ∧ K a = K b ∧ Ex a = Ex b ∧ Am a = Am b) ∧ ((0 < BL b ∧ 0 < AL b) ∧ (0 < BL d ∧ 0 < AL d) ∧ St b < St d ∧ K b = K d ∧ Ex b = Ex d ∧ Am b = Am d) ∧ St b - St a = St d - St b ∧ As a + As d < 2 * Bi b)) ∧ ¬ (∃ a b, a < n ∧ b < n ∧ ((0 < BL a ∧ 0 < AL a) ∧ (0 < BL b ∧ 0 < AL b) ∧ Ex a < Ex b ∧ Am a ≠ 0 ∧ Am b ≠ 0 ∧ K a = K b ∧ St a = St b ∧ As b < Bi a)))) : u = r :=
  f_isF_one (f_isF_of (fun _ _ _ => f_F_k) (f_tie1 hq) (f_tie2 hq hK) (f_tie3 hq) (f_tie4 hq hAm) h) hr
end CC22
