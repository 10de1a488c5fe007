section INV
/-! what holds between the calls of the law: Bi As are the class's bids and asks, Bj Aj the reference's -/
def f_iA (td n : Nat) (pr up dn : Int) (dv : Nat → Int) (sd mo sh : Int) : Prop := td ≤ 200 ∧ n ≤ 12 ∧ (0 ≤ pr ∧ pr ≤ 20000) ∧ (1 ≤ up ∧ up ≤ 10) ∧ (1 ≤ dn ∧ dn ≤ 10) ∧ (∀ j, 0 ≤ dv j ∧ dv j ≤ 1000) ∧ (0 ≤ sd ∧ sd ≤ 2147483647) ∧ (0 ≤ mo ∧ mo ≤ 1000) ∧ (-100000 ≤ sh ∧ sh ≤ 100000)
def f_iC (td n : Nat) (K St Ex Am Ov : Nat → Int) : Prop := (∀ j, 0 ≤ K j ∧ K j ≤ 1) ∧ (∀ j, 0 ≤ St j ∧ St j ≤ 20000) ∧ (∀ j, 0 ≤ Ex j ∧ Ex j ≤ 200) ∧ (∀ j, 0 ≤ Am j ∧ Am j ≤ 1) ∧ (∀ j, 0 ≤ Ov j ∧ Ov j ≤ 1) ∧ (∀ c, c < n → (Ov c = 1 ∧ Ex c < (td : Int)) ∨ (Ov c = 0 ∧ (td : Int) ≤ Ex c)) ∧ (∀ c, c < n → Ex c ≤ (td : Int) + 10 ∧ Ex c ≤ 200) ∧ (∀ c, n ≤ c → Ov c = 0)
def f_iQ (n : Nat) (Ov Bi As Bj Aj BL AL : Nat → Int) : Prop := (∀ j, 0 ≤ Bi j ∧ Bi j ≤ 20000) ∧ (∀ j, 0 ≤ As j ∧ As j ≤ 20000) ∧ (∀ j, 0 ≤ Bj j ∧ Bj j ≤ 20000) ∧ (∀ j, 0 ≤ Aj j ∧ Aj j ≤ 20000) ∧ (∀ j, 0 ≤ BL j ∧ BL j ≤ 100) ∧ (∀ j, 0 ≤ AL j ∧ AL j ≤ 100) ∧ (∀ c, 0 < BL c ∨ 0 < AL c → Bi c = Bj c ∧ As c = Aj c) ∧ (∀ c, (0 < BL c ∨ 0 < AL c) ∨ (Bi c = 0 ∧ As c = 0)) ∧ (∀ c, n ≤ c → BL c = 0 ∧ AL c = 0) ∧ (∀ c, Ov c ≠ 0 → BL c = 0 ∧ AL c = 0)
def f_iH (k n : Nat) (He : Nat → Int) : Prop := (∀ j, -(100 * (k : Int)) ≤ He j ∧ He j ≤ 100 * (k : Int)) ∧ (∀ c, c < n → f_s7 He c 7 = 0) ∧ (∀ j, 7 * n ≤ j → He j = 0)
def f_iN (n : Nat) (Co : Nat → Int) : Prop := (∀ j, 0 ≤ Co j ∧ Co j ≤ 1) ∧ (∀ j, 7 * n ≤ j → Co j = 0)
def f_iM (k : Nat) (Ca : Nat → Int) : Prop := ∀ j, -(100000000000000 * (k : Int)) ≤ Ca j ∧ Ca j ≤ 100000000000000 * (k : Int)
def f_IV (k td n : Nat) (pr up dn : Int) (dv : Nat → Int) (sd mo sh : Int) (Ca K St Ex Am Ov Bi As Bj Aj BL AL He Co : Nat → Int) : Prop := f_iA td n pr up dn dv sd mo sh ∧ f_iC td n K St Ex Am Ov ∧ f_iQ n Ov Bi As Bj Aj BL AL ∧ f_iH k n He ∧ f_iN n Co ∧ f_iM k Ca
variable {k td n : Nat} {pr up dn : Int} {dv : Nat → Int} {sd mo sh : Int} {Ca K St Ex Am Ov Bi As Bj Aj BL AL He Co : Nat → Int}
theorem f_iH_k (h : f_iH k n He) : f_iH (k + 1) n He := ⟨fun j => by have := h.1 j; omega, h.2⟩
theorem f_iM_k (h : f_iM k Ca) : f_iM (k + 1) Ca := fun j => by have := h j; omega
theorem f_IV_k (h : f_IV k td n pr up dn dv sd mo sh Ca K St Ex Am Ov Bi As Bj Aj BL AL He Co) : f_IV (k + 1) td n pr up dn dv sd mo sh Ca K St Ex Am Ov Bi As Bj Aj BL AL He Co := ⟨h.1, h.2.1, h.2.2.1, f_iH_k h.2.2.2.1, h.2.2.2.2.1, f_iM_k h.2.2.2.2.2⟩
theorem f_IV_0 : f_IV 0 0 0 10000 10 10 (fun _ => 0) 0 100 0 (fun _ => 0) (fun _ => 0) (fun _ => 0) (fun _ => 0) (fun _ => 0) (fun _ => 0) (fun _ => 0) (fun _ => 0) (fun _ => 0) (fun _ => 0) (fun _ => 0) (fun _ => 0) (fun _ => 0) (fun _ => 0) := by
  unfold f_IV f_iA f_iC f_iQ f_iH f_iN f_iM
  dsimp only
  refine ⟨⟨by omega, by omega, by omega, by omega, by omega, fun _ => by omega, by omega, by omega, by omega⟩, ⟨fun _ => by omega, fun _ => by omega, fun _ => by omega, fun _ => by omega, fun _ => by omega, fun c hc => by omega, fun c hc => by omega, fun _ _ => rfl⟩, ⟨fun _ => by omega, fun _ => by omega, fun _ => by omega, fun _ => by omega, fun _ => by omega, fun _ => by omega, fun _ _ => ⟨rfl, rfl⟩, fun _ => Or.inr ⟨rfl, rfl⟩, fun _ _ => ⟨rfl, rfl⟩, fun _ _ => ⟨rfl, rfl⟩⟩, ⟨fun _ => by omega, fun c hc => by omega, fun _ _ => rfl⟩, ⟨fun _ => by omega, fun _ _ => rfl⟩, fun _ => by omega⟩
theorem f_pays_pr {ki st pr : Int} (hst : 0 ≤ st ∧ st ≤ 20000) (hp : 0 ≤ pr ∧ pr ≤ 20000) : 0 ≤ f_pays ki st pr ∧ f_pays ki st pr ≤ 20000 := by
  unfold f_pays
  split <;> omega
/-! a new contract -/
theorem f_up_n {n : Nat} {F : Nat → Int} {v : Int} {P : Nat → Int → Prop} (h : ∀ c, c < n → P c (F c)) (hv : P n v) : ∀ c, c < n + 1 → P c (va_up F n v c) := fun c hc => by
  by_cases e : c = n
  · subst e; rw [va_up_self]; exact hv
  · rw [va_up_ne _ _ e]; exact h c (by omega)
theorem f_IV_contract {x y z v : Int} (h : f_IV k td n pr up dn dv sd mo sh Ca K St Ex Am Ov Bi As Bj Aj BL AL He Co) (hn : n < 12) (hx : 0 ≤ x ∧ x ≤ 1) (hy : 0 ≤ y ∧ y ≤ 20000) (hz : (td : Int) ≤ z ∧ z ≤ (td : Int) + 10 ∧ z ≤ 200) (hv : v = 0 ∨ v = 1) : f_IV (k + 1) td (n + 1) pr up dn dv sd mo sh Ca (va_up K n x) (va_up St n y) (va_up Ex n z) (va_up Am n v) Ov Bi As Bj Aj BL AL He Co := by
  obtain ⟨hA, hC, hQ, hH, hN, hM⟩ := h
  obtain ⟨c1, c2, c3, c4, c5, c6, c7, c8⟩ := hC
  obtain ⟨q1, q2, q3, q4, q5, q6, q7, q8, q9, q10⟩ := hQ
  refine ⟨⟨hA.1, hn, hA.2.2⟩, ⟨up_bd c1 hx, up_bd c2 hy, up_bd c3 (by omega), up_bd c4 (by omega), c5, ?_, ?_, fun c hc => c8 c (by omega)⟩, ⟨q1, q2, q3, q4, q5, q6, q7, q8, fun c hc => q9 c (by omega), q10⟩, ⟨(f_iH_k hH).1, fun c hc => ?_, fun j hj => hH.2.2 j (by omega)⟩, ⟨hN.1, fun j hj => hN.2 j (by omega)⟩, f_iM_k hM⟩
  · exact f_up_n (P := fun c e => (Ov c = 1 ∧ e < (td : Int)) ∨ (Ov c = 0 ∧ (td : Int) ≤ e)) c6 (Or.inr ⟨c8 n (Nat.le_refl _), hz.1⟩)
  · exact f_up_n (P := fun c e => e ≤ (td : Int) + 10 ∧ e ≤ 200) c7 hz.2
  · by_cases e : c = n
    · subst e
      exact f_s7_zero 7 (fun q hq => hH.2.2 _ (by omega))
    · exact hH.2.1 c (by omega)
/-! quotes -/
theorem f_IV_quote {c : Nat} {x y z : Int} (h : f_IV k td n pr up dn dv sd mo sh Ca K St Ex Am Ov Bi As Bj Aj BL AL He Co) (hc : c < n) (hx : 0 ≤ x ∧ x ≤ 20000) (hy : 0 ≤ y ∧ y ≤ 20000) (hz : 0 ≤ z ∧ z ≤ 100) (hov : Ov c = 0) : f_IV (k + 1) td n pr up dn dv sd mo sh Ca K St Ex Am Ov (va_up Bi c (if 0 < z then x else 0)) (va_up As c (if 0 < z then y else 0)) (va_up Bj c x) (va_up Aj c y) (va_up BL c z) (va_up AL c z) He Co := by
  obtain ⟨hA, hC, hQ, hH, hN, hM⟩ := h
  obtain ⟨q1, q2, q3, q4, q5, q6, q7, q8, q9, q10⟩ := hQ
  refine ⟨hA, hC, ⟨up_bd q1 (by split <;> omega), up_bd q2 (by split <;> omega), up_bd q3 hx, up_bd q4 hy, up_bd q5 hz, up_bd q6 hz, fun d hd => ?_, fun d => ?_, fun d hd => ?_, fun d hd => ?_⟩, f_iH_k hH, hN, f_iM_k hM⟩
  · by_cases e : d = c
    · subst e
      simp only [va_up_self] at hd ⊢
      have g : 0 < z := by omega
      rw [if_pos g, if_pos g]
      exact ⟨rfl, rfl⟩
    · simp only [va_up_ne _ _ e] at hd ⊢
      exact q7 d hd
  · by_cases e : d = c
    · subst e
      simp only [va_up_self]
      by_cases g : 0 < z
      · exact Or.inl (Or.inl g)
      · rw [if_neg g, if_neg g]; exact Or.inr ⟨rfl, rfl⟩
    · simp only [va_up_ne _ _ e]
      exact q8 d
  · have e : d ≠ c := by omega
    simp only [va_up_ne _ _ e]
    exact q9 d hd
  · have e : d ≠ c := fun e => hd (by rw [e]; exact hov)
    simp only [va_up_ne _ _ e]
    exact q10 d hd
theorem f_IV_kill (h : f_IV k td n pr up dn dv sd mo sh Ca K St Ex Am Ov Bi As Bj Aj BL AL He Co) : f_IV (k + 1) td n pr up dn dv sd mo sh Ca K St Ex Am Ov (f_zero Bi n) (f_zero As n) Bj Aj (f_zero BL n) (f_zero AL n) He Co := by
  obtain ⟨hA, hC, hQ, hH, hN, hM⟩ := h
  obtain ⟨q1, q2, q3, q4, q5, q6, q7, q8, q9, q10⟩ := hQ
  refine ⟨hA, hC, ⟨f_zero_bd q1 (by omega) n, f_zero_bd q2 (by omega) n, q3, q4, f_zero_bd q5 (by omega) n, f_zero_bd q6 (by omega) n, fun d hd => ?_, fun d => ?_, fun d hd => ?_, fun d hd => ?_⟩, f_iH_k hH, hN, f_iM_k hM⟩
  · unfold f_zero at hd ⊢
    by_cases e : d < n
    · rw [if_pos e, if_pos e] at hd; omega
    · rw [if_neg e, if_neg e] at hd ⊢; exact q7 d hd
  · unfold f_zero
    by_cases e : d < n
    · rw [if_pos e, if_pos e, if_pos e, if_pos e]; exact Or.inr ⟨rfl, rfl⟩
    · rw [if_neg e, if_neg e, if_neg e, if_neg e]; exact q8 d
  · unfold f_zero
    rw [if_neg (by omega), if_neg (by omega)]
    exact q9 d hd
  · unfold f_zero
    by_cases e : d < n
    · rw [if_pos e, if_pos e]; exact ⟨rfl, rfl⟩
    · rw [if_neg e, if_neg e]; exact q10 d hd
theorem f_qq_of (h : f_iQ n Ov Bi As Bj Aj BL AL) : f_qq n Ov Bi As BL AL Bj Aj := fun c _ h1 h2 => by
  obtain ⟨q1, q2, q3, q4, q5, q6, q7, q8, q9, q10⟩ := h
  refine ⟨?_, q7 c (Or.inl h1)⟩
  by_cases e : Ov c = 0
  · exact e
  · have := (q10 c e).1
    omega
theorem f_tie_quoted {c : Nat} {x : Int} (h : f_iQ n Ov Bi As Bj Aj BL AL) : (if 0 < BL c + AL c then (if x = 0 then Bj c else if x = 1 then Aj c else if x = 2 then BL c else AL c) else 0) = (if x = 0 then Bi c else if x = 1 then As c else if x = 2 then BL c else AL c) := by
  obtain ⟨q1, q2, q3, q4, q5, q6, q7, q8, q9, q10⟩ := h
  have b1 := q5 c
  have b2 := q6 c
  by_cases g : 0 < BL c + AL c
  · rw [if_pos g]
    obtain ⟨e1, e2⟩ := q7 c (by omega)
    rw [e1, e2]
  · rw [if_neg g]
    rcases q8 c with e | ⟨e1, e2⟩
    · omega
    · rw [e1, e2]
      (repeat' split) <;> omega
/-! orders -/
theorem f_iH_order {c h5 : Nat} {q : Int} (h : f_iH k n He) (hc : c < n) (hk : h5 ≤ 5) (hq : -100 ≤ q ∧ q ≤ 100) : f_iH (k + 1) n (f_dHe He c h5 q) := by
  obtain ⟨h1, h2, h3⟩ := h
  refine ⟨fun j => ?_, fun d hd => ?_, fun j hj => ?_⟩
  · have a1 := h1 (7 * c + h5)
    have a2 := h1 (7 * c + 6)
    have a3 := h1 j
    simp only [f_dHe, va_up]
    (repeat' split) <;> omega
  · by_cases e : d = c
    · subst e
      have a := h2 d hd
      unfold f_dHe
      rw [f_s7_up, f_s7_up, if_pos (by omega), if_pos (by omega)]
      omega
    · rw [f_s7_congr (He := He) 7 (fun p hp => ?_)]
      · exact h2 d hd
      · unfold f_dHe
        rw [va_up_ne _ _ (by omega), va_up_ne _ _ (by omega)]
  · unfold f_dHe
    rw [va_up_ne _ _ (by omega), va_up_ne _ _ (by omega)]
    exact h3 j hj
theorem f_iM_order {h5 : Nat} {p q : Int} (h : f_iM k Ca) (hp : 0 ≤ p ∧ p ≤ 20000) (hq : -100 ≤ q ∧ q ≤ 100) : f_iM (k + 1) (f_dCa Ca h5 p q) := by
  have b := f_mul_bd (a := p) (A := 20000) (b := q + 100) (B := 200) hp.1 hp.2 (by omega) (by omega)
  rw [Int.mul_add] at b
  intro j
  have a1 := h h5
  have a2 := h 6
  have a3 := h j
  unfold f_dCa
  rw [Int.mul_assoc 1000 p q]
  generalize p * q = w at *
  simp only [va_up]
  (repeat' split) <;> omega
theorem f_tie_oq {c : Nat} {x y he : Int} (h : f_iQ n Ov Bi As Bj Aj BL AL) : f_oq x y (Bj c) (Aj c) (BL c) (AL c) he mo = f_oq x y (Bi c) (As c) (BL c) (AL c) he mo := by
  obtain ⟨q1, q2, q3, q4, q5, q6, q7, q8, q9, q10⟩ := h
  have b1 := q5 c
  have b2 := q6 c
  by_cases g : 0 < BL c ∨ 0 < AL c
  · obtain ⟨e1, e2⟩ := q7 c g
    rw [e1, e2]
  · unfold f_oq
    (repeat' split) <;> omega
theorem f_tie_dCa {c h5 : Nat} {x y he : Int} (hx : -100 ≤ x ∧ x ≤ 100) (h : f_iQ n Ov Bi As Bj Aj BL AL) : f_dCa Ca h5 (if 0 < x then Aj c else Bj c) (f_oq x y (Bi c) (As c) (BL c) (AL c) he mo) = f_dCa Ca h5 (if 0 < x then As c else Bi c) (f_oq x y (Bi c) (As c) (BL c) (AL c) he mo) := by
  obtain ⟨q1, q2, q3, q4, q5, q6, q7, q8, q9, q10⟩ := h
  have b1 := q5 c
  have b2 := q6 c
  by_cases g : 0 < BL c ∨ 0 < AL c
  · obtain ⟨e1, e2⟩ := q7 c g
    rw [e1, e2]
  · have b := f_oq_bd (x := x) (y := y) (bi := Bi c) (ak := As c) (bl := BL c) (al := AL c) (he := he) (mo := mo) hx b1.1 b2.1
    have e : f_oq x y (Bi c) (As c) (BL c) (AL c) he mo = 0 := by
      by_cases g2 : 0 < x
      · have := b.2.2.1 g2; omega
      · have := b.2.2.2 (by omega); omega
    rw [e, f_dCa_0, f_dCa_0]
theorem f_IV_order {c h5 : Nat} {x q : Int} (h : f_IV k td n pr up dn dv sd mo sh Ca K St Ex Am Ov Bi As Bj Aj BL AL He Co) (hc : c < n) (hk : h5 ≤ 5) (hov : Ov c = 0) (hq : -100 ≤ q ∧ q ≤ 100) (hq1 : 0 < x → 0 ≤ q ∧ q ≤ AL c) (hq2 : x ≤ 0 → q ≤ 0 ∧ -q ≤ BL c) : f_IV (k + 1) td n pr up dn dv sd mo sh (f_dCa Ca h5 (if 0 < x then As c else Bi c) q) K St Ex Am Ov (va_up Bi c (if 0 < (va_up BL c (BL c - (if 0 < x then 0 else -q))) c ∨ 0 < (va_up AL c (AL c - (if 0 < x then q else 0))) c then Bi c else 0)) (va_up As c (if 0 < (va_up BL c (BL c - (if 0 < x then 0 else -q))) c ∨ 0 < (va_up AL c (AL c - (if 0 < x then q else 0))) c then As c else 0)) Bj Aj (va_up BL c (BL c - (if 0 < x then 0 else -q))) (va_up AL c (AL c - (if 0 < x then q else 0))) (f_dHe He c h5 q) Co := by
  obtain ⟨hA, hC, hQ, hH, hN, hM⟩ := h
  obtain ⟨q1, q2, q3, q4, q5, q6, q7, q8, q9, q10⟩ := hQ
  have b1 := q1 c
  have b2 := q2 c
  have b3 := q5 c
  have b4 := q6 c
  have hs : 0 ≤ BL c - (if 0 < x then 0 else -q) ∧ BL c - (if 0 < x then 0 else -q) ≤ BL c := by
    by_cases g : 0 < x
    · rw [if_pos g]; omega
    · rw [if_neg g]; have := hq2 (by omega); omega
  have ht : 0 ≤ AL c - (if 0 < x then q else 0) ∧ AL c - (if 0 < x then q else 0) ≤ AL c := by
    by_cases g : 0 < x
    · rw [if_pos g]; have := hq1 g; omega
    · rw [if_neg g]; omega
  have hp : 0 ≤ (if 0 < x then As c else Bi c) ∧ (if 0 < x then As c else Bi c) ≤ 20000 := by split <;> omega
  generalize BL c - (if 0 < x then 0 else -q) = u at *
  generalize AL c - (if 0 < x then q else 0) = v at *
  rw [va_up_self, va_up_self]
  refine ⟨hA, hC, ⟨up_bd q1 (by split <;> omega), up_bd q2 (by split <;> omega), q3, q4, up_bd q5 (by omega), up_bd q6 (by omega), fun d hd => ?_, fun d => ?_, fun d hd => ?_, fun d hd => ?_⟩, f_iH_order hH hc hk hq, hN, f_iM_order hM hp hq⟩
  · by_cases e : d = c
    · subst e
      simp only [va_up_self] at hd ⊢
      rw [if_pos hd, if_pos hd]
      exact q7 d (by omega)
    · simp only [va_up_ne _ _ e] at hd ⊢
      exact q7 d hd
  · by_cases e : d = c
    · subst e
      simp only [va_up_self]
      by_cases g : 0 < u ∨ 0 < v
      · exact Or.inl g
      · rw [if_neg g, if_neg g]; exact Or.inr ⟨rfl, rfl⟩
    · simp only [va_up_ne _ _ e]
      exact q8 d
  · have e : d ≠ c := by omega
    simp only [va_up_ne _ _ e]
    exact q9 d hd
  · have e : d ≠ c := fun e => hd (by rw [e]; exact hov)
    simp only [va_up_ne _ _ e]
    exact q10 d hd
/-! hedges -/
theorem f_IV_hedge {x y : Int} (h : f_IV k td n pr up dn dv sd mo sh Ca K St Ex Am Ov Bi As Bj Aj BL AL He Co) (hx : -10000 ≤ x ∧ x ≤ 10000) (hy : 0 ≤ y ∧ y ≤ 10000) (hs : -100000 ≤ sh + x ∧ sh + x ≤ 100000) : f_IV (k + 1) td n pr up dn dv sd mo (sh + x) (va_up Ca 6 ((Ca 6) - (((1000 * pr) * x) + (y * (if 0 ≤ x then x else -x))))) K St Ex Am Ov Bi As Bj Aj BL AL He Co := by
  obtain ⟨hA, hC, hQ, hH, hN, hM⟩ := h
  refine ⟨⟨hA.1, hA.2.1, hA.2.2.1, hA.2.2.2.1, hA.2.2.2.2.1, hA.2.2.2.2.2.1, hA.2.2.2.2.2.2.1, hA.2.2.2.2.2.2.2.1, hs⟩, hC, hQ, f_iH_k hH, hN, ?_⟩
  have hp := hA.2.2.1
  have b1 := f_mul_bd (a := pr) (A := 20000) (b := x + 10000) (B := 20000) hp.1 hp.2 (by omega) (by omega)
  rw [Int.mul_add] at b1
  have b2 := f_mul_bd (a := y) (A := 10000) (b := if 0 ≤ x then x else -x) (B := 10000) hy.1 hy.2 (by split <;> omega) (by split <;> omega)
  intro j
  have a1 := hM 6
  have a2 := hM j
  rw [Int.mul_assoc 1000 pr x]
  generalize pr * x = w at *
  generalize (y * if 0 ≤ x then x else -x) = w2 at *
  simp only [va_up]
  split <;> omega
/-! exercise, and days that are closed -/
theorem f_x1_bd {c k5 : Nat} {L br B : Int} {s : (Nat → Int) × (Nat → Int) × Int} (hk : k5 ≤ 6) (hL : 1 ≤ L) (h : f_xI c k5 L s) (hB : ∀ j, -B ≤ s.1 j ∧ s.1 j ≤ B) (hbr : 0 ≤ br ∧ br ≤ 20000) : (∀ j, -B ≤ (f_x1 c k5 br s).1 j ∧ (f_x1 c k5 br s).1 j ≤ B) ∧ ∀ j, -20000000 ≤ (f_x1 c k5 br s).2.1 j - s.2.1 j ∧ (f_x1 c k5 br s).2.1 j - s.2.1 j ≤ 20000000 := by
  have ho := f_xI_ow hk (by omega) h
  have hp := f_pk_bd (He := s.1) (sd := s.2.2) (c := c) (by omega)
  have hn := f_py_neg hp.1 hp.2
  have h6 := f_py_le s.1 c (f_pk s.1 s.2.2 c)
  have hne := (f_xI_1 (br := br) hk hL h).2.1
  have h2 := h.2.2.2
  simp only [f_x1, f_xHe, f_xCa, va_up]
  generalize f_py s.1 c (f_pk s.1 s.2.2 c) = q at *
  refine ⟨fun j => ?_, fun j => ?_⟩
  · have h1 := hB j
    have h3 := hB (7 * c + q)
    have h4 := hB (7 * c + k5)
    rw [if_neg (show 7 * c + k5 ≠ 7 * c + q by omega)]
    (repeat' split) <;> omega
  · rw [if_neg (Ne.symm hne)]
    by_cases e : j = k5
    · subst e; rw [if_pos rfl]; omega
    · rw [if_neg e]
      by_cases g : j = q
      · subst g; rw [if_pos rfl]; omega
      · rw [if_neg g]; omega
theorem f_xN_bd {c k5 : Nat} {L br B : Int} {s : (Nat → Int) × (Nat → Int) × Int} (hk : k5 ≤ 6) (h : f_xI c k5 L s) (hB : ∀ j, -B ≤ s.1 j ∧ s.1 j ≤ B) (hbr : 0 ≤ br ∧ br ≤ 20000) : ∀ i : Nat, (i : Int) ≤ L → (∀ j, -B ≤ (f_xN c k5 br i s).1 j ∧ (f_xN c k5 br i s).1 j ≤ B) ∧ ∀ j, -(20000000 * (i : Int)) ≤ (f_xN c k5 br i s).2.1 j - s.2.1 j ∧ (f_xN c k5 br i s).2.1 j - s.2.1 j ≤ 20000000 * (i : Int)
  | 0, _ => ⟨hB, fun j => by simp only [f_xN]; omega⟩
  | i + 1, hi => by
    have h1 := f_xN_bd hk h hB hbr i (by omega)
    have h2 := f_xI_N hk h (br := br) i (by omega)
    have h3 := f_x1_bd hk (by omega) h2 h1.1 hbr
    simp only [f_xN]
    refine ⟨h3.1, fun j => ?_⟩
    have a := h3.2 j
    have b := h1.2 j
    omega
theorem f_IV_exercise {c k5 L : Nat} (h : f_IV k td n pr up dn dv sd mo sh Ca K St Ex Am Ov Bi As Bj Aj BL AL He Co) (hk9 : k ≤ 512) (hc : c < n) (hk : k5 ≤ 6) (hL : 1 ≤ L ∧ L ≤ 1000) (hHL : (L : Int) ≤ He (7 * c + k5)) : f_IV (k + 1) td n pr up dn dv ((f_xN c k5 (f_pays (K c) (St c) pr) L (He, Ca, sd)).2.2) mo sh ((f_xN c k5 (f_pays (K c) (St c) pr) L (He, Ca, sd)).2.1) K St Ex Am Ov Bi As Bj Aj BL AL ((f_xN c k5 (f_pays (K c) (St c) pr) L (He, Ca, sd)).1) Co := by
  obtain ⟨hA, hC, hQ, hH, hN, hM⟩ := h
  have hbr := f_pays_pr (ki := K c) (hC.2.1 c) hA.2.2.1
  have hI : f_xI c k5 (He (7 * c + k5)) (He, Ca, sd) := ⟨fun j => by have := hH.1 j; show -1000000 ≤ He j ∧ He j ≤ 1000000; omega, hA.2.2.2.2.2.2.1, hH.2.1 c hc, rfl⟩
  have h1 := f_xN_bd (B := 100 * (k : Int)) hk hI hH.1 hbr L hHL
  have h2 := f_xI_N hk hI (br := f_pays (K c) (St c) pr) L hHL
  refine ⟨⟨hA.1, hA.2.1, hA.2.2.1, hA.2.2.2.1, hA.2.2.2.2.1, hA.2.2.2.2.2.1, h2.2.1, hA.2.2.2.2.2.2.2⟩, hC, hQ, ⟨fun j => by have := h1.1 j; omega, fun d hd => ?_, fun j hj => ?_⟩, hN, fun j => ?_⟩
  · by_cases e : d = c
    · subst e; exact h2.2.2.1
    · rw [f_s7_congr (He := He) 7 (fun p hp => f_xN_out hk (by omega) L)]
      exact hH.2.1 d hd
  · rw [f_xN_out hk (by omega) L]
    exact hH.2.2 j hj
  · have a := h1.2 j
    have b := hM j
    have e : (He, Ca, sd).2.1 j = Ca j := rfl
    rw [e] at a
    omega
theorem f_exH_bd {Co : Nat → Int} {c : Nat} {br B : Int} {s : (Nat → Int) × (Nat → Int) × Int} (hs : f_xJ c s) (hB : ∀ j, -B ≤ s.1 j ∧ s.1 j ≤ B) (hBB : 0 ≤ B ∧ B ≤ 51200) (hbr : 0 ≤ br ∧ br ≤ 20000) : ∀ h, h ≤ 7 → (∀ j, -B ≤ (f_exH Co c br h s).1 j ∧ (f_exH Co c br h s).1 j ≤ B) ∧ ∀ j, -(1024000000000 * (h : Int)) ≤ (f_exH Co c br h s).2.1 j - s.2.1 j ∧ (f_exH Co c br h s).2.1 j - s.2.1 j ≤ 1024000000000 * (h : Int)
  | 0, _ => ⟨hB, fun j => by simp only [f_exH]; omega⟩
  | h + 1, hh => by
    have h1 := f_exH_bd hs hB hBB hbr (Co := Co) h (by omega)
    have hJ := f_exH_J hs (Co := Co) (br := br) h (by omega)
    simp only [f_exH]
    generalize f_exH Co c br h s = S at *
    have hl : f_lot Co c h br S.1 = 0 ∨ f_lot Co c h br S.1 = S.1 (7 * c + h) := by
      unfold f_lot
      split
      · exact Or.inr rfl
      · exact Or.inl rfl
    by_cases e : f_lot Co c h br S.1 ≤ 0
    · rw [show (f_lot Co c h br S.1).toNat = 0 by omega]
      refine ⟨h1.1, fun j => ?_⟩
      have := h1.2 j
      simp only [f_xN]
      omega
    · have hL : f_lot Co c h br S.1 = S.1 (7 * c + h) := by omega
      have h2 := f_xN_bd (B := B) (L := S.1 (7 * c + h)) (by omega : h ≤ 6) ⟨hJ.1, hJ.2.1, hJ.2.2, rfl⟩ h1.1 hbr (f_lot Co c h br S.1).toNat (by omega)
      refine ⟨h2.1, fun j => ?_⟩
      have a := h2.2 j
      have b := h1.2 j
      have d := h1.1 (7 * c + h)
      omega
theorem f_cl_bd {pr B : Int} {s : f_T} (hs : f_clJ n s) (hSt : ∀ j, 0 ≤ St j ∧ St j ≤ 20000) (hpr : 0 ≤ pr ∧ pr ≤ 20000) (hB : ∀ j, -B ≤ s.1.1 j ∧ s.1.1 j ≤ B) (hBB : 0 ≤ B ∧ B ≤ 51200) : ∀ i, i ≤ n → (∀ j, -B ≤ (f_cl K St Ex Co pr td i s).1.1 j ∧ (f_cl K St Ex Co pr td i s).1.1 j ≤ B) ∧ ∀ j, -(7168000000000 * (i : Int)) ≤ (f_cl K St Ex Co pr td i s).1.2.1 j - s.1.2.1 j ∧ (f_cl K St Ex Co pr td i s).1.2.1 j - s.1.2.1 j ≤ 7168000000000 * (i : Int)
  | 0, _ => ⟨hB, fun j => by simp only [f_cl]; omega⟩
  | i + 1, hi => by
    have h1 := f_cl_bd hs hSt hpr hB hBB i (by omega)
    have hJ := f_cl_J hs (K := K) (St := St) (Ex := Ex) (Co := Co) (pr := pr) (t := td) i (by omega)
    simp only [f_cl]
    generalize f_cl K St Ex Co pr td i s = S at *
    split
    · have h2 := f_exH_bd (Co := Co) (c := i) ⟨hJ.1, hJ.2.1, hJ.2.2 i (by omega)⟩ h1.1 hBB (f_pays_pr (ki := K i) (hSt i) hpr) 7 (Nat.le_refl _)
      refine ⟨fun j => ?_, fun j => ?_⟩
      · have := h2.1 j
        simp only [f_exp, f_z7]
        split <;> omega
      · have a := h2.2 j
        have b := h1.2 j
        simp only [f_exp]
        omega
    · refine ⟨h1.1, fun j => ?_⟩
      have := h1.2 j
      omega
theorem f_cl_out {pr : Int} {s : f_T} {j : Nat} : ∀ i, 7 * i ≤ j → (f_cl K St Ex Co pr td i s).1.1 j = s.1.1 j
  | 0, _ => rfl
  | i + 1, hi => by
    have h1 : (f_cl K St Ex Co pr td i s).1.1 j = s.1.1 j := f_cl_out i (by omega)
    simp only [f_cl]
    split
    · show f_z7 _ i 7 j = _
      rw [f_z7_out (by omega), f_exH_out (by omega) 7 (Nat.le_refl _)]
      exact h1
    · exact h1
theorem f_cl_left {pr : Int} {s : f_T} (j : Nat) : ∀ i, (f_cl K St Ex Co pr td i s).2.2.1 j = (if j < i ∧ Ex j = (td : Int) then 0 else s.2.2.1 j) ∧ (f_cl K St Ex Co pr td i s).2.2.2 j = (if j < i ∧ Ex j = (td : Int) then 0 else s.2.2.2 j)
  | 0 => by rw [if_neg (by omega), if_neg (by omega)]; exact ⟨rfl, rfl⟩
  | i + 1 => by
    have h1 : (f_cl K St Ex Co pr td i s).2.2.1 j = (if j < i ∧ Ex j = (td : Int) then 0 else s.2.2.1 j) ∧ (f_cl K St Ex Co pr td i s).2.2.2 j = (if j < i ∧ Ex j = (td : Int) then 0 else s.2.2.2 j) := f_cl_left j i
    simp only [f_cl]
    by_cases e : j = i
    · subst e
      by_cases g : Ex j = (td : Int)
      · rw [if_pos g, if_pos ⟨by omega, g⟩, if_pos ⟨by omega, g⟩]
        exact ⟨va_up_self _ _ _, va_up_self _ _ _⟩
      · rw [if_neg g, if_neg (by omega), if_neg (by omega), h1.1, h1.2, if_neg (by omega), if_neg (by omega)]
        exact ⟨rfl, rfl⟩
    · have q : (j < i ∧ Ex j = (td : Int)) ↔ (j < i + 1 ∧ Ex j = (td : Int)) := by omega
      by_cases g : Ex i = (td : Int)
      · rw [if_pos g]
        show va_up _ i 0 j = _ ∧ va_up _ i 0 j = _
        rw [va_up_ne _ _ e, va_up_ne _ _ e, h1.1, h1.2]
        simp only [q, and_self]
      · rw [if_neg g, h1.1, h1.2]
        simp only [q, and_self]
theorem f_IV_close (h : f_IV k td n pr up dn dv sd mo sh Ca K St Ex Am Ov Bi As Bj Aj BL AL He Co) (hk9 : k ≤ 512) (ht : td < 200) : f_IV (k + 1) (td + 1) n pr up dn dv ((f_cl K St Ex Co pr td n ((He, Ca, sd), Ov, BL, AL)).1.2.2) mo sh ((f_cl K St Ex Co pr td n ((He, Ca, sd), Ov, BL, AL)).1.2.1) K St Ex Am ((f_cl K St Ex Co pr td n ((He, Ca, sd), Ov, BL, AL)).2.1) (f_gone Ex td n Bi) (f_gone Ex td n As) Bj Aj ((f_cl K St Ex Co pr td n ((He, Ca, sd), Ov, BL, AL)).2.2.1) ((f_cl K St Ex Co pr td n ((He, Ca, sd), Ov, BL, AL)).2.2.2) ((f_cl K St Ex Co pr td n ((He, Ca, sd), Ov, BL, AL)).1.1) Co := by
  obtain ⟨hA, hC, hQ, hH, hN, hM⟩ := h
  obtain ⟨c1, c2, c3, c4, c5, c6, c7, c8⟩ := hC
  obtain ⟨q1, q2, q3, q4, q5, q6, q7, q8, q9, q10⟩ := hQ
  have hn := hA.2.1
  have hJ0 : f_clJ n ((He, Ca, sd), Ov, BL, AL) := ⟨fun j => by have := hH.1 j; show -1000000 ≤ He j ∧ He j ≤ 1000000; omega, hA.2.2.2.2.2.2.1, hH.2.1⟩
  have hJ := f_cl_J hJ0 (K := K) (St := St) (Ex := Ex) (Co := Co) (pr := pr) (t := td) n (Nat.le_refl _)
  have hB := f_cl_bd (K := K) (St := St) (Ex := Ex) (Co := Co) (pr := pr) (td := td) (B := 100 * (k : Int)) hJ0 c2 hA.2.2.1 hH.1 (by omega) n (Nat.le_refl _)
  have hO : ∀ j, (f_cl K St Ex Co pr td n ((He, Ca, sd), Ov, BL, AL)).2.1 j = if j < n ∧ Ex j = (td : Int) then 1 else Ov j := fun j => f_cl_Ov j n
  have hQ2 := f_cl_q (K := K) (St := St) (Ex := Ex) (Co := Co) (pr := pr) (t := td) (s := ((He, Ca, sd), Ov, BL, AL)) q5 q6 n
  have hl : ∀ j, (f_cl K St Ex Co pr td n ((He, Ca, sd), Ov, BL, AL)).2.2.1 j = (if j < n ∧ Ex j = (td : Int) then 0 else BL j) ∧ (f_cl K St Ex Co pr td n ((He, Ca, sd), Ov, BL, AL)).2.2.2 j = (if j < n ∧ Ex j = (td : Int) then 0 else AL j) := fun j => f_cl_left j n
  have hout : ∀ j, 7 * n ≤ j → (f_cl K St Ex Co pr td n ((He, Ca, sd), Ov, BL, AL)).1.1 j = He j := fun j hj => f_cl_out n hj
  have hca : ∀ j, -(7168000000000 * (n : Int)) ≤ (f_cl K St Ex Co pr td n ((He, Ca, sd), Ov, BL, AL)).1.2.1 j - Ca j ∧ (f_cl K St Ex Co pr td n ((He, Ca, sd), Ov, BL, AL)).1.2.1 j - Ca j ≤ 7168000000000 * (n : Int) := hB.2
  have hhe := hB.1
  generalize f_cl K St Ex Co pr td n ((He, Ca, sd), Ov, BL, AL) = S at *
  refine ⟨⟨ht, hn, hA.2.2.1, hA.2.2.2.1, hA.2.2.2.2.1, hA.2.2.2.2.2.1, hJ.2.1, hA.2.2.2.2.2.2.2⟩, ⟨c1, c2, c3, c4, fun j => ?_, fun c hc => ?_, fun c hc => ?_, fun c hc => ?_⟩, ⟨fun j => ?_, fun j => ?_, q3, q4, hQ2.1, hQ2.2, fun c hd => ?_, fun c => ?_, fun c hc => ?_, fun c hd => ?_⟩, ⟨fun j => by have := hhe j; omega, hJ.2.2, fun j hj => ?_⟩, hN, fun j => ?_⟩
  · rw [hO j]
    have := c5 j
    split <;> omega
  · rw [hO c]
    have := c6 c hc
    by_cases g : Ex c = (td : Int)
    · rw [if_pos ⟨hc, g⟩]; omega
    · rw [if_neg (fun q => g q.2)]; omega
  · have := c7 c hc
    omega
  · rw [hO c, if_neg (by omega)]
    exact c8 c hc
  · unfold f_gone
    have := q1 j
    split <;> omega
  · unfold f_gone
    have := q2 j
    split <;> omega
  · rw [(hl c).1, (hl c).2] at hd
    unfold f_gone
    by_cases g : c < n ∧ Ex c = (td : Int)
    · rw [if_pos g, if_pos g] at hd; omega
    · rw [if_neg g, if_neg g] at hd ⊢; exact q7 c hd
  · rw [(hl c).1, (hl c).2]
    unfold f_gone
    by_cases g : c < n ∧ Ex c = (td : Int)
    · rw [if_pos g, if_pos g, if_pos g, if_pos g]; exact Or.inr ⟨rfl, rfl⟩
    · rw [if_neg g, if_neg g, if_neg g, if_neg g]; exact q8 c
  · rw [(hl c).1, (hl c).2, if_neg (by omega), if_neg (by omega)]
    exact q9 c hc
  · rw [(hl c).1, (hl c).2]
    rw [hO c] at hd
    by_cases g : c < n ∧ Ex c = (td : Int)
    · rw [if_pos g, if_pos g]; exact ⟨rfl, rfl⟩
    · rw [if_neg g] at hd
      rw [if_neg g, if_neg g]; exact q10 c hd
  · rw [hout j hj]
    exact hH.2.2 j hj
  · have a := hca j
    have b := hM j
    omega
theorem f_IV_contrary {c h5 : Nat} {v : Int} (h : f_IV k td n pr up dn dv sd mo sh Ca K St Ex Am Ov Bi As Bj Aj BL AL He Co) (hc : c < n) (hk : h5 ≤ 5) (hv : v = 0 ∨ v = 1) : f_IV (k + 1) td n pr up dn dv sd mo sh Ca K St Ex Am Ov Bi As Bj Aj BL AL He (va_up Co (7 * c + h5) v) := by
  obtain ⟨hA, hC, hQ, hH, hN, hM⟩ := h
  refine ⟨hA, hC, hQ, f_iH_k hH, ⟨up_bd hN.1 (by omega), fun j hj => ?_⟩, f_iM_k hM⟩
  rw [va_up_ne _ _ (by omega)]
  exact hN.2 j hj
theorem f_isF_bd {F : Int → Nat → Nat → Prop} {n : Nat} {r : Int} (h : f_isF F n r) : 0 ≤ r ∧ r ≤ 4 := by
  rcases h with ⟨h, -⟩ | ⟨h1, h2, -⟩ <;> omega
/-- the list's row, or none yet -/
def f_LG (cO : ClassId) (es n ed : Nat) (cA : Nat → Nat) (GG : va_W) : Prop := (0 < n → ∃ (cap : Nat) (fe : Nat → Option Nat) (G : va_W), GG = (ed, .inl (cO, cap, .inr (.inr (.inr (.inr fe))))) :: G ∧ n ≤ cap ∧ cap ≤ 1000 ∧ ∀ j, j < n → fe j = some (cA j)) ∧ (n = 0 → ed = es)
theorem f_LG_ED {cO : ClassId} {es n ed : Nat} {cA : Nat → Nat} {GG M : va_W} (h : f_LG cO es n ed cA GG) : 0 < n → f_ED cA n ed cO (GG ++ M) := fun hn => by
  obtain ⟨cap, fe, G, rfl, h1, h2, h3⟩ := h.1 hn
  exact ⟨0, cap, fe, rfl, h1, h2, h3⟩
end INV
