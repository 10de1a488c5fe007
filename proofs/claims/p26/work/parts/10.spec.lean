/-! what is reckoned, over whole numbers -/
def f_pays (k st z : Int) : Int := max 0 (if k = 0 then z - st else st - z)
/-- the dividends of the next j days behind t -/
def f_dsum (dv : Nat → Int) (t : Nat) : Nat → Int
  | 0 => 0
  | j + 1 => f_dsum dv t j + dv (t + 1 + j)
def f_pb (up dn fr : Int) (j k : Nat) : Int := fr + 10 * up * k - 10 * dn * ((j : Int) - k)
/-- the price j days ahead, behind k steps up -/
def f_price (up dn : Int) (dv : Nat → Int) (t : Nat) (fr : Int) (j k : Nat) : Int := f_pb up dn fr j k - f_dsum dv t j
/-- the number above, d days ahead, behind k steps up, with r days to come; am: whether it is AMERICAN -/
def f_V (up dn : Int) (dv : Nat → Int) (t : Nat) (ki st am fr : Int) : Nat → Nat → Nat → Int
  | 0, d, k => f_pays ki st (f_price up dn dv t fr d k)
  | r + 1, d, k => if am = 0 then dn * f_V up dn dv t ki st am fr r (d + 1) (k + 1) + up * f_V up dn dv t ki st am fr r (d + 1) k
      else max (dn * f_V up dn dv t ki st am fr r (d + 1) (k + 1) + up * f_V up dn dv t ki st am fr r (d + 1) k) (f_pays ki st (f_price up dn dv t fr d k) * (up + dn) ^ (r + 1))
/-- the same, 0 of a contract that is over -/
def f_gV (ov up dn : Int) (dv : Nat → Int) (t : Nat) (ki st am fr : Int) (r d k : Nat) : Int := if ov = 0 then f_V up dn dv t ki st am fr r d k else 0
/-- the mark out of the number above and that below -/
def f_mk (v w : Int) : Int := v / w * 1000 + v % w * 1000 / w
/-- the number above of a contract, and that below -/
def f_num (up dn : Int) (dv : Nat → Int) (t : Nat) (ki st ex am fr : Int) : Int := if ex < t then 0 else f_V up dn dv t ki st am fr (ex - t).toNat 0 0
def f_den (up dn : Int) (t : Nat) (ex : Int) : Int := (up + dn) ^ (ex - t).toNat
def f_mark (up dn : Int) (dv : Nat → Int) (t : Nat) (ki st ex am fr : Int) : Int := f_mk (f_num up dn dv t ki st ex am fr) (f_den up dn t ex)
/-- what the house is worth at a price: its cash and shares, and its lots of the first i contracts -/
def f_worth (up dn : Int) (dv : Nat → Int) (t : Nat) (K St Ex Am : Nat → Int) (ho : Nat → Int) (cash sh fr : Int) : Nat → Int
  | 0 => cash + 1000 * fr * sh
  | i + 1 => f_worth up dn dv t K St Ex Am ho cash sh fr i + ho i * f_mark up dn dv t (K i) (St i) (Ex i) (Am i) fr
theorem up_lt {f G : Nat → Int} {j : Nat} {v : Int} (h : ∀ i, i < j → f i = G i) (hv : v = G j) : ∀ i, i < j + 1 → va_up f j v i = G i := by
  intro i hi
  by_cases e : i = j
  · subst e; rw [va_up_self]; exact hv
  · rw [va_up_ne f v e]; exact h i (by omega)
theorem up_ge {f G : Nat → Int} {j m : Nat} {v : Int} (h : ∀ i, j ≤ i → i ≤ m → f i = G i) : ∀ i, j + 1 ≤ i → i ≤ m → va_up f j v i = G i := by
  intro i hi hm
  rw [va_up_ne f v (by omega)]
  exact h i (by omega) hm
theorem f_mul_bd {a b : Int} {A B : Int} (ha : 0 ≤ a) (hA : a ≤ A) (hb : 0 ≤ b) (hB : b ≤ B) : 0 ≤ a * b ∧ a * b ≤ A * B :=
  ⟨Int.mul_nonneg ha hb, Int.mul_le_mul hA hB hb (by omega)⟩
theorem f_dsum_bd {dv : Nat → Int} (h : ∀ j, 0 ≤ dv j ∧ dv j ≤ 1000) (t : Nat) : ∀ j : Nat, 0 ≤ f_dsum dv t j ∧ f_dsum dv t j ≤ 1000 * (j : Int)
  | 0 => by simp [f_dsum]
  | j + 1 => by
    have h1 := f_dsum_bd h t j
    have h2 := h (t + 1 + j)
    simp only [f_dsum]
    omega
theorem f_price_bd {up dn : Int} {dv : Nat → Int} {t : Nat} {fr : Int} {j k : Nat} (hup : 1 ≤ up ∧ up ≤ 10) (hdn : 1 ≤ dn ∧ dn ≤ 10) (hdv : ∀ j, 0 ≤ dv j ∧ dv j ≤ 1000) (hfr : -30000 ≤ fr ∧ fr ≤ 30000) (hj : j ≤ 10) (hk : k ≤ j) : -50000 ≤ f_price up dn dv t fr j k ∧ f_price up dn dv t fr j k ≤ 40000 := by
  have h1 := f_dsum_bd hdv t j
  have h2 := f_mul_bd (a := up) (b := (k : Int)) (A := 10) (B := 10) (by omega) (by omega) (by omega) (by omega)
  have h3 := f_mul_bd (a := dn) (b := (j : Int) - (k : Int)) (A := 10) (B := 10) (by omega) (by omega) (by omega) (by omega)
  unfold f_price f_pb
  rw [Int.mul_assoc 10 up, Int.mul_assoc 10 dn]
  omega
theorem f_pays_bd {k st z : Int} (hst : 0 ≤ st ∧ st ≤ 20000) (hz : -50000 ≤ z ∧ z ≤ 40000) : 0 ≤ f_pays k st z ∧ f_pays k st z ≤ 100000 := by
  unfold f_pays
  split <;> omega
theorem f_pw {w : Int} (h : 1 ≤ w ∧ w ≤ 20) : ∀ r : Nat, 1 ≤ w ^ r ∧ w ^ r ≤ 20 ^ r
  | 0 => by simp
  | r + 1 => by
    have h1 := f_pw h r
    rw [Int.pow_succ, Int.pow_succ]
    have h2 := f_mul_bd (a := w ^ r) (b := w) (by omega) h1.2 (by omega) h.2
    refine ⟨?_, h2.2⟩
    have h3 : 1 * 1 ≤ w ^ r * w := Int.mul_le_mul h1.1 h.1 (by omega) (by omega)
    omega
theorem f_p20 {r : Nat} (h : r ≤ 10) : (1 : Int) ≤ 20 ^ r ∧ (20 : Int) ^ r ≤ 10240000000000 := by
  have h1 : ∀ q : Fin 11, (1 : Int) ≤ 20 ^ (q : Nat) ∧ (20 : Int) ^ (q : Nat) ≤ 10240000000000 := by decide
  exact h1 ⟨r, by omega⟩
theorem f_V_bd {up dn : Int} {dv : Nat → Int} {t : Nat} {ki st am fr : Int} (hup : 1 ≤ up ∧ up ≤ 10) (hdn : 1 ≤ dn ∧ dn ≤ 10) (hdv : ∀ j, 0 ≤ dv j ∧ dv j ≤ 1000) (hst : 0 ≤ st ∧ st ≤ 20000) (hfr : -30000 ≤ fr ∧ fr ≤ 30000) : ∀ r d k : Nat, d + r ≤ 10 → k ≤ d → 0 ≤ f_V up dn dv t ki st am fr r d k ∧ f_V up dn dv t ki st am fr r d k ≤ 100000 * 20 ^ r
  | 0, d, k, h, hk => by
    have h1 := f_pays_bd (k := ki) hst (f_price_bd (t := t) (j := d) (k := k) hup hdn hdv hfr (by omega) hk)
    simp only [f_V]
    omega
  | r + 1, d, k, h, hk => by
    have h1 := f_V_bd hup hdn hdv hst hfr (ki := ki) (am := am) (t := t) r (d + 1) (k + 1) (by omega) (by omega)
    have h2 := f_V_bd hup hdn hdv hst hfr (ki := ki) (am := am) (t := t) r (d + 1) k (by omega) (by omega)
    have h3 := f_pays_bd (k := ki) hst (f_price_bd (t := t) (j := d) (k := k) hup hdn hdv hfr (by omega) hk)
    have h4 := f_mul_bd (a := dn) (A := 10) (by omega) hdn.2 h1.1 h1.2
    have h5 := f_mul_bd (a := up) (A := 10) (by omega) hup.2 h2.1 h2.2
    have h6 := f_pw (w := up + dn) (by omega) (r + 1)
    have h7 := f_mul_bd h3.1 h3.2 (by omega) h6.2
    have h8 : (20 : Int) ^ (r + 1) = 20 * 20 ^ r := by rw [Int.pow_succ, Int.mul_comm]
    simp only [f_V]
    generalize (20 : Int) ^ r = M at *
    generalize (20 : Int) ^ (r + 1) = M1 at *
    split <;> omega
theorem f_V_lR {up dn : Int} {dv : Nat → Int} {t : Nat} {ki st am fr : Int} (hup : 1 ≤ up ∧ up ≤ 10) (hdn : 1 ≤ dn ∧ dn ≤ 10) (hdv : ∀ j, 0 ≤ dv j ∧ dv j ≤ 1000) (hst : 0 ≤ st ∧ st ≤ 20000) (hfr : -30000 ≤ fr ∧ fr ≤ 30000) {r d k : Nat} (h : d + r ≤ 10) (hk : k ≤ d) : 0 ≤ f_V up dn dv t ki st am fr r d k ∧ f_V up dn dv t ki st am fr r d k ≤ 1024000000000000000 := by
  have h1 := f_V_bd hup hdn hdv hst hfr (ki := ki) (am := am) (t := t) r d k h hk
  have h2 := f_p20 (r := r) (by omega)
  omega
/-- the two ways on, and what is paid at once: numbers of a long -/
theorem f_go_lR {up dn : Int} {dv : Nat → Int} {t : Nat} {ki st am fr : Int} (hup : 1 ≤ up ∧ up ≤ 10) (hdn : 1 ≤ dn ∧ dn ≤ 10) (hdv : ∀ j, 0 ≤ dv j ∧ dv j ≤ 1000) (hst : 0 ≤ st ∧ st ≤ 20000) (hfr : -30000 ≤ fr ∧ fr ≤ 30000) {r d k : Nat} (h : d + r + 1 ≤ 10) (hk : k ≤ d) :
    (0 ≤ dn * f_V up dn dv t ki st am fr r (d + 1) (k + 1) + up * f_V up dn dv t ki st am fr r (d + 1) k ∧ dn * f_V up dn dv t ki st am fr r (d + 1) (k + 1) + up * f_V up dn dv t ki st am fr r (d + 1) k ≤ 1024000000000000000) ∧ 0 ≤ f_pays ki st (f_price up dn dv t fr d k) * (up + dn) ^ (r + 1) ∧ f_pays ki st (f_price up dn dv t fr d k) * (up + dn) ^ (r + 1) ≤ 1024000000000000000 := by
  have h1 := f_V_bd hup hdn hdv hst hfr (ki := ki) (am := am) (t := t) r (d + 1) (k + 1) (by omega) (by omega)
  have h2 := f_V_bd hup hdn hdv hst hfr (ki := ki) (am := am) (t := t) r (d + 1) k (by omega) (by omega)
  have h3 := f_pays_bd (k := ki) hst (f_price_bd (t := t) (j := d) (k := k) hup hdn hdv hfr (by omega) hk)
  have h4 := f_mul_bd (a := dn) (A := 10) (by omega) hdn.2 h1.1 h1.2
  have h5 := f_mul_bd (a := up) (A := 10) (by omega) hup.2 h2.1 h2.2
  have h6 := f_pw (w := up + dn) (by omega) (r + 1)
  have h7 := f_mul_bd h3.1 h3.2 (by omega) h6.2
  have h8 : (20 : Int) ^ (r + 1) = 20 * 20 ^ r := by rw [Int.pow_succ, Int.mul_comm]
  have h9 := f_p20 (r := r + 1) (by omega)
  generalize (20 : Int) ^ r = M at *
  generalize (20 : Int) ^ (r + 1) = M1 at *
  omega
theorem f_den_bd {w : Int} (h : 1 ≤ w ∧ w ≤ 20) {r : Nat} (hr : r ≤ 10) : 1 ≤ w ^ r ∧ w ^ r ≤ 10240000000000 := by
  have h1 := f_pw h r
  have h2 := f_p20 hr
  omega
/-- the mark is a number of an int -/
theorem f_mk_bd {v w : Int} (hv : 0 ≤ v ∧ v ≤ 1024000000000000000) (hw : 1 ≤ w ∧ w ≤ 10240000000000) : 0 ≤ v / w ∧ v / w ≤ v ∧ 0 ≤ v % w ∧ v % w < w ∧ 0 ≤ v % w * 1000 / w ∧ v % w * 1000 / w < 1000 := by
  have h1 : 0 ≤ v / w := Int.ediv_nonneg hv.1 (by omega)
  have h2 : v / w ≤ v := Int.ediv_le_self w hv.1
  have h3 := Int.emod_nonneg v (show w ≠ 0 by omega)
  have h4 := Int.emod_lt_of_pos v (show 0 < w by omega)
  have h5 : 0 ≤ v % w * 1000 / w := Int.ediv_nonneg (by omega) (by omega)
  have h6 : v % w * 1000 / w < 1000 := Int.ediv_lt_of_lt_mul (by omega) (by omega)
  exact ⟨h1, h2, h3, h4, h5, h6⟩
def f_W (up dn : Int) (dv : Nat → Int) (t n : Nat) (K St Ex Am He Ca : Nat → Int) (sh fr : Int) : Int := f_worth up dn dv t K St Ex Am (fun c => He (7 * c + 6)) (Ca 6) sh fr n
theorem up_bd {f : Nat → Int} {lo hi v : Int} {k : Nat} (h : ∀ j, lo ≤ f j ∧ f j ≤ hi) (hv : lo ≤ v ∧ v ≤ hi) : ∀ j, lo ≤ va_up f k v j ∧ va_up f k v j ≤ hi := by
  intro j
  by_cases e : j = k
  · subst e; rw [va_up_self]; exact hv
  · rw [va_up_ne f v e]; exact h j
/-- the first i places are 0 -/
def f_zero (f : Nat → Int) (i : Nat) : Nat → Int := fun j => if j < i then 0 else f j
theorem f_zero_0 (f : Nat → Int) : f_zero f 0 = f := by funext j; simp [f_zero]
theorem f_zero_up (f : Nat → Int) (i : Nat) : va_up (f_zero f i) i 0 = f_zero f (i + 1) := by
  funext j
  simp only [va_up, f_zero]
  by_cases e : j = i
  · subst e; simp
  · by_cases q : j < i
    · rw [if_neg e, if_pos q, if_pos (by omega)]
    · rw [if_neg e, if_neg q, if_neg (by omega)]
/-- how many of the first i quotes have something left -/
def f_cnt (BL AL : Nat → Int) : Nat → Int
  | 0 => 0
  | i + 1 => f_cnt BL AL i + (if 0 < BL i + AL i then 1 else 0)
theorem f_cnt_bd (BL AL : Nat → Int) : ∀ i : Nat, 0 ≤ f_cnt BL AL i ∧ f_cnt BL AL i ≤ (i : Int)
  | 0 => by simp [f_cnt]
  | i + 1 => by
    have h := f_cnt_bd BL AL i
    simp only [f_cnt]
    split <;> omega
/-- by how much the house is worth less, at the most, over the moves -m .. -m + i - 1 -/
def f_worst (w : Int → Int) (now pr : Int) (m : Int) : Nat → Int
  | 0 => 0
  | i + 1 => max (f_worst w now pr m i) (now - w (pr + 10 * (-m + (i : Int))))
theorem f_V_bw {up dn : Int} {dv : Nat → Int} {t : Nat} {ki st am fr : Int} (hup : 1 ≤ up ∧ up ≤ 10) (hdn : 1 ≤ dn ∧ dn ≤ 10) (hdv : ∀ j, 0 ≤ dv j ∧ dv j ≤ 1000) (hst : 0 ≤ st ∧ st ≤ 20000) (hfr : -30000 ≤ fr ∧ fr ≤ 30000) : ∀ r d k : Nat, d + r ≤ 10 → k ≤ d → 0 ≤ f_V up dn dv t ki st am fr r d k ∧ f_V up dn dv t ki st am fr r d k ≤ 100000 * (up + dn) ^ r
  | 0, d, k, h, hk => by
    have h1 := f_pays_bd (k := ki) hst (f_price_bd (t := t) (j := d) (k := k) hup hdn hdv hfr (by omega) hk)
    simp only [f_V, Int.pow_zero]
    omega
  | r + 1, d, k, h, hk => by
    have h1 := f_V_bw hup hdn hdv hst hfr (ki := ki) (am := am) (t := t) r (d + 1) (k + 1) (by omega) (by omega)
    have h2 := f_V_bw hup hdn hdv hst hfr (ki := ki) (am := am) (t := t) r (d + 1) k (by omega) (by omega)
    have h3 := f_pays_bd (k := ki) hst (f_price_bd (t := t) (j := d) (k := k) hup hdn hdv hfr (by omega) hk)
    have h4 := f_mul_bd (a := dn) (A := dn) (by omega) (Int.le_refl _) h1.1 h1.2
    have h5 := f_mul_bd (a := up) (A := up) (by omega) (Int.le_refl _) h2.1 h2.2
    have h6 := f_pw (w := up + dn) (by omega) (r + 1)
    have h7 := f_mul_bd h3.1 h3.2 (b := (up + dn) ^ (r + 1)) (by omega) (Int.le_refl _)
    have h8 : 100000 * (up + dn) ^ (r + 1) = dn * (100000 * (up + dn) ^ r) + up * (100000 * (up + dn) ^ r) := by
      rw [Int.pow_succ, ← Int.add_mul, Int.add_comm dn up, Int.mul_comm ((up + dn) ^ r), Int.mul_left_comm]
    simp only [f_V]
    generalize f_V up dn dv t ki st am fr r (d + 1) (k + 1) = A at *
    generalize f_V up dn dv t ki st am fr r (d + 1) k = B at *
    generalize f_pays ki st (f_price up dn dv t fr d k) * (up + dn) ^ (r + 1) = C at *
    split <;> omega
theorem f_num_bd {up dn : Int} {dv : Nat → Int} {t : Nat} {ki st ex am fr : Int} (hup : 1 ≤ up ∧ up ≤ 10) (hdn : 1 ≤ dn ∧ dn ≤ 10) (hdv : ∀ j, 0 ≤ dv j ∧ dv j ≤ 1000) (hst : 0 ≤ st ∧ st ≤ 20000) (hfr : -30000 ≤ fr ∧ fr ≤ 30000) (hex : ex ≤ (t : Int) + 10) : 0 ≤ f_num up dn dv t ki st ex am fr ∧ f_num up dn dv t ki st ex am fr ≤ 100000 * f_den up dn t ex ∧ 1 ≤ f_den up dn t ex ∧ f_den up dn t ex ≤ 10240000000000 := by
  have h1 := f_den_bd (w := up + dn) (by omega) (r := (ex - (t : Int)).toNat) (by omega)
  have h2 := f_V_bw hup hdn hdv hst hfr (ki := ki) (am := am) (t := t) (ex - (t : Int)).toNat 0 0 (by omega) (by omega)
  unfold f_num f_den
  split
  · omega
  · omega
theorem f_mark_bd {up dn : Int} {dv : Nat → Int} {t : Nat} {ki st ex am fr : Int} (hup : 1 ≤ up ∧ up ≤ 10) (hdn : 1 ≤ dn ∧ dn ≤ 10) (hdv : ∀ j, 0 ≤ dv j ∧ dv j ≤ 1000) (hst : 0 ≤ st ∧ st ≤ 20000) (hfr : -30000 ≤ fr ∧ fr ≤ 30000) (hex : ex ≤ (t : Int) + 10) : 0 ≤ f_mark up dn dv t ki st ex am fr ∧ f_mark up dn dv t ki st ex am fr ≤ 100001000 := by
  have h1 := f_num_bd hup hdn hdv hst hfr hex (ki := ki) (am := am)
  unfold f_mark
  generalize f_num up dn dv t ki st ex am fr = v at *
  generalize f_den up dn t ex = w at *
  have h2 := f_mk_bd (v := v) (w := w) ⟨h1.1, by omega⟩ h1.2.2
  have h3 : v / w ≤ 100000 := by
    have := Int.ediv_le_ediv (c := w) (by omega) h1.2.1
    rw [Int.mul_ediv_cancel _ (by omega)] at this
    exact this
  unfold f_mk
  omega
theorem f_worth_bd {up dn : Int} {dv : Nat → Int} {t : Nat} {K St Ex Am ho : Nat → Int} {cash sh fr : Int} (hup : 1 ≤ up ∧ up ≤ 10) (hdn : 1 ≤ dn ∧ dn ≤ 10) (hdv : ∀ j, 0 ≤ dv j ∧ dv j ≤ 1000) (hSt : ∀ j, 0 ≤ St j ∧ St j ≤ 20000) (hfr : -30000 ≤ fr ∧ fr ≤ 30000) (hho : ∀ j, -1000000 ≤ ho j ∧ ho j ≤ 1000000) (hc : -100000000000000000 ≤ cash ∧ cash ≤ 100000000000000000) (hsh : -100000 ≤ sh ∧ sh ≤ 100000) : ∀ i : Nat, (∀ c, c < i → Ex c ≤ (t : Int) + 10) → -110000000000000000 - 300000000000000 * (i : Int) ≤ f_worth up dn dv t K St Ex Am ho cash sh fr i ∧ f_worth up dn dv t K St Ex Am ho cash sh fr i ≤ 110000000000000000 + 300000000000000 * (i : Int)
  | 0, _ => by
    have h1 := f_mul_bd (a := 1000 * fr + 30000000) (A := 60000000) (b := sh + 100000) (B := 200000) (by omega) (by omega) (by omega) (by omega)
    have h2 : (1000 * fr + 30000000) * (sh + 100000) = 1000 * fr * sh + 1000 * fr * 100000 + 30000000 * sh + 30000000 * 100000 := by
      rw [Int.add_mul, Int.mul_add, Int.mul_add]; omega
    simp only [f_worth]
    generalize 1000 * fr * sh = q at *
    omega
  | i + 1, h => by
    have h1 := f_worth_bd hup hdn hdv hSt hfr hho hc hsh i (fun c hc => h c (by omega)) (K := K) (Am := Am)
    have h2 := f_mark_bd hup hdn hdv (hSt i) hfr (h i (by omega)) (ki := K i) (am := Am i)
    have h3 := hho i
    have h4 := f_mul_bd (a := ho i + 1000000) (A := 2000000) (b := f_mark up dn dv t (K i) (St i) (Ex i) (Am i) fr) (B := 100001000) (by omega) (by omega) h2.1 h2.2
    rw [Int.add_mul] at h4
    simp only [f_worth]
    generalize ho i * f_mark up dn dv t (K i) (St i) (Ex i) (Am i) fr = q at *
    omega
theorem f_W_bd {up dn : Int} {dv : Nat → Int} {t n : Nat} {K St Ex Am He Ca : Nat → Int} {sh fr : Int} (hup : 1 ≤ up ∧ up ≤ 10) (hdn : 1 ≤ dn ∧ dn ≤ 10) (hdv : ∀ j, 0 ≤ dv j ∧ dv j ≤ 1000) (hSt : ∀ j, 0 ≤ St j ∧ St j ≤ 20000) (hfr : -30000 ≤ fr ∧ fr ≤ 30000) (hHe : ∀ j, -1000000 ≤ He j ∧ He j ≤ 1000000) (hc : -100000000000000000 ≤ Ca 6 ∧ Ca 6 ≤ 100000000000000000) (hsh : -100000 ≤ sh ∧ sh ≤ 100000) (hexs : ∀ c, c < n → Ex c ≤ (t : Int) + 10 ∧ Ex c ≤ 200) (hn : n ≤ 12) : -120000000000000000 ≤ f_W up dn dv t n K St Ex Am He Ca sh fr ∧ f_W up dn dv t n K St Ex Am He Ca sh fr ≤ 120000000000000000 := by
  have h := f_worth_bd hup hdn hdv hSt hfr (fun j => hHe (7 * j + 6)) hc hsh n (fun c hc => (hexs c hc).1) (K := K) (Am := Am)
  unfold f_W
  omega
/-- the greatest number that divides both -/
def f_g (a b : Int) : Int := (Nat.gcd a.toNat b.toNat : Nat)
theorem f_g_mod {p q : Int} (hp : 0 ≤ p) (hq : 0 < q) : f_g q (p % q) = f_g p q := by
  unfold f_g
  rw [Int.toNat_emod hp (by omega), Nat.gcd_comm q.toNat, ← Nat.gcd_rec, Nat.gcd_comm]
theorem f_g_0 {p : Int} (hp : 0 ≤ p) : f_g p 0 = p := by
  unfold f_g
  simp
  omega
theorem f_g_bd {a b : Int} (ha : 1 ≤ a) : 1 ≤ f_g a b ∧ f_g a b ≤ a := by
  unfold f_g
  have h1 : 0 < Nat.gcd a.toNat b.toNat := Nat.gcd_pos_of_pos_left _ (by omega)
  have h2 : Nat.gcd a.toNat b.toNat ≤ a.toNat := Nat.gcd_le_left _ (by omega)
  omega
theorem f_zero_at (f : Nat → Int) (i : Nat) : f_zero f i i = f i := by simp [f_zero]
theorem f_zero_bd {f : Nat → Int} {hi : Int} (h : ∀ j, 0 ≤ f j ∧ f j ≤ hi) (h0 : 0 ≤ hi) (i : Nat) : ∀ j, 0 ≤ f_zero f i j ∧ f_zero f i j ≤ hi := by
  intro j
  unfold f_zero
  split
  · omega
  · exact h j
/-! the faults of quotes -/
def f_q (Ov BL AL : Nat → Int) (c : Nat) : Prop := Ov c = 0 ∧ 0 < BL c ∧ 0 < AL c
def f_AS (K St Ex Am : Nat → Int) (c o : Nat) : Prop := K c = K o ∧ Am c = Am o ∧ Ex c = Ex o ∧ St c ≠ St o
def f_AE (K St Ex Am : Nat → Int) (c o : Nat) : Prop := K c = K o ∧ Am c = Am o ∧ St c = St o ∧ Ex c ≠ Ex o
def f_F2 (K St Ex Am Bi As : Nat → Int) (c o : Nat) : Prop := f_AS K St Ex Am c o ∧ ((K c = 0 ∧ St o < St c) ∨ (K c ≠ 0 ∧ St c < St o)) ∧ As o < Bi c
def f_F4 (K St Ex Am Bi As : Nat → Int) (c o : Nat) : Prop := Am c ≠ 0 ∧ f_AE K St Ex Am c o ∧ Ex c < Ex o ∧ As o < Bi c
/-- what isMiddle asks of p, but for the prices -/
def f_I (K St Ex Am Ov BL AL : Nat → Int) (c o p : Nat) : Prop := f_q Ov BL AL p ∧ f_AS K St Ex Am c o ∧ f_AS K St Ex Am c p ∧ St o < St p ∧ St o + St p = 2 * St c
def f_M (K St Ex Am Ov Bi As BL AL : Nat → Int) (c o p : Nat) : Prop := f_I K St Ex Am Ov BL AL c o p ∧ As o + As p < 2 * Bi c
def f_F (n : Nat) (K St Ex Am Ov Bi As BL AL : Nat → Int) (k : Int) (c o : Nat) : Prop := f_q Ov BL AL c ∧ f_q Ov BL AL o ∧ ((k = 1 ∧ c = o ∧ As c ≤ Bi c) ∨ (k = 2 ∧ f_F2 K St Ex Am Bi As c o) ∨ (k = 3 ∧ ∃ p, p < n ∧ f_M K St Ex Am Ov Bi As BL AL c o p) ∨ (k = 4 ∧ f_F4 K St Ex Am Bi As c o))
def f_L (F : Int → Nat → Nat → Prop) (n : Nat) (x : Int) (dn : Nat → Nat → Prop) : Prop := (x = 9 ∨ (1 ≤ x ∧ x ≤ 4 ∧ ∃ c o, c < n ∧ o < n ∧ F x c o)) ∧ ∀ c o k, dn c o → F k c o → x ≤ k
/-- r is the first fault -/
def f_isF (F : Int → Nat → Nat → Prop) (n : Nat) (r : Int) : Prop := (r = 0 ∧ ∀ c o k, c < n → o < n → ¬ F k c o) ∨ (1 ≤ r ∧ r ≤ 4 ∧ (∃ c o, c < n ∧ o < n ∧ F r c o) ∧ ∀ c o k, c < n → o < n → F k c o → r ≤ k)
theorem f_isF_one {F : Int → Nat → Nat → Prop} {n : Nat} {r q : Int} (h1 : f_isF F n r) (h2 : f_isF F n q) : r = q := by
  rcases h1 with ⟨a1, b1⟩ | ⟨a1, b1, ⟨c, o, hc, ho, hf⟩, d1⟩
  · rcases h2 with ⟨a2, b2⟩ | ⟨a2, b2, ⟨c, o, hc, ho, hf⟩, d2⟩
    · omega
    · exact absurd hf (b1 c o q hc ho)
  · rcases h2 with ⟨a2, b2⟩ | ⟨a2, b2, ⟨c2, o2, hc2, ho2, hf2⟩, d2⟩
    · exact absurd hf (b2 c o r hc ho)
    · have := d1 c2 o2 q hc2 ho2 hf2
      have := d2 c o r hc ho hf
      omega
theorem f_L_le {F : Int → Nat → Nat → Prop} {n : Nat} {x : Int} {dn : Nat → Nat → Prop} (h : f_L F n x dn) : 1 ≤ x ∧ x ≤ 9 := by
  rcases h.1 with h | h <;> omega
theorem f_L_more {F : Int → Nat → Nat → Prop} {n : Nat} {x : Int} {dn dn' : Nat → Nat → Prop} (h : f_L F n x dn) (hd : ∀ c o, dn' c o → dn c o ∨ ∀ k, ¬ F k c o) : f_L F n x dn' :=
  ⟨h.1, fun c o k hq hf => (hd c o hq).elim (fun z => h.2 c o k z hf) (fun z => absurd hf (z k))⟩
theorem f_L_put {F : Int → Nat → Nat → Prop} {n : Nat} {x v y : Int} {i j : Nat} {dn dn' : Nat → Nat → Prop} (h : f_L F n x dn) (hi : i < n) (hj : j < n) (hv : (v = 9 ∨ (1 ≤ v ∧ v ≤ 4 ∧ F v i j)) ∧ ∀ k, F k i j → v ≤ k) (hy : (v < x ∧ y = v) ∨ (x ≤ v ∧ y = x)) (hd : ∀ c o, dn' c o → dn c o ∨ (c = i ∧ o = j)) : f_L F n y dn' := by
  refine ⟨?_, fun c o k hq hf => ?_⟩
  · rcases hy with ⟨a, rfl⟩ | ⟨a, rfl⟩
    · rcases hv.1 with b | ⟨b1, b2, b3⟩
      · exact Or.inl b
      · exact Or.inr ⟨b1, b2, i, j, hi, hj, b3⟩
    · exact h.1
  · rcases hd c o hq with z | ⟨rfl, rfl⟩
    · have := h.2 c o k z hf
      omega
    · have := hv.2 k hf
      omega
theorem f_L_end {F : Int → Nat → Nat → Prop} {n : Nat} {x : Int} {dn : Nat → Nat → Prop} (h : f_L F n x dn) (hd : ∀ c o, c < n → o < n → dn c o) (hb : ∀ c o k, F k c o → k ≤ 4) : f_isF F n (if x = 9 then 0 else x) := by
  rcases h.1 with a | ⟨a1, a2, a3⟩
  · rw [if_pos a]
    refine Or.inl ⟨rfl, fun c o k hc ho hf => ?_⟩
    have := h.2 c o k (hd c o hc ho) hf
    have := hb c o k hf
    omega
  · rw [if_neg (by omega)]
    exact Or.inr ⟨a1, a2, a3, fun c o k hc ho hf => h.2 c o k (hd c o hc ho) hf⟩
theorem f_F_le {n : Nat} {K St Ex Am Ov Bi As BL AL : Nat → Int} {k : Int} {c o : Nat} (h : f_F n K St Ex Am Ov Bi As BL AL k c o) : 1 ≤ k ∧ k ≤ 4 := by
  rcases h.2.2 with h | h | h | h <;> omega
/-- what faultOf answers -/
def f_fo (K St Ex Am Bi As : Nat → Int) (c o : Nat) (u : Int) : Prop := (c = o ∧ ((u = 1 ∧ As c ≤ Bi c) ∨ (u = 9 ∧ Bi c < As c))) ∨ (c ≠ o ∧ ((u = 2 ∧ f_F2 K St Ex Am Bi As c o) ∨ (u = 4 ∧ ¬ f_F2 K St Ex Am Bi As c o ∧ f_F4 K St Ex Am Bi As c o) ∨ (u = 9 ∧ ¬ f_F2 K St Ex Am Bi As c o ∧ ¬ f_F4 K St Ex Am Bi As c o)))
theorem f_fo_in {K St Ex Am Bi As : Nat → Int} {c o : Nat} {u : Int} (h : f_fo K St Ex Am Bi As c o u) : 1 ≤ u ∧ u ≤ 9 := by
  rcases h with ⟨a, h | h⟩ | ⟨a, h | h | h⟩ <;> omega
theorem f_F2_ne {K St Ex Am Bi As : Nat → Int} {c : Nat} : ¬ f_F2 K St Ex Am Bi As c c := fun h => h.1.2.2.2 rfl
theorem f_F4_ne {K St Ex Am Bi As : Nat → Int} {c : Nat} : ¬ f_F4 K St Ex Am Bi As c c := fun h => h.2.1.2.2.2 rfl
theorem f_v1 {n : Nat} {K St Ex Am Ov Bi As BL AL : Nat → Int} {c o : Nat} {u : Int} (h1 : f_q Ov BL AL c) (h2 : f_q Ov BL AL o) (hf : f_fo K St Ex Am Bi As c o u) (hm : u ≤ 3 ∨ ∀ p, p < n → ¬ f_M K St Ex Am Ov Bi As BL AL c o p) : (u = 9 ∨ (1 ≤ u ∧ u ≤ 4 ∧ f_F n K St Ex Am Ov Bi As BL AL u c o)) ∧ ∀ k, f_F n K St Ex Am Ov Bi As BL AL k c o → u ≤ k := by
  have hm3 : ∀ k, k = 3 → (∃ p, p < n ∧ f_M K St Ex Am Ov Bi As BL AL c o p) → u ≤ k := fun k hk ⟨p, hp, q⟩ => by
    rcases hm with z | z
    · omega
    · exact absurd q (z p hp)
  rcases hf with ⟨rfl, ⟨rfl, h⟩ | ⟨rfl, h⟩⟩ | ⟨hne, ⟨rfl, h⟩ | ⟨rfl, h3, h⟩ | ⟨rfl, h3, h⟩⟩
  · exact ⟨Or.inr ⟨by omega, by omega, h1, h2, Or.inl ⟨rfl, rfl, h⟩⟩, fun k q => (f_F_le q).1⟩
  · refine ⟨Or.inl rfl, fun k q => ?_⟩
    rcases q.2.2 with q | q | q | q
    · omega
    · exact absurd q.2 f_F2_ne
    · exact hm3 k q.1 q.2
    · exact absurd q.2 f_F4_ne
  · refine ⟨Or.inr ⟨by omega, by omega, h1, h2, Or.inr (Or.inl ⟨rfl, h⟩)⟩, fun k q => ?_⟩
    rcases q.2.2 with q | q | q | q
    · exact absurd q.2.1 hne
    · omega
    · omega
    · omega
  · refine ⟨Or.inr ⟨by omega, by omega, h1, h2, Or.inr (Or.inr (Or.inr ⟨rfl, h⟩))⟩, fun k q => ?_⟩
    rcases q.2.2 with q | q | q | q
    · exact absurd q.2.1 hne
    · exact absurd q.2 h3
    · exact hm3 k q.1 q.2
    · omega
  · refine ⟨Or.inl rfl, fun k q => ?_⟩
    rcases q.2.2 with q | q | q | q
    · exact absurd q.2.1 hne
    · exact absurd q.2 h3
    · exact hm3 k q.1 q.2
    · exact absurd q.2 h
theorem f_v3 {n : Nat} {K St Ex Am Ov Bi As BL AL : Nat → Int} {c o : Nat} {u : Int} (h1 : f_q Ov BL AL c) (h2 : f_q Ov BL AL o) (hf : f_fo K St Ex Am Bi As c o u) (hu : 3 < u) (hm : ∃ p, p < n ∧ f_M K St Ex Am Ov Bi As BL AL c o p) : ((3 : Int) = 9 ∨ ((1 : Int) ≤ 3 ∧ (3 : Int) ≤ 4 ∧ f_F n K St Ex Am Ov Bi As BL AL 3 c o)) ∧ ∀ k, f_F n K St Ex Am Ov Bi As BL AL k c o → 3 ≤ k := by
  refine ⟨Or.inr ⟨by omega, by omega, h1, h2, Or.inr (Or.inr (Or.inl ⟨rfl, hm⟩))⟩, fun k q => ?_⟩
  rcases hf with ⟨rfl, ⟨rfl, h⟩ | ⟨rfl, h⟩⟩ | ⟨hne, ⟨rfl, h⟩ | ⟨rfl, h3, h⟩ | ⟨rfl, h3, h⟩⟩
  · omega
  · rcases q.2.2 with q | q | q | q
    · omega
    · exact absurd q.2 f_F2_ne
    · omega
    · omega
  · omega
  · rcases q.2.2 with q | q | q | q
    · exact absurd q.2.1 hne
    · exact absurd q.2 h3
    · omega
    · omega
  · rcases q.2.2 with q | q | q | q
    · exact absurd q.2.1 hne
    · exact absurd q.2 h3
    · omega
    · omega
/-- prices that differ only where there is no quote make the same faults -/
theorem f_F_congr {n : Nat} {K St Ex Am Ov Bi As Bi' As' BL AL : Nat → Int} (h : ∀ c, c < n → f_q Ov BL AL c → Bi c = Bi' c ∧ As c = As' c) {k : Int} {c o : Nat} (hc : c < n) (ho : o < n) : f_F n K St Ex Am Ov Bi As BL AL k c o → f_F n K St Ex Am Ov Bi' As' BL AL k c o := by
  rintro ⟨h1, h2, h3⟩
  have e1 := h c hc h1
  have e2 := h o ho h2
  refine ⟨h1, h2, ?_⟩
  rcases h3 with ⟨a, b, d⟩ | ⟨a, b⟩ | ⟨a, p, hp, b, d⟩ | ⟨a, b⟩
  · exact Or.inl ⟨a, b, by omega⟩
  · exact Or.inr (Or.inl ⟨a, b.1, b.2.1, by have := b.2.2; omega⟩)
  · have e3 := h p hp b.1
    exact Or.inr (Or.inr (Or.inl ⟨a, p, hp, b, by omega⟩))
  · exact Or.inr (Or.inr (Or.inr ⟨a, b.1, b.2.1, b.2.2.1, by have := b.2.2.2; omega⟩))
theorem ex_step {M : Nat → Prop} {i : Nat} {x y : Int} (h : (x = 1 ∧ ∃ p, p < i ∧ M p) ∨ (x = 0 ∧ ∀ p, p < i → ¬ M p)) (hy : (y = 1 ∧ (x ≠ 0 ∨ M i)) ∨ (y = 0 ∧ x = 0 ∧ ¬ M i)) : (y = 1 ∧ ∃ p, p < i + 1 ∧ M p) ∨ (y = 0 ∧ ∀ p, p < i + 1 → ¬ M p) := by
  rcases hy with ⟨a, b⟩ | ⟨a, b, d⟩
  · refine Or.inl ⟨a, ?_⟩
    rcases b with b | b
    · rcases h with ⟨_, p, hp, q⟩ | ⟨h, _⟩
      · exact ⟨p, by omega, q⟩
      · exact absurd h b
    · exact ⟨i, by omega, b⟩
  · refine Or.inr ⟨a, fun p hp q => ?_⟩
    rcases h with ⟨h, _⟩ | ⟨_, h⟩
    · omega
    · by_cases e : p = i
      · subst e; exact d q
      · exact h p (by omega) q
/-! orders -/
theorem up_id (f : Nat → Int) (k : Nat) : va_up f k (f k) = f := by
  funext j
  by_cases e : j = k
  · subst e; rw [va_up_self]
  · rw [va_up_ne f _ e]
def f_dHe (He : Nat → Int) (c k : Nat) (q : Int) : Nat → Int := va_up (va_up He (7 * c + k) (He (7 * c + k) + q)) (7 * c + 6) ((va_up He (7 * c + k) (He (7 * c + k) + q)) (7 * c + 6) - q)
def f_dCa (Ca : Nat → Int) (k : Nat) (p q : Int) : Nat → Int := va_up (va_up Ca k (Ca k - 1000 * p * q)) 6 ((va_up Ca k (Ca k - 1000 * p * q)) 6 + 1000 * p * q)
theorem f_dHe_0 (He : Nat → Int) (c k : Nat) : f_dHe He c k 0 = He := by
  unfold f_dHe
  rw [Int.add_zero, up_id, Int.sub_zero, up_id]
theorem f_dCa_0 (Ca : Nat → Int) (k : Nat) (p : Int) : f_dCa Ca k p 0 = Ca := by
  unfold f_dCa
  rw [Int.mul_zero, Int.sub_zero, up_id, Int.add_zero, up_id]
/-- how many lots go to the customer, below 0 from him -/
def f_oq (x y bi ak bl al he mo : Int) : Int := if 0 < x then (if ak ≤ y then max 0 (min (min x al) (he + mo)) else 0) else (if y ≤ bi then -(max 0 (min (min (-x) bl) (mo - he))) else 0)
theorem f_oq_bd {x y bi ak bl al he mo : Int} (hx : -100 ≤ x ∧ x ≤ 100) (hb : 0 ≤ bl) (ha : 0 ≤ al) : -100 ≤ f_oq x y bi ak bl al he mo ∧ f_oq x y bi ak bl al he mo ≤ 100 ∧ (0 < x → 0 ≤ f_oq x y bi ak bl al he mo ∧ f_oq x y bi ak bl al he mo ≤ al) ∧ (x ≤ 0 → f_oq x y bi ak bl al he mo ≤ 0 ∧ -f_oq x y bi ak bl al he mo ≤ bl) := by
  unfold f_oq
  (repeat' split) <;> omega
theorem f_dHe_bd {He : Nat → Int} {c k : Nat} {q : Int} (h : ∀ j, -999000 ≤ He j ∧ He j ≤ 999000) (hq : -100 ≤ q ∧ q ≤ 100) : ∀ j, -1000000 ≤ f_dHe He c k q j ∧ f_dHe He c k q j ≤ 1000000 := by
  intro j
  have h1 := h (7 * c + k)
  have h2 := h (7 * c + 6)
  have h3 := h j
  simp only [f_dHe, va_up]
  (repeat' split) <;> omega
/-! exercise -/
/-- how many lots are owed by the first h holders -/
def f_ow (He : Nat → Int) (c : Nat) : Nat → Int
  | 0 => 0
  | h + 1 => f_ow He c h + (if He (7 * c + h) < 0 then -He (7 * c + h) else 0)
theorem f_ow_nn (He : Nat → Int) (c : Nat) : ∀ h, 0 ≤ f_ow He c h
  | 0 => by simp [f_ow]
  | h + 1 => by
    have := f_ow_nn He c h
    simp only [f_ow]
    split <;> omega
theorem f_ow_mono (He : Nat → Int) (c : Nat) {a b : Nat} (h : a ≤ b) : f_ow He c a ≤ f_ow He c b := by
  induction b with
  | zero =>
    obtain rfl : a = 0 := by omega
    exact Int.le_refl _
  | succ b ih =>
    by_cases e : a = b + 1
    · subst e; exact Int.le_refl _
    · have h1 := ih (by omega)
      have h2 : f_ow He c b ≤ f_ow He c (b + 1) := by
        simp only [f_ow]
        split <;> omega
      omega
theorem f_ow_bd {He : Nat → Int} {c : Nat} (h : ∀ j, -1000000 ≤ He j ∧ He j ≤ 1000000) : ∀ i : Nat, f_ow He c i ≤ 1000000 * (i : Int)
  | 0 => by simp [f_ow]
  | i + 1 => by
    have h1 := f_ow_bd h (c := c) i
    have h2 := h (7 * c + i)
    simp only [f_ow]
    split <;> omega
def f_py (He : Nat → Int) (c : Nat) (pk : Int) : Nat := if pk < f_ow He c 1 then 0 else if pk < f_ow He c 2 then 1 else if pk < f_ow He c 3 then 2 else if pk < f_ow He c 4 then 3 else if pk < f_ow He c 5 then 4 else if pk < f_ow He c 6 then 5 else 6
theorem f_py_eq {He : Nat → Int} {c h : Nat} {pk : Int} (h6 : h ≤ 6) (h1 : f_ow He c h ≤ pk) (h2 : pk < f_ow He c (h + 1)) : f_py He c pk = h := by
  have m1 := f_ow_mono He c (show 1 ≤ 2 by omega)
  have m2 := f_ow_mono He c (show 2 ≤ 3 by omega)
  have m3 := f_ow_mono He c (show 3 ≤ 4 by omega)
  have m4 := f_ow_mono He c (show 4 ≤ 5 by omega)
  have m5 := f_ow_mono He c (show 5 ≤ 6 by omega)
  have m6 := f_ow_mono He c (show 6 ≤ 7 by omega)
  unfold f_py
  rcases (show h = 0 ∨ h = 1 ∨ h = 2 ∨ h = 3 ∨ h = 4 ∨ h = 5 ∨ h = 6 by omega) with rfl | rfl | rfl | rfl | rfl | rfl | rfl <;> (repeat' split) <;> omega
theorem f_py_le (He : Nat → Int) (c : Nat) (pk : Int) : f_py He c pk ≤ 6 := by
  unfold f_py
  (repeat' split) <;> omega
theorem f_py_sp {He : Nat → Int} {c : Nat} {pk : Int} (h0 : 0 ≤ pk) (h7 : pk < f_ow He c 7) : f_ow He c (f_py He c pk) ≤ pk ∧ pk < f_ow He c (f_py He c pk + 1) := by
  have e0 : f_ow He c 0 = 0 := rfl
  unfold f_py
  have r1 : f_ow He c (0 + 1) = f_ow He c 1 := rfl
  have r2 : f_ow He c (1 + 1) = f_ow He c 2 := rfl
  have r3 : f_ow He c (2 + 1) = f_ow He c 3 := rfl
  have r4 : f_ow He c (3 + 1) = f_ow He c 4 := rfl
  have r5 : f_ow He c (4 + 1) = f_ow He c 5 := rfl
  have r6 : f_ow He c (5 + 1) = f_ow He c 6 := rfl
  have r7 : f_ow He c (6 + 1) = f_ow He c 7 := rfl
  (repeat' split) <;> constructor <;> omega
theorem f_py_neg {He : Nat → Int} {c : Nat} {pk : Int} (h0 : 0 ≤ pk) (h7 : pk < f_ow He c 7) : He (7 * c + f_py He c pk) < 0 := by
  have h := f_py_sp h0 h7
  generalize f_py He c pk = j at *
  simp only [f_ow] at h
  split at h <;> omega
def f_sd (sd : Int) : Int := (1103515245 * sd + 12345) % 2147483648
theorem f_sd_bd (sd : Int) : 0 ≤ f_sd sd ∧ f_sd sd ≤ 2147483647 := by
  unfold f_sd
  omega
def f_pk (He : Nat → Int) (sd : Int) (c : Nat) : Int := f_sd sd / 65536 % f_ow He c 7
def f_xHe (He : Nat → Int) (c k h : Nat) : Nat → Int := va_up (va_up He (7 * c + h) (He (7 * c + h) + 1)) (7 * c + k) ((va_up He (7 * c + h) (He (7 * c + h) + 1)) (7 * c + k) - 1)
def f_xCa (Ca : Nat → Int) (k h : Nat) (br : Int) : Nat → Int := va_up (va_up Ca h (Ca h - 1000 * br)) k ((va_up Ca h (Ca h - 1000 * br)) k + 1000 * br)
/-- lots, cash and seed behind one lot of the holder k that is exercised; behind i lots -/
def f_x1 (c k : Nat) (br : Int) (s : (Nat → Int) × (Nat → Int) × Int) : (Nat → Int) × (Nat → Int) × Int := (f_xHe s.1 c k (f_py s.1 c (f_pk s.1 s.2.2 c)), f_xCa s.2.1 k (f_py s.1 c (f_pk s.1 s.2.2 c)) br, f_sd s.2.2)
def f_xN (c k : Nat) (br : Int) : Nat → (Nat → Int) × (Nat → Int) × Int → (Nat → Int) × (Nat → Int) × Int
  | 0, s => s
  | i + 1, s => f_x1 c k br (f_xN c k br i s)
/-- the lots of the first h holders together -/
def f_s7 (He : Nat → Int) (c : Nat) : Nat → Int
  | 0 => 0
  | h + 1 => f_s7 He c h + He (7 * c + h)
theorem f_s7_up (He : Nat → Int) (c : Nat) (h : Nat) (v : Int) : ∀ j, f_s7 (va_up He (7 * c + h) v) c j = f_s7 He c j + (if h < j then v - He (7 * c + h) else 0)
  | 0 => by simp [f_s7]
  | j + 1 => by
    have h1 := f_s7_up He c h v j
    simp only [f_s7]
    rw [h1]
    by_cases e : h = j
    · subst e
      rw [va_up_self, if_neg (by omega), if_pos (by omega)]
      omega
    · rw [va_up_ne He v (show 7 * c + j ≠ 7 * c + h by omega)]
      by_cases q : h < j
      · rw [if_pos q, if_pos (by omega)]; omega
      · rw [if_neg q, if_neg (by omega)]; omega
theorem f_s7_ow (He : Nat → Int) (c k : Nat) : ∀ j, -f_ow He c j ≤ f_s7 He c j ∧ (k < j → 0 ≤ He (7 * c + k) → He (7 * c + k) - f_ow He c j ≤ f_s7 He c j)
  | 0 => by simp [f_s7, f_ow]
  | j + 1 => by
    have h1 := f_s7_ow He c k j
    simp only [f_s7, f_ow]
    refine ⟨by split <;> omega, fun hk hp => ?_⟩
    by_cases e : k = j
    · subst e
      rw [if_neg (by omega)]
      omega
    · have h2 := h1.2 (by omega) hp
      split <;> omega
theorem f_xHe_s7 {He : Nat → Int} {c k h : Nat} (hk : k ≤ 6) (hh : h ≤ 6) : f_s7 (f_xHe He c k h) c 7 = f_s7 He c 7 := by
  unfold f_xHe
  rw [f_s7_up, f_s7_up, if_pos (by omega), if_pos (by omega)]
  omega
/-- what holds while lots of one holder are exercised: L are left -/
def f_xI (c k : Nat) (L : Int) (s : (Nat → Int) × (Nat → Int) × Int) : Prop := (∀ j, -1000000 ≤ s.1 j ∧ s.1 j ≤ 1000000) ∧ (0 ≤ s.2.2 ∧ s.2.2 ≤ 2147483647) ∧ f_s7 s.1 c 7 = 0 ∧ s.1 (7 * c + k) = L
theorem f_xI_ow {c k : Nat} {L : Int} {s : (Nat → Int) × (Nat → Int) × Int} (hk : k ≤ 6) (hL : 0 ≤ L) (h : f_xI c k L s) : L ≤ f_ow s.1 c 7 ∧ f_ow s.1 c 7 ≤ 7000000 := by
  have h1 := (f_s7_ow s.1 c k 7).2 (by omega) (by rw [h.2.2.2]; exact hL)
  have h2 := f_ow_bd h.1 (c := c) 7
  rw [h.2.2.2, h.2.2.1] at h1
  omega
theorem f_pk_bd {He : Nat → Int} {sd : Int} {c : Nat} (h : 0 < f_ow He c 7) : 0 ≤ f_pk He sd c ∧ f_pk He sd c < f_ow He c 7 := by
  unfold f_pk
  exact ⟨Int.emod_nonneg _ (by omega), Int.emod_lt_of_pos _ h⟩
theorem f_xI_1 {c k : Nat} {L br : Int} {s : (Nat → Int) × (Nat → Int) × Int} (hk : k ≤ 6) (hL : 1 ≤ L) (h : f_xI c k L s) : f_xI c k (L - 1) (f_x1 c k br s) ∧ f_py s.1 c (f_pk s.1 s.2.2 c) ≠ k ∧ f_py s.1 c (f_pk s.1 s.2.2 c) ≤ 6 := by
  have ho := f_xI_ow hk (by omega) h
  have hp := f_pk_bd (He := s.1) (sd := s.2.2) (c := c) (by omega)
  have hn := f_py_neg hp.1 hp.2
  have h6 := f_py_le s.1 c (f_pk s.1 s.2.2 c)
  have hne : f_py s.1 c (f_pk s.1 s.2.2 c) ≠ k := by
    intro e
    rw [e, h.2.2.2] at hn
    omega
  refine ⟨⟨fun j => ?_, f_sd_bd _, ?_, ?_⟩, hne, h6⟩
  · have h1 := h.1 j
    have h2 := h.2.2.2
    simp only [f_x1, f_xHe, va_up]
    generalize f_py s.1 c (f_pk s.1 s.2.2 c) = q at *
    have h3 := h.1 (7 * c + q)
    have h4 := h.1 (7 * c + k)
    by_cases e : j = 7 * c + k
    · rw [if_pos e, if_neg (by omega)]; omega
    · rw [if_neg e]
      by_cases e2 : j = 7 * c + q
      · rw [if_pos e2]; omega
      · rw [if_neg e2]; exact h1
  · show f_s7 (f_xHe s.1 c k _) c 7 = 0
    rw [f_xHe_s7 hk h6]
    exact h.2.2.1
  · simp only [f_x1, f_xHe]
    rw [va_up_self, va_up_ne _ _ (by omega), h.2.2.2]
theorem f_xI_N {c k : Nat} {L br : Int} {s : (Nat → Int) × (Nat → Int) × Int} (hk : k ≤ 6) (h : f_xI c k L s) : ∀ i : Nat, (i : Int) ≤ L → f_xI c k (L - (i : Int)) (f_xN c k br i s)
  | 0, _ => by
    simp only [f_xN]
    rw [show L - ((0 : Nat) : Int) = L by omega]
    exact h
  | i + 1, hi => by
    have h1 := f_xI_N hk h (br := br) i (by omega)
    have h2 := (f_xI_1 (br := br) hk (by omega) h1).1
    rw [show L - ((i + 1 : Nat) : Int) = L - (i : Int) - 1 by omega]
    exact h2
/-- what holds between the holders -/
def f_xJ (c : Nat) (s : (Nat → Int) × (Nat → Int) × Int) : Prop := (∀ j, -1000000 ≤ s.1 j ∧ s.1 j ≤ 1000000) ∧ (0 ≤ s.2.2 ∧ s.2.2 ≤ 2147483647) ∧ f_s7 s.1 c 7 = 0
def f_lot (Co : Nat → Int) (c h : Nat) (br : Int) (He : Nat → Int) : Int := if 0 < br ∧ Co (7 * c + h) = 0 then He (7 * c + h) else 0
/-- a contract expires: all lots of the first h holders are exercised -/
def f_exH (Co : Nat → Int) (c : Nat) (br : Int) : Nat → (Nat → Int) × (Nat → Int) × Int → (Nat → Int) × (Nat → Int) × Int
  | 0, s => s
  | h + 1, s => f_xN c h br (f_lot Co c h br (f_exH Co c br h s).1).toNat (f_exH Co c br h s)
theorem f_lot_J {Co : Nat → Int} {c h : Nat} {br : Int} {s : (Nat → Int) × (Nat → Int) × Int} (hs : f_xJ c s) (hh : h ≤ 6) : ∀ i : Nat, (i : Int) ≤ f_lot Co c h br s.1 → f_xI c h (s.1 (7 * c + h) - (i : Int)) (f_xN c h br i s) ∧ f_lot Co c h br s.1 = s.1 (7 * c + h) ∨ i = 0 := by
  intro i hi
  by_cases e : i = 0
  · exact Or.inr e
  · refine Or.inl ?_
    unfold f_lot at *
    split at hi
    · next g => exact ⟨f_xI_N (L := s.1 (7 * c + h)) hh ⟨hs.1, hs.2.1, hs.2.2, rfl⟩ i hi, by rw [if_pos g]⟩
    · omega
theorem f_xI_J {c k : Nat} {L : Int} {s : (Nat → Int) × (Nat → Int) × Int} (h : f_xI c k L s) : f_xJ c s := ⟨h.1, h.2.1, h.2.2.1⟩
theorem f_lot_Jx {Co : Nat → Int} {c h : Nat} {br : Int} {s : (Nat → Int) × (Nat → Int) × Int} (hs : f_xJ c s) (hh : h ≤ 6) {i : Nat} (hi : (i : Int) < f_lot Co c h br s.1) : f_xI c h (s.1 (7 * c + h) - (i : Int)) (f_xN c h br i s) ∧ f_lot Co c h br s.1 = s.1 (7 * c + h) := by
  unfold f_lot at *
  split at hi
  · next g => exact ⟨f_xI_N (L := s.1 (7 * c + h)) hh ⟨hs.1, hs.2.1, hs.2.2, rfl⟩ i (by omega), by rw [if_pos g]⟩
  · omega
theorem f_exH_J {Co : Nat → Int} {c : Nat} {br : Int} {s : (Nat → Int) × (Nat → Int) × Int} (hs : f_xJ c s) : ∀ h, h ≤ 7 → f_xJ c (f_exH Co c br h s)
  | 0, _ => hs
  | h + 1, hh => by
    have h1 := f_exH_J hs (Co := Co) (br := br) h (by omega)
    simp only [f_exH]
    by_cases e : 0 ≤ f_lot Co c h br (f_exH Co c br h s).1
    · rcases f_lot_J (Co := Co) (br := br) h1 (by omega : h ≤ 6) (f_lot Co c h br (f_exH Co c br h s).1).toNat (by omega) with q | q
      · exact f_xI_J q.1
      · rw [q]; exact h1
    · rw [show (f_lot Co c h br (f_exH Co c br h s).1).toNat = 0 by omega]
      exact h1
/-- the first j holders have no lots of c any more -/
def f_z7 (He : Nat → Int) (c j : Nat) : Nat → Int := fun q => if 7 * c ≤ q ∧ q < 7 * c + j then 0 else He q
theorem f_z7_0 (He : Nat → Int) (c : Nat) : f_z7 He c 0 = He := by
  funext q
  unfold f_z7
  rw [if_neg (by omega)]
theorem f_z7_up (He : Nat → Int) (c j : Nat) : va_up (f_z7 He c j) (7 * c + j) 0 = f_z7 He c (j + 1) := by
  funext q
  simp only [va_up, f_z7]
  by_cases e : q = 7 * c + j
  · rw [if_pos e, if_pos (by omega)]
  · rw [if_neg e]
    by_cases g : 7 * c ≤ q ∧ q < 7 * c + j
    · rw [if_pos g, if_pos (by omega)]
    · rw [if_neg g, if_neg (by omega)]
/-- lots, cash, seed; which are over; what is left of the sizes -/
abbrev f_T : Type := ((Nat → Int) × (Nat → Int) × Int) × (Nat → Int) × (Nat → Int) × (Nat → Int)
def f_exp (Co : Nat → Int) (c : Nat) (br : Int) (s : f_T) : f_T := ((f_z7 (f_exH Co c br 7 s.1).1 c 7, (f_exH Co c br 7 s.1).2.1, (f_exH Co c br 7 s.1).2.2), va_up s.2.1 c 1, va_up s.2.2.1 c 0, va_up s.2.2.2 c 0)
/-- the first i contracts are looked at as a day is closed -/
def f_cl (K St Ex Co : Nat → Int) (pr : Int) (t : Nat) : Nat → f_T → f_T
  | 0, s => s
  | c + 1, s => if Ex c = (t : Int) then f_exp Co c (f_pays (K c) (St c) pr) (f_cl K St Ex Co pr t c s) else f_cl K St Ex Co pr t c s
theorem f_x1_out {c k j : Nat} {br : Int} {s : (Nat → Int) × (Nat → Int) × Int} (hk : k ≤ 6) (hj : j < 7 * c ∨ 7 * c + 7 ≤ j) : (f_x1 c k br s).1 j = s.1 j := by
  have h6 := f_py_le s.1 c (f_pk s.1 s.2.2 c)
  simp only [f_x1, f_xHe]
  rw [va_up_ne _ _ (by omega), va_up_ne _ _ (by omega)]
theorem f_xN_out {c k j : Nat} {br : Int} {s : (Nat → Int) × (Nat → Int) × Int} (hk : k ≤ 6) (hj : j < 7 * c ∨ 7 * c + 7 ≤ j) : ∀ i, (f_xN c k br i s).1 j = s.1 j
  | 0 => rfl
  | i + 1 => by
    simp only [f_xN]
    rw [f_x1_out hk hj, f_xN_out hk hj i]
theorem f_exH_out {Co : Nat → Int} {c j : Nat} {br : Int} {s : (Nat → Int) × (Nat → Int) × Int} (hj : j < 7 * c ∨ 7 * c + 7 ≤ j) : ∀ h, h ≤ 7 → (f_exH Co c br h s).1 j = s.1 j
  | 0, _ => rfl
  | h + 1, hh => by
    simp only [f_exH]
    rw [f_xN_out (by omega) hj, f_exH_out hj h (by omega)]
theorem f_s7_congr {He He' : Nat → Int} {c : Nat} : ∀ j, (∀ h, h < j → He' (7 * c + h) = He (7 * c + h)) → f_s7 He' c j = f_s7 He c j
  | 0, _ => rfl
  | j + 1, hh => by
    simp only [f_s7]
    rw [f_s7_congr j (fun h hj => hh h (by omega)), hh j (by omega)]
theorem f_s7_zero {He : Nat → Int} {c : Nat} : ∀ j, (∀ h, h < j → He (7 * c + h) = 0) → f_s7 He c j = 0
  | 0, _ => rfl
  | j + 1, hh => by
    simp only [f_s7]
    rw [f_s7_zero j (fun h hj => hh h (by omega)), hh j (by omega)]
    rfl
theorem f_z7_in {He : Nat → Int} {c h : Nat} (hh : h < 7) : f_z7 He c 7 (7 * c + h) = 0 := by
  unfold f_z7
  rw [if_pos (by omega)]
theorem f_z7_out {He : Nat → Int} {c j : Nat} (hj : j < 7 * c ∨ 7 * c + 7 ≤ j) : f_z7 He c 7 j = He j := by
  unfold f_z7
  rw [if_neg (by omega)]
/-- what holds while a day is closed -/
def f_clJ (n : Nat) (s : f_T) : Prop := (∀ j, -1000000 ≤ s.1.1 j ∧ s.1.1 j ≤ 1000000) ∧ (0 ≤ s.1.2.2 ∧ s.1.2.2 ≤ 2147483647) ∧ ∀ c, c < n → f_s7 s.1.1 c 7 = 0
theorem f_exp_J {Co : Nat → Int} {n c : Nat} {br : Int} {s : f_T} (hc : c < n) (h : f_clJ n s) : f_clJ n (f_exp Co c br s) := by
  have h1 := f_exH_J (Co := Co) (br := br) (s := s.1) (c := c) ⟨h.1, h.2.1, h.2.2 c hc⟩ 7 (Nat.le_refl _)
  refine ⟨fun j => ?_, h1.2.1, fun d hd => ?_⟩
  · show -1000000 ≤ f_z7 _ c 7 j ∧ f_z7 _ c 7 j ≤ 1000000
    unfold f_z7
    split
    · omega
    · exact h1.1 j
  · show f_s7 (f_z7 _ c 7) d 7 = 0
    by_cases e : d = c
    · subst e
      exact f_s7_zero 7 (fun q hq => f_z7_in hq)
    · rw [f_s7_congr (He := s.1.1) 7 (fun q hq => by rw [f_z7_out (by omega), f_exH_out (by omega) 7 (Nat.le_refl _)])]
      exact h.2.2 d hd
theorem f_cl_J {K St Ex Co : Nat → Int} {pr : Int} {t n : Nat} {s : f_T} (h : f_clJ n s) : ∀ i, i ≤ n → f_clJ n (f_cl K St Ex Co pr t i s)
  | 0, _ => h
  | i + 1, hi => by
    have h1 := f_cl_J h (K := K) (St := St) (Ex := Ex) (Co := Co) (pr := pr) (t := t) i (by omega)
    simp only [f_cl]
    split
    · exact f_exp_J (by omega) h1
    · exact h1
theorem f_cl_Ov {K St Ex Co : Nat → Int} {pr : Int} {t : Nat} {s : f_T} (j : Nat) : ∀ i, (f_cl K St Ex Co pr t i s).2.1 j = if j < i ∧ Ex j = (t : Int) then 1 else s.2.1 j
  | 0 => by rw [if_neg (by omega)]; rfl
  | i + 1 => by
    have h1 := f_cl_Ov (K := K) (St := St) (Ex := Ex) (Co := Co) (pr := pr) (t := t) (s := s) j i
    simp only [f_cl]
    by_cases e : j = i
    · subst e
      by_cases g : Ex j = (t : Int)
      · rw [if_pos g, if_pos ⟨by omega, g⟩]
        exact va_up_self _ _ _
      · rw [if_neg g, if_neg (by omega), h1, if_neg (by omega)]
    · by_cases g : Ex i = (t : Int)
      · rw [if_pos g]
        show va_up _ i 1 j = _
        rw [va_up_ne _ _ e, h1]
        by_cases q : j < i ∧ Ex j = (t : Int)
        · rw [if_pos q, if_pos (by omega)]
        · rw [if_neg q, if_neg (by omega)]
      · rw [if_neg g, h1]
        by_cases q : j < i ∧ Ex j = (t : Int)
        · rw [if_pos q, if_pos (by omega)]
        · rw [if_neg q, if_neg (by omega)]
/-- of what expired nobody has lots, and no quote is left -/
theorem f_cl_gone {K St Ex Co : Nat → Int} {pr : Int} {t : Nat} {s : f_T} {j : Nat} (g : Ex j = (t : Int)) : ∀ i, j < i → (∀ h, h < 7 → (f_cl K St Ex Co pr t i s).1.1 (7 * j + h) = 0) ∧ (f_cl K St Ex Co pr t i s).2.2.1 j = 0 ∧ (f_cl K St Ex Co pr t i s).2.2.2 j = 0
  | 0, h => absurd h (Nat.not_lt_zero _)
  | i + 1, h => by
    simp only [f_cl]
    by_cases e : j = i
    · subst e
      rw [if_pos g]
      exact ⟨fun q hq => f_z7_in hq, va_up_self _ _ _, va_up_self _ _ _⟩
    · have h1 := f_cl_gone g (K := K) (St := St) (Co := Co) (pr := pr) (s := s) i (by omega)
      split
      · refine ⟨fun q hq => ?_, ?_, ?_⟩
        · show f_z7 _ i 7 (7 * j + q) = 0
          rw [f_z7_out (by omega), f_exH_out (by omega) 7 (Nat.le_refl _)]
          exact h1.1 q hq
        · show va_up _ i 0 j = 0
          rw [va_up_ne _ _ e]; exact h1.2.1
        · show va_up _ i 0 j = 0
          rw [va_up_ne _ _ e]; exact h1.2.2
      · exact h1
