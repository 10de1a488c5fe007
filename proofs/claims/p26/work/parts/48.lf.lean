/-- the least fault so far: of the pairs and kinds in dn none is less -/
def f_L3 (F : Int → Nat → Nat → Prop) (n : Nat) (x : Int) (dn : Nat → Nat → Int → Prop) : Prop := (x = 9 ∨ (1 ≤ x ∧ x ≤ 4 ∧ ∃ c o, c < n ∧ o < n ∧ F x c o)) ∧ ∀ c o k, c < n → o < n → dn c o k → F k c o → x ≤ k
def f_dn (i j : Nat) (P : Int → Prop) : Nat → Nat → Int → Prop := fun c o k => c < i ∨ (c = i ∧ (o < j ∨ (o = j ∧ P k)))
theorem f_L3_no {F : Int → Nat → Nat → Prop} {n : Nat} {x : Int} {i j : Nat} {P P' : Int → Prop} (h : f_L3 F n x (f_dn i j P)) (hk : ∀ k, P' k → P k ∨ x ≤ k ∨ ¬ F k i j) : f_L3 F n x (f_dn i j P') := by
  refine ⟨h.1, fun c o k hc ho hd hf => ?_⟩
  rcases hd with g | ⟨rfl, g | ⟨rfl, g⟩⟩
  · exact h.2 c o k hc ho (Or.inl g) hf
  · exact h.2 c o k hc ho (Or.inr ⟨rfl, Or.inl g⟩) hf
  · rcases hk k g with q | q | q
    · exact h.2 c o k hc ho (Or.inr ⟨rfl, Or.inr ⟨rfl, q⟩⟩) hf
    · exact q
    · exact absurd hf q
theorem f_L3_yes {F : Int → Nat → Nat → Prop} {n : Nat} {x y k0 : Int} {i j : Nat} {P P' : Int → Prop} (h : f_L3 F n x (f_dn i j P)) (hi : i < n) (hj : j < n) (h0 : 1 ≤ k0 ∧ k0 ≤ 4) (hF : F k0 i j) (hy : (x < k0 ∧ y = x) ∨ (k0 ≤ x ∧ y = k0)) (hk : ∀ k, P' k → P k ∨ k0 ≤ k) : f_L3 F n y (f_dn i j P') := by
  have h2 : f_L3 F n y (f_dn i j P) := by
    refine ⟨?_, fun c o k hc ho hd hf => ?_⟩
    · rcases hy with ⟨a, rfl⟩ | ⟨a, rfl⟩
      · exact h.1
      · exact Or.inr ⟨h0.1, h0.2, i, j, hi, hj, hF⟩
    · have := h.2 c o k hc ho hd hf
      omega
  exact f_L3_no h2 (fun k hp => (hk k hp).imp id (fun q => Or.inl (by omega)))
theorem f_L3_mono {F : Int → Nat → Nat → Prop} {n : Nat} {x : Int} {dn dn' : Nat → Nat → Int → Prop} (h : f_L3 F n x dn) (hd : ∀ c o k, c < n → o < n → dn' c o k → dn c o k) : f_L3 F n x dn' := ⟨h.1, fun c o k hc ho q hf => h.2 c o k hc ho (hd c o k hc ho q) hf⟩
theorem f_L3_0 {F : Int → Nat → Nat → Prop} {n : Nat} : f_L3 F n 9 (f_dn 0 0 (fun _ => False)) := ⟨Or.inl rfl, fun c o k hc ho hd hf => by
  rcases hd with g | ⟨g, g1 | ⟨g1, g2⟩⟩
  · omega
  · omega
  · exact g2.elim⟩
theorem f_L3_end {F : Int → Nat → Nat → Prop} {n i : Nat} {x y : Int} (h : f_L3 F n x (f_dn i 0 (fun _ => False))) (hi : n ≤ i) (hb : ∀ c o k, F k c o → 1 ≤ k ∧ k ≤ 4) (hy : (x = 9 ∧ y = 0) ∨ (x ≠ 9 ∧ y = x)) : f_isF F n y := by
  have all : ∀ c o k, c < n → o < n → F k c o → x ≤ k := fun c o k hc ho hf => h.2 c o k hc ho (Or.inl (by omega)) hf
  rcases h.1 with a | ⟨a1, a2, a3⟩
  · obtain rfl : y = 0 := by omega
    refine Or.inl ⟨rfl, fun c o k hc ho hf => ?_⟩
    have := all c o k hc ho hf
    have := hb c o k hf
    omega
  · obtain rfl : y = x := by omega
    exact Or.inr ⟨a1, a2, a3, all⟩
theorem f_L3_bd {F : Int → Nat → Nat → Prop} {n : Nat} {x : Int} {dn : Nat → Nat → Int → Prop} (h : f_L3 F n x dn) : 1 ≤ x ∧ x ≤ 9 := by
  rcases h.1 with a | ⟨a1, a2, a3⟩ <;> omega
section P3a
variable {n : Nat} {K St Ex Am Ov Bi As BL AL : Nat → Int} {i j : Nat}
theorem f_Fi1 (h1 : f_q Ov BL AL i) (h2 : f_q Ov BL AL j) : f_F n K St Ex Am Ov Bi As BL AL 1 i j ↔ (i = j ∧ As i ≤ Bi i) := by
  constructor
  · rintro ⟨-, -, h | h | h | h⟩
    · exact h.2
    · exact absurd h.1 (by decide)
    · exact absurd h.1 (by decide)
    · exact absurd h.1 (by decide)
  · exact fun h => ⟨h1, h2, Or.inl ⟨rfl, h⟩⟩
theorem f_Fi2 (h1 : f_q Ov BL AL i) (h2 : f_q Ov BL AL j) : f_F n K St Ex Am Ov Bi As BL AL 2 i j ↔ f_F2 K St Ex Am Bi As i j := by
  constructor
  · rintro ⟨-, -, h | h | h | h⟩
    · exact absurd h.1 (by decide)
    · exact h.2
    · exact absurd h.1 (by decide)
    · exact absurd h.1 (by decide)
  · exact fun h => ⟨h1, h2, Or.inr (Or.inl ⟨rfl, h⟩)⟩
theorem f_Fi3 (h1 : f_q Ov BL AL i) (h2 : f_q Ov BL AL j) : f_F n K St Ex Am Ov Bi As BL AL 3 i j ↔ ∃ p, p < n ∧ f_M K St Ex Am Ov Bi As BL AL i j p := by
  constructor
  · rintro ⟨-, -, h | h | h | h⟩
    · exact absurd h.1 (by decide)
    · exact absurd h.1 (by decide)
    · exact h.2
    · exact absurd h.1 (by decide)
  · exact fun h => ⟨h1, h2, Or.inr (Or.inr (Or.inl ⟨rfl, h⟩))⟩
theorem f_Fi4 (h1 : f_q Ov BL AL i) (h2 : f_q Ov BL AL j) : f_F n K St Ex Am Ov Bi As BL AL 4 i j ↔ f_F4 K St Ex Am Bi As i j := by
  constructor
  · rintro ⟨-, -, h | h | h | h⟩
    · exact absurd h.1 (by decide)
    · exact absurd h.1 (by decide)
    · exact absurd h.1 (by decide)
    · exact h.2
  · exact fun h => ⟨h1, h2, Or.inr (Or.inr (Or.inr ⟨rfl, h⟩))⟩
/-- a pair that is not alike, or not quoted, has no fault -/
theorem f_Fno {k : Int} (h : f_F n K St Ex Am Ov Bi As BL AL k i j) : (0 < BL i ∧ 0 < AL i) ∧ (0 < BL j ∧ 0 < AL j) ∧ K i = K j ∧ Am i = Am j ∧ Ov i = 0 ∧ Ov j = 0 := by
  obtain ⟨⟨a1, a2, a3⟩, ⟨b1, b2, b3⟩, h⟩ := h
  have e : K i = K j ∧ Am i = Am j := by
    rcases h with h | h | ⟨-, p, -, h⟩ | h
    · rw [h.2.1]; exact ⟨rfl, rfl⟩
    · exact ⟨h.2.1.1, h.2.1.2.1⟩
    · exact ⟨h.1.2.1.1, h.1.2.1.2.1⟩
    · exact ⟨h.2.2.1.1, h.2.2.1.2.1⟩
  exact ⟨⟨a2, a3⟩, ⟨b2, b3⟩, e.1, e.2, a1, b1⟩
end P3a
section P3
variable {l : Launch} {dC : Nat → ClassId} {dI : Nat → Nat → Nat} {cI cJ cZ cO : ClassId} {EE ws : va_W} {ka : Nat → Nat} {td : Nat} {pr up dn mo sh co : Int} {n : Nat} {K St Ex Am Ov Bi As BL AL He Co dv Ca : Nat → Int} {sd : Int} {Cz : Nat → Int} {EV : (Nat → Prop) → State → Heap → Prop} {es mi b L : Nat} {sa : Nat → Nat} {xs : Nat → Int32}
set_option maxHeartbeats 4000000 in
set_option maxRecDepth 100000 in
theorem cc_L_faultOf (hEV : jj_EV EV)  (hn6 : n ≤ 6) (hK : ∀ j, 0 ≤ K j ∧ K j ≤ 1) (hSt : ∀ j, 0 ≤ St j ∧ St j ≤ 20000) (hEx : ∀ j, 0 ≤ Ex j ∧ Ex j ≤ 200) (hAm : ∀ j, 0 ≤ Am j ∧ Am j ≤ 1) (hOv : ∀ j, 0 ≤ Ov j ∧ Ov j ≤ 1) (hBL : ∀ j, 0 ≤ BL j ∧ BL j ≤ 100) (hAL : ∀ j, 0 ≤ AL j ∧ AL j ≤ 100) (hBi : ∀ j, 0 ≤ Bi j ∧ Bi j ≤ 20000) (hAs : ∀ j, 0 ≤ As j ∧ As j ≤ 20000) (hQo : ∀ c, Ov c ≠ 0 → BL c = 0 ∧ AL c = 0) : jj_Mi EV (dC, dI) vwCl [(cI, .int), (cJ, .long), (cZ, .boolean), (cO, .object "java/lang/Object")] l yL_faultOf (Cond.code yL_faultOf cL_faultOf 9 (some .int) :: lw_U) ({ frames := 0, cells := 0, slots := 0, locals := 0 } : Room) [.ref (ka 0), .ref (ka 3), .ref (ka 4)] (wL ka cI cJ td pr up dn mo sh co n K St Ex Am Ov Bi As BL AL He Co dv Ca sd Cz ++ EE) (S := Int) (fun u => u) (fun u => f_isF (f_F n K St Ex Am Ov Bi As BL AL) n u) (fun u => wL ka cI cJ td pr up dn mo sh co n K St Ex Am Ov Bi As BL AL He Co dv Ca sd Cz ++ EE) := by
  refine jj_start (cc := cL_faultOf) (nL := 9) (ret := (some .int)) (lv := [(0, .ref (ka 0)), (1, .ref (ka 3)), (2, .ref (ka 4))]) (fun A => jj_Qi _ _ _ _ _ _ A) hEV (by decide) rfl (Nat.le_of_ble_eq_true rfl) rfl ?_
  intro p9 e9 s9 m9 a9 b9 me9 c9 A9 C1 hr hin
  have C0 : jj_C p9 s9 m9 a9 me9 c9 (dC, dI) vwCl A9 9 cL_faultOf "StrikehallLaw" lw_U _ EV := jj_toU C1
  have hw := C0.2.2.2.2.1
  refine jj_bipush C0 dL_faultOf_0 (by decide) ?_
  refine jj_istore_n C0 (i := 3) rfl (lv' := [(3, .int (iI 9)), (0, .ref (ka 0)), (1, .ref (ka 3)), (2, .ref (ka 4))]) (by decide) rfl dL_faultOf_2 ?_
  refine jj_iconst C0 dL_faultOf_3 ?_
  refine jj_istore C0 (lv' := [(4, .int (iI 0)), (3, .int (iI 9)), (0, .ref (ka 0)), (1, .ref (ka 3)), (2, .ref (ka 4))]) (by decide) rfl dL_faultOf_4 ?_
  refine jj_ind (X := Nat × Int) (fun q9 => match q9 with | ⟨i, x0⟩ => (7 - i : Nat)) (fun q9 => match q9 with | ⟨i, x0⟩ => [(4, .int (iI (i : Int))), (3, .int (iI x0)), (0, .ref (ka 0)), (1, .ref (ka 3)), (2, .ref (ka 4))]) (fun q9 => match q9 with | ⟨i, x0⟩ => []) (fun q9 => match q9 with | ⟨i, x0⟩ => wL ka cI cJ td pr up dn mo sh co n K St Ex Am Ov Bi As BL AL He Co dv Ca sd Cz ++ EE) (fun q9 => match q9 with | ⟨i, x0⟩ => i ≤ n ∧ f_L3 (f_F n K St Ex Am Ov Bi As BL AL) n x0 (f_dn i 0 (fun _ => False))) ?_ (0, 9) ⟨Nat.zero_le _, f_L3_0⟩
  intro q9 hq9 ih6
  obtain ⟨i, x0⟩ := q9
  have hx0 : i ≤ n ∧ f_L3 (f_F n K St Ex Am Ov Bi As BL AL) n x0 (f_dn i 0 (fun _ => False)) := hq9
  have hbx0 := f_L3_bd hx0.2
  have hin := hx0.1
  show jj_W _ _ _ _ _ _ _ _ _ _ _ _ _ _ _ _ _ 6 [(4, .int (iI (i : Int))), (3, .int (iI x0)), (0, .ref (ka 0)), (1, .ref (ka 3)), (2, .ref (ka 4))] [] (wL ka cI cJ td pr up dn mo sh co n K St Ex Am Ov Bi As BL AL He Co dv Ca sd Cz ++ EE)
  refine jj_iload C0 0 rfl dL_faultOf_6 ?_
  refine jj_aload_n C0 4 rfl dL_faultOf_8 ?_
  refine jj_bipush C0 dL_faultOf_9 (by decide) ?_
  refine jj_iald C0 (q0 := 4) (t0 := 0) (f := (f_lg td pr up dn mo sh co n)) (rfl) rfl (k := 7) (by omega) (by omega) (by decide) dL_faultOf_11 ?_
  refine jj_topi (b := (n : Int)) (rfl) ?_
  refine jj_icmp_ge C0 (by omega) (by omega) dL_faultOf_12 (tgt := 424) (by decide) (fun c_1 => ?_) (fun c_1 => ?_)
  · refine jj_iload_n C0 1 rfl dL_faultOf_424 ?_
    refine jj_bipush C0 dL_faultOf_425 (by decide) ?_
    refine jj_icmp_ne C0 (by omega) (by omega) dL_faultOf_427 (tgt := 434) (by decide) (fun c_2 => ?_) (fun c_2 => ?_)
    · refine jj_iload_n C0 1 rfl dL_faultOf_434 ?_
      exact jj_iret C0 hr x0 (by exact f_L3_end hx0.2 (by omega) (fun c o k => f_F_k) (by omega)) (rfl) (rfl) (by show 0 ≤ 0; omega) (by show 0 ≤ 0; omega) dL_faultOf_435
    · refine jj_iconst C0 dL_faultOf_430 ?_
      refine jj_goto C0 (tgt := 435) dL_faultOf_431 (by decide) ?_
      exact jj_iret C0 hr 0 (by exact f_L3_end hx0.2 (by omega) (fun c o k => f_F_k) (by omega)) (rfl) (rfl) (by show 0 ≤ 0; omega) (by show 0 ≤ 0; omega) dL_faultOf_435
  · refine jj_iconst C0 dL_faultOf_15 ?_
    refine jj_istore C0 (lv' := [(5, .int (iI 0)), (4, .int (iI (i : Int))), (3, .int (iI x0)), (0, .ref (ka 0)), (1, .ref (ka 3)), (2, .ref (ka 4))]) (by decide) rfl dL_faultOf_16 ?_
    refine jj_lv [0, 2, 1, 3, 4, 5] rfl ?_
    refine jj_ind (X := Nat × Int) (fun q9 => match q9 with | ⟨j, x1⟩ => (7 - j : Nat)) (fun q9 => match q9 with | ⟨j, x1⟩ => [(5, .int (iI (j : Int))), (3, .int (iI x1)), (4, .int (iI (i : Int))), (0, .ref (ka 0)), (1, .ref (ka 3)), (2, .ref (ka 4))]) (fun q9 => match q9 with | ⟨j, x1⟩ => []) (fun q9 => match q9 with | ⟨j, x1⟩ => wL ka cI cJ td pr up dn mo sh co n K St Ex Am Ov Bi As BL AL He Co dv Ca sd Cz ++ EE) (fun q9 => match q9 with | ⟨j, x1⟩ => j ≤ n ∧ f_L3 (f_F n K St Ex Am Ov Bi As BL AL) n x1 (f_dn i j (fun _ => False))) ?_ (0, x0) ⟨Nat.zero_le _, hx0.2⟩
    intro q9 hq9 ih18
    obtain ⟨j, x1⟩ := q9
    obtain ⟨hjn, hx1⟩ : j ≤ n ∧ f_L3 (f_F n K St Ex Am Ov Bi As BL AL) n x1 (f_dn i j (fun _ => False)) := hq9
    have hbx1 := f_L3_bd hx1
    have hAmi := hAm i
    have hOvi := hOv i
    have hBLi := hBL i
    have hALi := hAL i
    have hBii := hBi i
    have hAsi := hAs i
    have hSti := hSt i
    have hExi := hEx i
    have hKi := hK i
    have hQoi := hQo i
    have hAmj := hAm j
    have hOvj := hOv j
    have hBLj := hBL j
    have hALj := hAL j
    have hBij := hBi j
    have hAsj := hAs j
    have hStj := hSt j
    have hExj := hEx j
    have hKj := hK j
    have hQoj := hQo j
    show jj_W _ _ _ _ _ _ _ _ _ _ _ _ _ _ _ _ _ 18 [(5, .int (iI (j : Int))), (3, .int (iI x1)), (4, .int (iI (i : Int))), (0, .ref (ka 0)), (1, .ref (ka 3)), (2, .ref (ka 4))] [] (wL ka cI cJ td pr up dn mo sh co n K St Ex Am Ov Bi As BL AL He Co dv Ca sd Cz ++ EE)
    refine jj_iload C0 0 rfl dL_faultOf_18 ?_
    refine jj_aload_n C0 5 rfl dL_faultOf_20 ?_
    refine jj_bipush C0 dL_faultOf_21 (by decide) ?_
    refine jj_iald C0 (q0 := 4) (t0 := 0) (f := (f_lg td pr up dn mo sh co n)) (rfl) rfl (k := 7) (by omega) (by omega) (by decide) dL_faultOf_23 ?_
    refine jj_topi (b := (n : Int)) (rfl) ?_
    refine jj_icmp_ge C0 (by omega) (by omega) dL_faultOf_24 (tgt := 418) (by decide) (fun c_3 => ?_) (fun c_3 => ?_)
    · refine jj_iinc C0 (z := ((i + 1 : Nat) : Int)) (lv' := [(4, .int (iI ((i + 1 : Nat) : Int))), (5, .int (iI (j : Int))), (3, .int (iI x1)), (0, .ref (ka 0)), (1, .ref (ka 3)), (2, .ref (ka 4))]) 2 rfl (by omega) (by decide) rfl dL_faultOf_418 ?_
      refine jj_goto C0 (tgt := 6) dL_faultOf_421 (by decide) ?_
      refine jj_lv [0, 2, 3, 4, 5] rfl ?_
      exact ih6 (i + 1, x1) ⟨by omega, f_L3_mono hx1 (fun c o k hc ho g => by rcases g with g | ⟨g, g1 | ⟨g1, g2⟩⟩; rcases (by omega : c < i ∨ c = i) with g3 | g3; exact Or.inl g3; exact Or.inr ⟨g3, Or.inl (by omega)⟩; exact absurd g1 (Nat.not_lt_zero _); exact g2.elim)⟩ (by dsimp only; omega)
    · refine jj_join (X := Int) (pcj := 412) (fun q9 => match q9 with | y5 => [(3, .int (iI y5)), (5, .int (iI (j : Int))), (4, .int (iI (i : Int))), (0, .ref (ka 0)), (1, .ref (ka 3)), (2, .ref (ka 4))]) (fun q9 => match q9 with | y5 => []) (fun q9 => match q9 with | y5 => wL ka cI cJ td pr up dn mo sh co n K St Ex Am Ov Bi As BL AL He Co dv Ca sd Cz ++ EE) (fun q9 => match q9 with | y5 => f_L3 (f_F n K St Ex Am Ov Bi As BL AL) n y5 (f_dn i j (fun _ => True))) ?_ ?_
      · intro q9 hq9
        obtain ⟨y5, rfl⟩ : ∃ z, z = q9 := ⟨_, rfl⟩
        have hy5 : f_L3 (f_F n K St Ex Am Ov Bi As BL AL) n y5 (f_dn i j (fun _ => True)) := hq9
        have hby5 := f_L3_bd hy5
        refine jj_iinc C0 (z := ((j + 1 : Nat) : Int)) (lv' := [(5, .int (iI ((j + 1 : Nat) : Int))), (3, .int (iI y5)), (4, .int (iI (i : Int))), (0, .ref (ka 0)), (1, .ref (ka 3)), (2, .ref (ka 4))]) 1 rfl (by omega) (by decide) rfl dL_faultOf_412 ?_
        refine jj_goto C0 (tgt := 18) dL_faultOf_415 (by decide) ?_
        exact ih18 (j + 1, y5) ⟨by omega, f_L3_mono hy5 (fun c o k hc ho g => by rcases g with g | ⟨g, g1 | ⟨g1, g2⟩⟩; exact Or.inl g; rcases (by omega : o < j ∨ o = j) with g3 | g3; exact Or.inr ⟨g, Or.inl g3⟩; exact Or.inr ⟨g, Or.inr ⟨g3, trivial⟩⟩; exact g2.elim)⟩ (by dsimp only; omega)
      intro j412
      refine jj_aload_n C0 4 rfl dL_faultOf_27 ?_
      refine jj_bipush C0 dL_faultOf_28 (by decide) ?_
      refine jj_iload C0 2 rfl dL_faultOf_30 ?_
      refine jj_iadd C0 dL_faultOf_32 ?_
      refine jj_iald C0 (q0 := 3) (t0 := 0) (f := (f_lq Bi As BL AL)) (rfl) rfl (k := (12 + i)) (by omega) (by omega) (by decide) dL_faultOf_33 ?_
      refine jj_topi (b := (BL i)) (f_lq_BL (by omega)) ?_
      refine jj_if_eq C0 (by omega) dL_faultOf_34 (tgt := 412) (by decide) (fun c_4 => ?_) (fun c_4 => ?_)
      · refine jj_lv [1, 0, 2, 3, 4, 5] rfl ?_
        exact j412 x1 (f_L3_no hx1 (fun k _ => Or.inr (Or.inr (fun hf => by have g9 := f_Fno hf; omega))))
      · refine jj_aload_n C0 4 rfl dL_faultOf_37 ?_
        refine jj_bipush C0 dL_faultOf_38 (by decide) ?_
        refine jj_iload C0 2 rfl dL_faultOf_40 ?_
        refine jj_iadd C0 dL_faultOf_42 ?_
        refine jj_iald C0 (q0 := 3) (t0 := 0) (f := (f_lq Bi As BL AL)) (rfl) rfl (k := (18 + i)) (by omega) (by omega) (by decide) dL_faultOf_43 ?_
        refine jj_topi (b := (AL i)) (f_lq_AL) ?_
        refine jj_if_eq C0 (by omega) dL_faultOf_44 (tgt := 412) (by decide) (fun c_5 => ?_) (fun c_5 => ?_)
        · refine jj_lv [1, 0, 2, 3, 4, 5] rfl ?_
          exact j412 x1 (f_L3_no hx1 (fun k _ => Or.inr (Or.inr (fun hf => by have g9 := f_Fno hf; omega))))
        · refine jj_aload_n C0 4 rfl dL_faultOf_47 ?_
          refine jj_bipush C0 dL_faultOf_48 (by decide) ?_
          refine jj_iload C0 0 rfl dL_faultOf_50 ?_
          refine jj_iadd C0 dL_faultOf_52 ?_
          refine jj_iald C0 (q0 := 3) (t0 := 0) (f := (f_lq Bi As BL AL)) (rfl) rfl (k := (12 + j)) (by omega) (by omega) (by decide) dL_faultOf_53 ?_
          refine jj_topi (b := (BL j)) (f_lq_BL (by omega)) ?_
          refine jj_if_eq C0 (by omega) dL_faultOf_54 (tgt := 412) (by decide) (fun c_6 => ?_) (fun c_6 => ?_)
          · refine jj_lv [1, 0, 2, 3, 4, 5] rfl ?_
            exact j412 x1 (f_L3_no hx1 (fun k _ => Or.inr (Or.inr (fun hf => by have g9 := f_Fno hf; omega))))
          · refine jj_aload_n C0 4 rfl dL_faultOf_57 ?_
            refine jj_bipush C0 dL_faultOf_58 (by decide) ?_
            refine jj_iload C0 0 rfl dL_faultOf_60 ?_
            refine jj_iadd C0 dL_faultOf_62 ?_
            refine jj_iald C0 (q0 := 3) (t0 := 0) (f := (f_lq Bi As BL AL)) (rfl) rfl (k := (18 + j)) (by omega) (by omega) (by decide) dL_faultOf_63 ?_
            refine jj_topi (b := (AL j)) (f_lq_AL) ?_
            refine jj_if_eq C0 (by omega) dL_faultOf_64 (tgt := 412) (by decide) (fun c_7 => ?_) (fun c_7 => ?_)
            · refine jj_lv [1, 0, 2, 3, 4, 5] rfl ?_
              exact j412 x1 (f_L3_no hx1 (fun k _ => Or.inr (Or.inr (fun hf => by have g9 := f_Fno hf; omega))))
            · refine jj_aload_n C0 3 rfl dL_faultOf_67 ?_
              refine jj_iload C0 2 rfl dL_faultOf_68 ?_
              refine jj_iald C0 (q0 := 0) (t0 := 0) (f := (f_lk K St Ex Am Ov)) (rfl) rfl (k := i) (by omega) (by omega) (by decide) dL_faultOf_70 ?_
              refine jj_topi (b := (K i)) (f_lk_K (by omega)) ?_
              refine jj_aload_n C0 3 rfl dL_faultOf_71 ?_
              refine jj_iload C0 0 rfl dL_faultOf_72 ?_
              refine jj_iald C0 (q0 := 0) (t0 := 0) (f := (f_lk K St Ex Am Ov)) (rfl) rfl (k := j) (by omega) (by omega) (by decide) dL_faultOf_74 ?_
              refine jj_topi (b := (K j)) (f_lk_K (by omega)) ?_
              refine jj_icmp_ne C0 (by omega) (by omega) dL_faultOf_75 (tgt := 412) (by decide) (fun c_8 => ?_) (fun c_8 => ?_)
              · refine jj_lv [1, 0, 2, 3, 4, 5] rfl ?_
                exact j412 x1 (f_L3_no hx1 (fun k _ => Or.inr (Or.inr (fun hf => by have g9 := f_Fno hf; omega))))
              · refine jj_aload_n C0 3 rfl dL_faultOf_78 ?_
                refine jj_bipush C0 dL_faultOf_79 (by decide) ?_
                refine jj_iload C0 2 rfl dL_faultOf_81 ?_
                refine jj_iadd C0 dL_faultOf_83 ?_
                refine jj_iald C0 (q0 := 0) (t0 := 0) (f := (f_lk K St Ex Am Ov)) (rfl) rfl (k := (18 + i)) (by omega) (by omega) (by decide) dL_faultOf_84 ?_
                refine jj_topi (b := (Am i + 2 * Ov i)) (f_lk_A) ?_
                refine jj_aload_n C0 3 rfl dL_faultOf_85 ?_
                refine jj_bipush C0 dL_faultOf_86 (by decide) ?_
                refine jj_iload C0 0 rfl dL_faultOf_88 ?_
                refine jj_iadd C0 dL_faultOf_90 ?_
                refine jj_iald C0 (q0 := 0) (t0 := 0) (f := (f_lk K St Ex Am Ov)) (rfl) rfl (k := (18 + j)) (by omega) (by omega) (by decide) dL_faultOf_91 ?_
                refine jj_topi (b := (Am j + 2 * Ov j)) (f_lk_A) ?_
                refine jj_icmp_eq C0 (by omega) (by omega) dL_faultOf_92 (tgt := 98) (by decide) (fun c_9 => ?_) (fun c_9 => ?_)
                · have hqa : f_q Ov BL AL i := ⟨by omega, by omega, by omega⟩
                  have hqb : f_q Ov BL AL j := ⟨by omega, by omega, by omega⟩
                  refine jj_aload_n C0 4 rfl dL_faultOf_98 ?_
                  refine jj_iload C0 2 rfl dL_faultOf_99 ?_
                  refine jj_iald C0 (q0 := 3) (t0 := 0) (f := (f_lq Bi As BL AL)) (rfl) rfl (k := i) (by omega) (by omega) (by decide) dL_faultOf_101 ?_
                  refine jj_topi (b := (Bi i)) (f_lq_Bi (by omega)) ?_
                  refine jj_aload_n C0 4 rfl dL_faultOf_102 ?_
                  refine jj_bipush C0 dL_faultOf_103 (by decide) ?_
                  refine jj_iload C0 0 rfl dL_faultOf_105 ?_
                  refine jj_iadd C0 dL_faultOf_107 ?_
                  refine jj_iald C0 (q0 := 3) (t0 := 0) (f := (f_lq Bi As BL AL)) (rfl) rfl (k := (6 + j)) (by omega) (by omega) (by decide) dL_faultOf_108 ?_
                  refine jj_topi (b := (As j)) (f_lq_As (by omega)) ?_
                  refine jj_isub C0 dL_faultOf_109 ?_
                  refine jj_istore C0 (lv' := [(6, .int (iI ((Bi i) - (As j)))), (5, .int (iI (j : Int))), (3, .int (iI x1)), (4, .int (iI (i : Int))), (0, .ref (ka 0)), (1, .ref (ka 3)), (2, .ref (ka 4))]) (by decide) rfl dL_faultOf_110 ?_
                  refine jj_aload_n C0 4 rfl dL_faultOf_112 ?_
                  refine jj_bipush C0 dL_faultOf_113 (by decide) ?_
                  refine jj_iload C0 3 rfl dL_faultOf_115 ?_
                  refine jj_iadd C0 dL_faultOf_117 ?_
                  refine jj_iald C0 (q0 := 0) (t0 := 0) (f := (f_lk K St Ex Am Ov)) (rfl) rfl (k := (6 + i)) (by omega) (by omega) (by decide) dL_faultOf_118 ?_
                  refine jj_topi (b := (St i)) (f_lk_St (by omega)) ?_
                  refine jj_aload_n C0 4 rfl dL_faultOf_119 ?_
                  refine jj_bipush C0 dL_faultOf_120 (by decide) ?_
                  refine jj_iload C0 1 rfl dL_faultOf_122 ?_
                  refine jj_iadd C0 dL_faultOf_124 ?_
                  refine jj_iald C0 (q0 := 0) (t0 := 0) (f := (f_lk K St Ex Am Ov)) (rfl) rfl (k := (6 + j)) (by omega) (by omega) (by decide) dL_faultOf_125 ?_
                  refine jj_topi (b := (St j)) (f_lk_St (by omega)) ?_
                  refine jj_isub C0 dL_faultOf_126 ?_
                  refine jj_istore C0 (lv' := [(7, .int (iI ((St i) - (St j)))), (6, .int (iI ((Bi i) - (As j)))), (5, .int (iI (j : Int))), (3, .int (iI x1)), (4, .int (iI (i : Int))), (0, .ref (ka 0)), (1, .ref (ka 3)), (2, .ref (ka 4))]) (by decide) rfl dL_faultOf_127 ?_
                  refine jj_join (X := Int) (pcj := 143) (fun q9 => match q9 with | y1 => [(3, .int (iI y1)), (7, .int (iI ((St i) - (St j)))), (6, .int (iI ((Bi i) - (As j)))), (5, .int (iI (j : Int))), (4, .int (iI (i : Int))), (0, .ref (ka 0)), (1, .ref (ka 3)), (2, .ref (ka 4))]) (fun q9 => match q9 with | y1 => []) (fun q9 => match q9 with | y1 => wL ka cI cJ td pr up dn mo sh co n K St Ex Am Ov Bi As BL AL He Co dv Ca sd Cz ++ EE) (fun q9 => match q9 with | y1 => f_L3 (f_F n K St Ex Am Ov Bi As BL AL) n y1 (f_dn i j (fun k => k = 1))) ?_ ?_
                  · intro q9 hq9
                    obtain ⟨y1, rfl⟩ : ∃ z, z = q9 := ⟨_, rfl⟩
                    have hy1 : f_L3 (f_F n K St Ex Am Ov Bi As BL AL) n y1 (f_dn i j (fun k => k = 1)) := hq9
                    have hby1 := f_L3_bd hy1
                    refine jj_join (X := Int) (pcj := 203) (fun q9 => match q9 with | y2 => [(3, .int (iI y2)), (7, .int (iI ((St i) - (St j)))), (6, .int (iI ((Bi i) - (As j)))), (5, .int (iI (j : Int))), (4, .int (iI (i : Int))), (0, .ref (ka 0)), (1, .ref (ka 3)), (2, .ref (ka 4))]) (fun q9 => match q9 with | y2 => []) (fun q9 => match q9 with | y2 => wL ka cI cJ td pr up dn mo sh co n K St Ex Am Ov Bi As BL AL He Co dv Ca sd Cz ++ EE) (fun q9 => match q9 with | y2 => f_L3 (f_F n K St Ex Am Ov Bi As BL AL) n y2 (f_dn i j (fun k => k = 1 ∨ k = 2))) ?_ ?_
                    · intro q9 hq9
                      obtain ⟨y2, rfl⟩ : ∃ z, z = q9 := ⟨_, rfl⟩
                      have hy2 : f_L3 (f_F n K St Ex Am Ov Bi As BL AL) n y2 (f_dn i j (fun k => k = 1 ∨ k = 2)) := hq9
                      have hby2 := f_L3_bd hy2
                      refine jj_join (X := Int) (pcj := 252) (fun q9 => match q9 with | y4 => [(3, .int (iI y4)), (7, .int (iI ((St i) - (St j)))), (6, .int (iI ((Bi i) - (As j)))), (5, .int (iI (j : Int))), (4, .int (iI (i : Int))), (0, .ref (ka 0)), (1, .ref (ka 3)), (2, .ref (ka 4))]) (fun q9 => match q9 with | y4 => []) (fun q9 => match q9 with | y4 => wL ka cI cJ td pr up dn mo sh co n K St Ex Am Ov Bi As BL AL He Co dv Ca sd Cz ++ EE) (fun q9 => match q9 with | y4 => f_L3 (f_F n K St Ex Am Ov Bi As BL AL) n y4 (f_dn i j (fun k => (k = 1 ∨ k = 2) ∨ k = 4))) ?_ ?_
                      · intro q9 hq9
                        obtain ⟨y4, rfl⟩ : ∃ z, z = q9 := ⟨_, rfl⟩
                        have hy4 : f_L3 (f_F n K St Ex Am Ov Bi As BL AL) n y4 (f_dn i j (fun k => (k = 1 ∨ k = 2) ∨ k = 4)) := hq9
                        have hby4 := f_L3_bd hy4
                        refine jj_iconst C0 dL_faultOf_252 ?_
                        refine jj_istore C0 (lv' := [(8, .int (iI 0)), (3, .int (iI y4)), (7, .int (iI ((St i) - (St j)))), (6, .int (iI ((Bi i) - (As j)))), (5, .int (iI (j : Int))), (4, .int (iI (i : Int))), (0, .ref (ka 0)), (1, .ref (ka 3)), (2, .ref (ka 4))]) (by decide) rfl dL_faultOf_253 ?_
                        refine jj_ind (X := Nat × Int) (fun q9 => match q9 with | ⟨p, z3⟩ => (7 - p : Nat)) (fun q9 => match q9 with | ⟨p, z3⟩ => [(8, .int (iI (p : Int))), (3, .int (iI z3)), (7, .int (iI ((St i) - (St j)))), (6, .int (iI ((Bi i) - (As j)))), (5, .int (iI (j : Int))), (4, .int (iI (i : Int))), (0, .ref (ka 0)), (1, .ref (ka 3)), (2, .ref (ka 4))]) (fun q9 => match q9 with | ⟨p, z3⟩ => []) (fun q9 => match q9 with | ⟨p, z3⟩ => wL ka cI cJ td pr up dn mo sh co n K St Ex Am Ov Bi As BL AL He Co dv Ca sd Cz ++ EE) (fun q9 => match q9 with | ⟨p, z3⟩ => p ≤ n ∧ f_L3 (f_F n K St Ex Am Ov Bi As BL AL) n z3 (f_dn i j (fun k => (k = 1 ∨ k = 2) ∨ k = 4)) ∧ (z3 ≤ 3 ∨ ∀ q, q < p → ¬ f_M K St Ex Am Ov Bi As BL AL i j q)) ?_ (0, y4) ⟨Nat.zero_le _, hy4, Or.inr (fun q hq => absurd hq (Nat.not_lt_zero q))⟩
                        intro q9 hq9 ih255
                        obtain ⟨p, z3⟩ := q9
                        obtain ⟨hpn, hz3⟩ : p ≤ n ∧ f_L3 (f_F n K St Ex Am Ov Bi As BL AL) n z3 (f_dn i j (fun k => (k = 1 ∨ k = 2) ∨ k = 4)) ∧ (z3 ≤ 3 ∨ ∀ q, q < p → ¬ f_M K St Ex Am Ov Bi As BL AL i j q) := hq9
                        have hbz3 := f_L3_bd hz3.1
                        have hAmp := hAm p
                        have hOvp := hOv p
                        have hBLp := hBL p
                        have hALp := hAL p
                        have hBip := hBi p
                        have hAsp := hAs p
                        have hStp := hSt p
                        have hExp := hEx p
                        have hKp := hK p
                        have hQop := hQo p
                        show jj_W _ _ _ _ _ _ _ _ _ _ _ _ _ _ _ _ _ 255 [(8, .int (iI (p : Int))), (3, .int (iI z3)), (7, .int (iI ((St i) - (St j)))), (6, .int (iI ((Bi i) - (As j)))), (5, .int (iI (j : Int))), (4, .int (iI (i : Int))), (0, .ref (ka 0)), (1, .ref (ka 3)), (2, .ref (ka 4))] [] (wL ka cI cJ td pr up dn mo sh co n K St Ex Am Ov Bi As BL AL He Co dv Ca sd Cz ++ EE)
                        refine jj_iload C0 0 rfl dL_faultOf_255 ?_
                        refine jj_aload_n C0 8 rfl dL_faultOf_257 ?_
                        refine jj_bipush C0 dL_faultOf_258 (by decide) ?_
                        refine jj_iald C0 (q0 := 4) (t0 := 0) (f := (f_lg td pr up dn mo sh co n)) (rfl) rfl (k := 7) (by omega) (by omega) (by decide) dL_faultOf_260 ?_
                        refine jj_topi (b := (n : Int)) (rfl) ?_
                        refine jj_icmp_ge C0 (by omega) (by omega) dL_faultOf_261 (tgt := 412) (by decide) (fun c_10 => ?_) (fun c_10 => ?_)
                        · refine jj_lv [1, 4, 5, 6, 7, 8] rfl ?_
                          exact j412 z3 (f_L3_no hz3.1 (fun k _ => by rcases (by omega : k = 3 ∨ k ≠ 3) with e9 | e9; exact Or.inr (hz3.2.elim (fun g9 => Or.inl (by omega)) (fun g9 => Or.inr (fun hf => by subst e9; obtain ⟨q, hq, hM⟩ := (f_Fi3 hqa hqb).mp hf; exact g9 q (by omega) hM))); by_cases e8 : (k = 1 ∨ k = 2) ∨ k = 4; exact Or.inl e8; exact Or.inr (Or.inr (fun hf => by have g9 := f_F_k hf; omega))))
                        · refine jj_join (X := Int) (pcj := 406) (fun q9 => match q9 with | y6 => [(3, .int (iI y6)), (8, .int (iI (p : Int))), (7, .int (iI ((St i) - (St j)))), (6, .int (iI ((Bi i) - (As j)))), (5, .int (iI (j : Int))), (4, .int (iI (i : Int))), (0, .ref (ka 0)), (1, .ref (ka 3)), (2, .ref (ka 4))]) (fun q9 => match q9 with | y6 => []) (fun q9 => match q9 with | y6 => wL ka cI cJ td pr up dn mo sh co n K St Ex Am Ov Bi As BL AL He Co dv Ca sd Cz ++ EE) (fun q9 => match q9 with | y6 => f_L3 (f_F n K St Ex Am Ov Bi As BL AL) n y6 (f_dn i j (fun k => (k = 1 ∨ k = 2) ∨ k = 4)) ∧ (y6 ≤ 3 ∨ ∀ q, q < p + 1 → ¬ f_M K St Ex Am Ov Bi As BL AL i j q)) ?_ ?_
                          · intro q9 hq9
                            obtain ⟨y6, rfl⟩ : ∃ z, z = q9 := ⟨_, rfl⟩
                            have hy6 : f_L3 (f_F n K St Ex Am Ov Bi As BL AL) n y6 (f_dn i j (fun k => (k = 1 ∨ k = 2) ∨ k = 4)) ∧ (y6 ≤ 3 ∨ ∀ q, q < p + 1 → ¬ f_M K St Ex Am Ov Bi As BL AL i j q) := hq9
                            have hby6 := f_L3_bd hy6.1
                            refine jj_iinc C0 (z := ((p + 1 : Nat) : Int)) (lv' := [(8, .int (iI ((p + 1 : Nat) : Int))), (3, .int (iI y6)), (7, .int (iI ((St i) - (St j)))), (6, .int (iI ((Bi i) - (As j)))), (5, .int (iI (j : Int))), (4, .int (iI (i : Int))), (0, .ref (ka 0)), (1, .ref (ka 3)), (2, .ref (ka 4))]) 1 rfl (by omega) (by decide) rfl dL_faultOf_406 ?_
                            refine jj_goto C0 (tgt := 255) dL_faultOf_409 (by decide) ?_
                            exact ih255 (p + 1, y6) ⟨by omega, hy6⟩ (by dsimp only; omega)
                          intro j406
                          refine jj_aload_n C0 7 rfl dL_faultOf_264 ?_
                          refine jj_bipush C0 dL_faultOf_265 (by decide) ?_
                          refine jj_iload C0 0 rfl dL_faultOf_267 ?_
                          refine jj_iadd C0 dL_faultOf_269 ?_
                          refine jj_iald C0 (q0 := 3) (t0 := 0) (f := (f_lq Bi As BL AL)) (rfl) rfl (k := (12 + p)) (by omega) (by omega) (by decide) dL_faultOf_270 ?_
                          refine jj_topi (b := (BL p)) (f_lq_BL (by omega)) ?_
                          refine jj_if_le C0 (by omega) dL_faultOf_271 (tgt := 406) (by decide) (fun c_11 => ?_) (fun c_11 => ?_)
                          · refine jj_lv [1, 0, 2, 3, 4, 5, 6, 7, 8] rfl ?_
                            exact j406 z3 ⟨hz3.1, hz3.2.imp id (fun g9 q hq hM => by rcases (by omega : q < p ∨ q = p) with e9 | e9; exact g9 q e9 hM; subst e9; obtain ⟨⟨⟨m1, m2, m3⟩, ⟨m4, m5, m6, m7⟩, ⟨m8, m9, m10, m11⟩, m12, m13⟩, m14⟩ := hM; omega)⟩
                          · refine jj_aload_n C0 7 rfl dL_faultOf_274 ?_
                            refine jj_bipush C0 dL_faultOf_275 (by decide) ?_
                            refine jj_iload C0 0 rfl dL_faultOf_277 ?_
                            refine jj_iadd C0 dL_faultOf_279 ?_
                            refine jj_iald C0 (q0 := 3) (t0 := 0) (f := (f_lq Bi As BL AL)) (rfl) rfl (k := (18 + p)) (by omega) (by omega) (by decide) dL_faultOf_280 ?_
                            refine jj_topi (b := (AL p)) (f_lq_AL) ?_
                            refine jj_if_le C0 (by omega) dL_faultOf_281 (tgt := 406) (by decide) (fun c_12 => ?_) (fun c_12 => ?_)
                            · refine jj_lv [1, 0, 2, 3, 4, 5, 6, 7, 8] rfl ?_
                              exact j406 z3 ⟨hz3.1, hz3.2.imp id (fun g9 q hq hM => by rcases (by omega : q < p ∨ q = p) with e9 | e9; exact g9 q e9 hM; subst e9; obtain ⟨⟨⟨m1, m2, m3⟩, ⟨m4, m5, m6, m7⟩, ⟨m8, m9, m10, m11⟩, m12, m13⟩, m14⟩ := hM; omega)⟩
                            · refine jj_aload_n C0 6 rfl dL_faultOf_284 ?_
                              refine jj_iload C0 0 rfl dL_faultOf_285 ?_
                              refine jj_iald C0 (q0 := 0) (t0 := 0) (f := (f_lk K St Ex Am Ov)) (rfl) rfl (k := p) (by omega) (by omega) (by decide) dL_faultOf_287 ?_
                              refine jj_topi (b := (K p)) (f_lk_K (by omega)) ?_
                              refine jj_aload_n C0 6 rfl dL_faultOf_288 ?_
                              refine jj_iload C0 5 rfl dL_faultOf_289 ?_
                              refine jj_iald C0 (q0 := 0) (t0 := 0) (f := (f_lk K St Ex Am Ov)) (rfl) rfl (k := i) (by omega) (by omega) (by decide) dL_faultOf_291 ?_
                              refine jj_topi (b := (K i)) (f_lk_K (by omega)) ?_
                              refine jj_icmp_ne C0 (by omega) (by omega) dL_faultOf_292 (tgt := 406) (by decide) (fun c_13 => ?_) (fun c_13 => ?_)
                              · refine jj_lv [1, 0, 2, 3, 4, 5, 6, 7, 8] rfl ?_
                                exact j406 z3 ⟨hz3.1, hz3.2.imp id (fun g9 q hq hM => by rcases (by omega : q < p ∨ q = p) with e9 | e9; exact g9 q e9 hM; subst e9; obtain ⟨⟨⟨m1, m2, m3⟩, ⟨m4, m5, m6, m7⟩, ⟨m8, m9, m10, m11⟩, m12, m13⟩, m14⟩ := hM; omega)⟩
                              · refine jj_aload_n C0 6 rfl dL_faultOf_295 ?_
                                refine jj_bipush C0 dL_faultOf_296 (by decide) ?_
                                refine jj_iload C0 0 rfl dL_faultOf_298 ?_
                                refine jj_iadd C0 dL_faultOf_300 ?_
                                refine jj_iald C0 (q0 := 0) (t0 := 0) (f := (f_lk K St Ex Am Ov)) (rfl) rfl (k := (18 + p)) (by omega) (by omega) (by decide) dL_faultOf_301 ?_
                                refine jj_topi (b := (Am p + 2 * Ov p)) (f_lk_A) ?_
                                refine jj_aload_n C0 6 rfl dL_faultOf_302 ?_
                                refine jj_bipush C0 dL_faultOf_303 (by decide) ?_
                                refine jj_iload C0 5 rfl dL_faultOf_305 ?_
                                refine jj_iadd C0 dL_faultOf_307 ?_
                                refine jj_iald C0 (q0 := 0) (t0 := 0) (f := (f_lk K St Ex Am Ov)) (rfl) rfl (k := (18 + i)) (by omega) (by omega) (by decide) dL_faultOf_308 ?_
                                refine jj_topi (b := (Am i + 2 * Ov i)) (f_lk_A) ?_
                                refine jj_icmp_ne C0 (by omega) (by omega) dL_faultOf_309 (tgt := 406) (by decide) (fun c_14 => ?_) (fun c_14 => ?_)
                                · refine jj_lv [1, 0, 2, 3, 4, 5, 6, 7, 8] rfl ?_
                                  exact j406 z3 ⟨hz3.1, hz3.2.imp id (fun g9 q hq hM => by rcases (by omega : q < p ∨ q = p) with e9 | e9; exact g9 q e9 hM; subst e9; obtain ⟨⟨⟨m1, m2, m3⟩, ⟨m4, m5, m6, m7⟩, ⟨m8, m9, m10, m11⟩, m12, m13⟩, m14⟩ := hM; omega)⟩
                                · refine jj_aload_n C0 6 rfl dL_faultOf_312 ?_
                                  refine jj_bipush C0 dL_faultOf_313 (by decide) ?_
                                  refine jj_iload C0 0 rfl dL_faultOf_315 ?_
                                  refine jj_iadd C0 dL_faultOf_317 ?_
                                  refine jj_iald C0 (q0 := 0) (t0 := 0) (f := (f_lk K St Ex Am Ov)) (rfl) rfl (k := (12 + p)) (by omega) (by omega) (by decide) dL_faultOf_318 ?_
                                  refine jj_topi (b := (Ex p)) (f_lk_Ex (by omega)) ?_
                                  refine jj_aload_n C0 6 rfl dL_faultOf_319 ?_
                                  refine jj_bipush C0 dL_faultOf_320 (by decide) ?_
                                  refine jj_iload C0 5 rfl dL_faultOf_322 ?_
                                  refine jj_iadd C0 dL_faultOf_324 ?_
                                  refine jj_iald C0 (q0 := 0) (t0 := 0) (f := (f_lk K St Ex Am Ov)) (rfl) rfl (k := (12 + i)) (by omega) (by omega) (by decide) dL_faultOf_325 ?_
                                  refine jj_topi (b := (Ex i)) (f_lk_Ex (by omega)) ?_
                                  refine jj_icmp_ne C0 (by omega) (by omega) dL_faultOf_326 (tgt := 406) (by decide) (fun c_15 => ?_) (fun c_15 => ?_)
                                  · refine jj_lv [1, 0, 2, 3, 4, 5, 6, 7, 8] rfl ?_
                                    exact j406 z3 ⟨hz3.1, hz3.2.imp id (fun g9 q hq hM => by rcases (by omega : q < p ∨ q = p) with e9 | e9; exact g9 q e9 hM; subst e9; obtain ⟨⟨⟨m1, m2, m3⟩, ⟨m4, m5, m6, m7⟩, ⟨m8, m9, m10, m11⟩, m12, m13⟩, m14⟩ := hM; omega)⟩
                                  · refine jj_aload_n C0 6 rfl dL_faultOf_329 ?_
                                    refine jj_bipush C0 dL_faultOf_330 (by decide) ?_
                                    refine jj_iload C0 4 rfl dL_faultOf_332 ?_
                                    refine jj_iadd C0 dL_faultOf_334 ?_
                                    refine jj_iald C0 (q0 := 0) (t0 := 0) (f := (f_lk K St Ex Am Ov)) (rfl) rfl (k := (12 + j)) (by omega) (by omega) (by decide) dL_faultOf_335 ?_
                                    refine jj_topi (b := (Ex j)) (f_lk_Ex (by omega)) ?_
                                    refine jj_aload_n C0 6 rfl dL_faultOf_336 ?_
                                    refine jj_bipush C0 dL_faultOf_337 (by decide) ?_
                                    refine jj_iload C0 5 rfl dL_faultOf_339 ?_
                                    refine jj_iadd C0 dL_faultOf_341 ?_
                                    refine jj_iald C0 (q0 := 0) (t0 := 0) (f := (f_lk K St Ex Am Ov)) (rfl) rfl (k := (12 + i)) (by omega) (by omega) (by decide) dL_faultOf_342 ?_
                                    refine jj_topi (b := (Ex i)) (f_lk_Ex (by omega)) ?_
                                    refine jj_icmp_ne C0 (by omega) (by omega) dL_faultOf_343 (tgt := 406) (by decide) (fun c_16 => ?_) (fun c_16 => ?_)
                                    · refine jj_lv [1, 0, 2, 3, 4, 5, 6, 7, 8] rfl ?_
                                      exact j406 z3 ⟨hz3.1, hz3.2.imp id (fun g9 q hq hM => by rcases (by omega : q < p ∨ q = p) with e9 | e9; exact g9 q e9 hM; subst e9; obtain ⟨⟨⟨m1, m2, m3⟩, ⟨m4, m5, m6, m7⟩, ⟨m8, m9, m10, m11⟩, m12, m13⟩, m14⟩ := hM; omega)⟩
                                    · refine jj_iload C0 2 rfl dL_faultOf_346 ?_
                                      refine jj_if_le C0 (by omega) dL_faultOf_348 (tgt := 406) (by decide) (fun c_17 => ?_) (fun c_17 => ?_)
                                      · refine jj_lv [1, 0, 2, 3, 4, 5, 6, 7, 8] rfl ?_
                                        exact j406 z3 ⟨hz3.1, hz3.2.imp id (fun g9 q hq hM => by rcases (by omega : q < p ∨ q = p) with e9 | e9; exact g9 q e9 hM; subst e9; obtain ⟨⟨⟨m1, m2, m3⟩, ⟨m4, m5, m6, m7⟩, ⟨m8, m9, m10, m11⟩, m12, m13⟩, m14⟩ := hM; omega)⟩
                                      · refine jj_aload_n C0 6 rfl dL_faultOf_351 ?_
                                        refine jj_bipush C0 dL_faultOf_352 (by decide) ?_
                                        refine jj_iload C0 0 rfl dL_faultOf_354 ?_
                                        refine jj_iadd C0 dL_faultOf_356 ?_
                                        refine jj_iald C0 (q0 := 0) (t0 := 0) (f := (f_lk K St Ex Am Ov)) (rfl) rfl (k := (6 + p)) (by omega) (by omega) (by decide) dL_faultOf_357 ?_
                                        refine jj_topi (b := (St p)) (f_lk_St (by omega)) ?_
                                        refine jj_aload_n C0 6 rfl dL_faultOf_358 ?_
                                        refine jj_bipush C0 dL_faultOf_359 (by decide) ?_
                                        refine jj_iload C0 5 rfl dL_faultOf_361 ?_
                                        refine jj_iadd C0 dL_faultOf_363 ?_
                                        refine jj_iald C0 (q0 := 0) (t0 := 0) (f := (f_lk K St Ex Am Ov)) (rfl) rfl (k := (6 + i)) (by omega) (by omega) (by decide) dL_faultOf_364 ?_
                                        refine jj_topi (b := (St i)) (f_lk_St (by omega)) ?_
                                        refine jj_isub C0 dL_faultOf_365 ?_
                                        refine jj_iload C0 2 rfl dL_faultOf_366 ?_
                                        refine jj_icmp_ne C0 (by omega) (by omega) dL_faultOf_368 (tgt := 406) (by decide) (fun c_18 => ?_) (fun c_18 => ?_)
                                        · refine jj_lv [1, 0, 2, 3, 4, 5, 6, 7, 8] rfl ?_
                                          exact j406 z3 ⟨hz3.1, hz3.2.imp id (fun g9 q hq hM => by rcases (by omega : q < p ∨ q = p) with e9 | e9; exact g9 q e9 hM; subst e9; obtain ⟨⟨⟨m1, m2, m3⟩, ⟨m4, m5, m6, m7⟩, ⟨m8, m9, m10, m11⟩, m12, m13⟩, m14⟩ := hM; omega)⟩
                                        · refine jj_iconst C0 dL_faultOf_371 ?_
                                          refine jj_aload_n C0 7 rfl dL_faultOf_372 ?_
                                          refine jj_iload C0 5 rfl dL_faultOf_373 ?_
                                          refine jj_iald C0 (q0 := 3) (t0 := 0) (f := (f_lq Bi As BL AL)) (rfl) rfl (k := i) (by omega) (by omega) (by decide) dL_faultOf_375 ?_
                                          refine jj_topi (b := (Bi i)) (f_lq_Bi (by omega)) ?_
                                          refine jj_imul C0 dL_faultOf_376 ?_
                                          refine jj_aload_n C0 7 rfl dL_faultOf_377 ?_
                                          refine jj_bipush C0 dL_faultOf_378 (by decide) ?_
                                          refine jj_iload C0 4 rfl dL_faultOf_380 ?_
                                          refine jj_iadd C0 dL_faultOf_382 ?_
                                          refine jj_iald C0 (q0 := 3) (t0 := 0) (f := (f_lq Bi As BL AL)) (rfl) rfl (k := (6 + j)) (by omega) (by omega) (by decide) dL_faultOf_383 ?_
                                          refine jj_topi (b := (As j)) (f_lq_As (by omega)) ?_
                                          refine jj_aload_n C0 7 rfl dL_faultOf_384 ?_
                                          refine jj_bipush C0 dL_faultOf_385 (by decide) ?_
                                          refine jj_iload C0 0 rfl dL_faultOf_387 ?_
                                          refine jj_iadd C0 dL_faultOf_389 ?_
                                          refine jj_iald C0 (q0 := 3) (t0 := 0) (f := (f_lq Bi As BL AL)) (rfl) rfl (k := (6 + p)) (by omega) (by omega) (by decide) dL_faultOf_390 ?_
                                          refine jj_topi (b := (As p)) (f_lq_As (by omega)) ?_
                                          refine jj_iadd C0 dL_faultOf_391 ?_
                                          refine jj_icmp_le C0 (by omega) (by omega) dL_faultOf_392 (tgt := 406) (by decide) (fun c_19 => ?_) (fun c_19 => ?_)
                                          · refine jj_lv [1, 0, 2, 3, 4, 5, 6, 7, 8] rfl ?_
                                            exact j406 z3 ⟨hz3.1, hz3.2.imp id (fun g9 q hq hM => by rcases (by omega : q < p ∨ q = p) with e9 | e9; exact g9 q e9 hM; subst e9; obtain ⟨⟨⟨m1, m2, m3⟩, ⟨m4, m5, m6, m7⟩, ⟨m8, m9, m10, m11⟩, m12, m13⟩, m14⟩ := hM; omega)⟩
                                          · skip
                                            refine jj_iload_n C0 1 rfl dL_faultOf_395 ?_
                                            refine jj_iconst C0 dL_faultOf_396 ?_
                                            refine jj_icmp_ge C0 (by omega) (by omega) dL_faultOf_397 (tgt := 404) (by decide) (fun c_20 => ?_) (fun c_20 => ?_)
                                            · refine jj_iconst C0 dL_faultOf_404 ?_
                                              refine jj_istore_n C0 (i := 3) rfl (lv' := [(3, .int (iI 3)), (8, .int (iI (p : Int))), (7, .int (iI ((St i) - (St j)))), (6, .int (iI ((Bi i) - (As j)))), (5, .int (iI (j : Int))), (4, .int (iI (i : Int))), (0, .ref (ka 0)), (1, .ref (ka 3)), (2, .ref (ka 4))]) (by decide) rfl dL_faultOf_405 ?_
                                              exact j406 3 ⟨f_L3_yes hz3.1 (by omega) (by omega) (k0 := 3) (by omega) ((f_Fi3 hqa hqb).mpr ⟨p, by omega, ⟨⟨by omega, by omega, by omega⟩, ⟨by omega, by omega, by omega, by omega⟩, ⟨by omega, by omega, by omega, by omega⟩, by omega, by omega⟩, by omega⟩) (by omega) (fun k hk => Or.inl hk), Or.inl (by omega)⟩
                                            · refine jj_iload_n C0 1 rfl dL_faultOf_400 ?_
                                              refine jj_goto C0 (tgt := 405) dL_faultOf_401 (by decide) ?_
                                              refine jj_istore_n C0 (i := 3) rfl (lv' := [(3, .int (iI z3)), (8, .int (iI (p : Int))), (7, .int (iI ((St i) - (St j)))), (6, .int (iI ((Bi i) - (As j)))), (5, .int (iI (j : Int))), (4, .int (iI (i : Int))), (0, .ref (ka 0)), (1, .ref (ka 3)), (2, .ref (ka 4))]) (by decide) rfl dL_faultOf_405 ?_
                                              exact j406 z3 ⟨f_L3_yes hz3.1 (by omega) (by omega) (k0 := 3) (by omega) ((f_Fi3 hqa hqb).mpr ⟨p, by omega, ⟨⟨by omega, by omega, by omega⟩, ⟨by omega, by omega, by omega, by omega⟩, ⟨by omega, by omega, by omega, by omega⟩, by omega, by omega⟩, by omega⟩) (by omega) (fun k hk => Or.inl hk), Or.inl (by omega)⟩
                      intro j252
                      refine jj_aload_n C0 5 rfl dL_faultOf_203 ?_
                      refine jj_bipush C0 dL_faultOf_204 (by decide) ?_
                      refine jj_iload C0 4 rfl dL_faultOf_206 ?_
                      refine jj_iadd C0 dL_faultOf_208 ?_
                      refine jj_iald C0 (q0 := 0) (t0 := 0) (f := (f_lk K St Ex Am Ov)) (rfl) rfl (k := (18 + i)) (by omega) (by omega) (by decide) dL_faultOf_209 ?_
                      refine jj_topi (b := (Am i + 2 * Ov i)) (f_lk_A) ?_
                      refine jj_iconst C0 dL_faultOf_210 ?_
                      refine jj_icmp_ne C0 (by omega) (by omega) dL_faultOf_211 (tgt := 252) (by decide) (fun c_21 => ?_) (fun c_21 => ?_)
                      · exact j252 y2 (f_L3_no hy2 (fun k hk => hk.imp id (fun e9 => Or.inr (fun hf => by subst e9; obtain ⟨g0, ⟨g1, g2, g3, g4⟩, g5, g6⟩ := (f_Fi4 hqa hqb).mp hf; omega))))
                      · refine jj_iload C0 1 rfl dL_faultOf_214 ?_
                        refine jj_if_ne C0 (by omega) dL_faultOf_216 (tgt := 252) (by decide) (fun c_22 => ?_) (fun c_22 => ?_)
                        · exact j252 y2 (f_L3_no hy2 (fun k hk => hk.imp id (fun e9 => Or.inr (fun hf => by subst e9; obtain ⟨g0, ⟨g1, g2, g3, g4⟩, g5, g6⟩ := (f_Fi4 hqa hqb).mp hf; omega))))
                        · refine jj_aload_n C0 5 rfl dL_faultOf_219 ?_
                          refine jj_bipush C0 dL_faultOf_220 (by decide) ?_
                          refine jj_iload C0 4 rfl dL_faultOf_222 ?_
                          refine jj_iadd C0 dL_faultOf_224 ?_
                          refine jj_iald C0 (q0 := 0) (t0 := 0) (f := (f_lk K St Ex Am Ov)) (rfl) rfl (k := (12 + i)) (by omega) (by omega) (by decide) dL_faultOf_225 ?_
                          refine jj_topi (b := (Ex i)) (f_lk_Ex (by omega)) ?_
                          refine jj_aload_n C0 5 rfl dL_faultOf_226 ?_
                          refine jj_bipush C0 dL_faultOf_227 (by decide) ?_
                          refine jj_iload C0 3 rfl dL_faultOf_229 ?_
                          refine jj_iadd C0 dL_faultOf_231 ?_
                          refine jj_iald C0 (q0 := 0) (t0 := 0) (f := (f_lk K St Ex Am Ov)) (rfl) rfl (k := (12 + j)) (by omega) (by omega) (by decide) dL_faultOf_232 ?_
                          refine jj_topi (b := (Ex j)) (f_lk_Ex (by omega)) ?_
                          refine jj_icmp_ge C0 (by omega) (by omega) dL_faultOf_233 (tgt := 252) (by decide) (fun c_23 => ?_) (fun c_23 => ?_)
                          · exact j252 y2 (f_L3_no hy2 (fun k hk => hk.imp id (fun e9 => Or.inr (fun hf => by subst e9; obtain ⟨g0, ⟨g1, g2, g3, g4⟩, g5, g6⟩ := (f_Fi4 hqa hqb).mp hf; omega))))
                          · refine jj_iload C0 2 rfl dL_faultOf_236 ?_
                            refine jj_if_le C0 (by omega) dL_faultOf_238 (tgt := 252) (by decide) (fun c_24 => ?_) (fun c_24 => ?_)
                            · exact j252 y2 (f_L3_no hy2 (fun k hk => hk.imp id (fun e9 => Or.inr (fun hf => by subst e9; obtain ⟨g0, ⟨g1, g2, g3, g4⟩, g5, g6⟩ := (f_Fi4 hqa hqb).mp hf; omega))))
                            · skip
                              refine jj_iload_n C0 0 rfl dL_faultOf_241 ?_
                              refine jj_iconst C0 dL_faultOf_242 ?_
                              refine jj_icmp_ge C0 (by omega) (by omega) dL_faultOf_243 (tgt := 250) (by decide) (fun c_25 => ?_) (fun c_25 => ?_)
                              · refine jj_iconst C0 dL_faultOf_250 ?_
                                refine jj_istore_n C0 (i := 3) rfl (lv' := [(3, .int (iI 4)), (7, .int (iI ((St i) - (St j)))), (6, .int (iI ((Bi i) - (As j)))), (5, .int (iI (j : Int))), (4, .int (iI (i : Int))), (0, .ref (ka 0)), (1, .ref (ka 3)), (2, .ref (ka 4))]) (by decide) rfl dL_faultOf_251 ?_
                                exact j252 4 (f_L3_yes hy2 (by omega) (by omega) (k0 := 4) (by omega) ((f_Fi4 hqa hqb).mpr ⟨by omega, ⟨by omega, by omega, by omega, by omega⟩, by omega, by omega⟩) (by omega) (fun k hk => by omega))
                              · refine jj_iload_n C0 0 rfl dL_faultOf_246 ?_
                                refine jj_goto C0 (tgt := 251) dL_faultOf_247 (by decide) ?_
                                refine jj_istore_n C0 (i := 3) rfl (lv' := [(3, .int (iI y2)), (7, .int (iI ((St i) - (St j)))), (6, .int (iI ((Bi i) - (As j)))), (5, .int (iI (j : Int))), (4, .int (iI (i : Int))), (0, .ref (ka 0)), (1, .ref (ka 3)), (2, .ref (ka 4))]) (by decide) rfl dL_faultOf_251 ?_
                                exact j252 y2 (f_L3_yes hy2 (by omega) (by omega) (k0 := 4) (by omega) ((f_Fi4 hqa hqb).mpr ⟨by omega, ⟨by omega, by omega, by omega, by omega⟩, by omega, by omega⟩) (by omega) (fun k hk => by omega))
                    intro j203
                    refine jj_iload C0 4 rfl dL_faultOf_143 ?_
                    refine jj_iload C0 3 rfl dL_faultOf_145 ?_
                    refine jj_icmp_eq C0 (by omega) (by omega) dL_faultOf_147 (tgt := 203) (by decide) (fun c_26 => ?_) (fun c_26 => ?_)
                    · exact j203 y1 (f_L3_no hy1 (fun k hk => hk.imp id (fun e9 => Or.inr (fun hf => by subst e9; obtain ⟨⟨g1, g2, g3, g4⟩, g5, g6⟩ := (f_Fi2 hqa hqb).mp hf; first | omega | (rcases Nat.lt_trichotomy i j with g7 | g7 | g7 <;> first | omega | (subst g7; omega))))))
                    · refine jj_aload_n C0 5 rfl dL_faultOf_150 ?_
                      refine jj_bipush C0 dL_faultOf_151 (by decide) ?_
                      refine jj_iload C0 4 rfl dL_faultOf_153 ?_
                      refine jj_iadd C0 dL_faultOf_155 ?_
                      refine jj_iald C0 (q0 := 0) (t0 := 0) (f := (f_lk K St Ex Am Ov)) (rfl) rfl (k := (12 + i)) (by omega) (by omega) (by decide) dL_faultOf_156 ?_
                      refine jj_topi (b := (Ex i)) (f_lk_Ex (by omega)) ?_
                      refine jj_aload_n C0 5 rfl dL_faultOf_157 ?_
                      refine jj_bipush C0 dL_faultOf_158 (by decide) ?_
                      refine jj_iload C0 3 rfl dL_faultOf_160 ?_
                      refine jj_iadd C0 dL_faultOf_162 ?_
                      refine jj_iald C0 (q0 := 0) (t0 := 0) (f := (f_lk K St Ex Am Ov)) (rfl) rfl (k := (12 + j)) (by omega) (by omega) (by decide) dL_faultOf_163 ?_
                      refine jj_topi (b := (Ex j)) (f_lk_Ex (by omega)) ?_
                      refine jj_icmp_ne C0 (by omega) (by omega) dL_faultOf_164 (tgt := 203) (by decide) (fun c_27 => ?_) (fun c_27 => ?_)
                      · exact j203 y1 (f_L3_no hy1 (fun k hk => hk.imp id (fun e9 => Or.inr (fun hf => by subst e9; obtain ⟨⟨g1, g2, g3, g4⟩, g5, g6⟩ := (f_Fi2 hqa hqb).mp hf; first | omega | (rcases Nat.lt_trichotomy i j with g7 | g7 | g7 <;> first | omega | (subst g7; omega))))))
                      · refine jj_iload C0 2 rfl dL_faultOf_167 ?_
                        refine jj_if_le C0 (by omega) dL_faultOf_169 (tgt := 203) (by decide) (fun c_28 => ?_) (fun c_28 => ?_)
                        · exact j203 y1 (f_L3_no hy1 (fun k hk => hk.imp id (fun e9 => Or.inr (fun hf => by subst e9; obtain ⟨⟨g1, g2, g3, g4⟩, g5, g6⟩ := (f_Fi2 hqa hqb).mp hf; first | omega | (rcases Nat.lt_trichotomy i j with g7 | g7 | g7 <;> first | omega | (subst g7; omega))))))
                        · refine jj_aload_n C0 5 rfl dL_faultOf_172 ?_
                          refine jj_iload C0 4 rfl dL_faultOf_173 ?_
                          refine jj_iald C0 (q0 := 0) (t0 := 0) (f := (f_lk K St Ex Am Ov)) (rfl) rfl (k := i) (by omega) (by omega) (by decide) dL_faultOf_175 ?_
                          refine jj_topi (b := (K i)) (f_lk_K (by omega)) ?_
                          refine jj_if_ne C0 (by omega) dL_faultOf_176 (tgt := 187) (by decide) (fun c_29 => ?_) (fun c_29 => ?_)
                          · refine jj_iload C0 1 rfl dL_faultOf_187 ?_
                            refine jj_if_ge C0 (by omega) dL_faultOf_189 (tgt := 203) (by decide) (fun c_30 => ?_) (fun c_30 => ?_)
                            · exact j203 y1 (f_L3_no hy1 (fun k hk => hk.imp id (fun e9 => Or.inr (fun hf => by subst e9; obtain ⟨⟨g1, g2, g3, g4⟩, g5, g6⟩ := (f_Fi2 hqa hqb).mp hf; first | omega | (rcases Nat.lt_trichotomy i j with g7 | g7 | g7 <;> first | omega | (subst g7; omega))))))
                            · skip
                              refine jj_iload_n C0 0 rfl dL_faultOf_192 ?_
                              refine jj_iconst C0 dL_faultOf_193 ?_
                              refine jj_icmp_ge C0 (by omega) (by omega) dL_faultOf_194 (tgt := 201) (by decide) (fun c_31 => ?_) (fun c_31 => ?_)
                              · refine jj_iconst C0 dL_faultOf_201 ?_
                                refine jj_istore_n C0 (i := 3) rfl (lv' := [(3, .int (iI 2)), (7, .int (iI ((St i) - (St j)))), (6, .int (iI ((Bi i) - (As j)))), (5, .int (iI (j : Int))), (4, .int (iI (i : Int))), (0, .ref (ka 0)), (1, .ref (ka 3)), (2, .ref (ka 4))]) (by decide) rfl dL_faultOf_202 ?_
                                exact j203 2 (f_L3_yes hy1 (by omega) (by omega) (k0 := 2) (by omega) ((f_Fi2 hqa hqb).mpr ⟨⟨by omega, by omega, by omega, by omega⟩, by omega, by omega⟩) (by omega) (fun k hk => by omega))
                              · refine jj_iload_n C0 0 rfl dL_faultOf_197 ?_
                                refine jj_goto C0 (tgt := 202) dL_faultOf_198 (by decide) ?_
                                refine jj_istore_n C0 (i := 3) rfl (lv' := [(3, .int (iI y1)), (7, .int (iI ((St i) - (St j)))), (6, .int (iI ((Bi i) - (As j)))), (5, .int (iI (j : Int))), (4, .int (iI (i : Int))), (0, .ref (ka 0)), (1, .ref (ka 3)), (2, .ref (ka 4))]) (by decide) rfl dL_faultOf_202 ?_
                                exact j203 y1 (f_L3_yes hy1 (by omega) (by omega) (k0 := 2) (by omega) ((f_Fi2 hqa hqb).mpr ⟨⟨by omega, by omega, by omega, by omega⟩, by omega, by omega⟩) (by omega) (fun k hk => by omega))
                          · refine jj_iload C0 1 rfl dL_faultOf_179 ?_
                            refine jj_if_le C0 (by omega) dL_faultOf_181 (tgt := 203) (by decide) (fun c_32 => ?_) (fun c_32 => ?_)
                            · exact j203 y1 (f_L3_no hy1 (fun k hk => hk.imp id (fun e9 => Or.inr (fun hf => by subst e9; obtain ⟨⟨g1, g2, g3, g4⟩, g5, g6⟩ := (f_Fi2 hqa hqb).mp hf; first | omega | (rcases Nat.lt_trichotomy i j with g7 | g7 | g7 <;> first | omega | (subst g7; omega))))))
                            · refine jj_goto C0 (tgt := 192) dL_faultOf_184 (by decide) ?_
                              skip
                              refine jj_iload_n C0 0 rfl dL_faultOf_192 ?_
                              refine jj_iconst C0 dL_faultOf_193 ?_
                              refine jj_icmp_ge C0 (by omega) (by omega) dL_faultOf_194 (tgt := 201) (by decide) (fun c_33 => ?_) (fun c_33 => ?_)
                              · refine jj_iconst C0 dL_faultOf_201 ?_
                                refine jj_istore_n C0 (i := 3) rfl (lv' := [(3, .int (iI 2)), (7, .int (iI ((St i) - (St j)))), (6, .int (iI ((Bi i) - (As j)))), (5, .int (iI (j : Int))), (4, .int (iI (i : Int))), (0, .ref (ka 0)), (1, .ref (ka 3)), (2, .ref (ka 4))]) (by decide) rfl dL_faultOf_202 ?_
                                exact j203 2 (f_L3_yes hy1 (by omega) (by omega) (k0 := 2) (by omega) ((f_Fi2 hqa hqb).mpr ⟨⟨by omega, by omega, by omega, by omega⟩, by omega, by omega⟩) (by omega) (fun k hk => by omega))
                              · refine jj_iload_n C0 0 rfl dL_faultOf_197 ?_
                                refine jj_goto C0 (tgt := 202) dL_faultOf_198 (by decide) ?_
                                refine jj_istore_n C0 (i := 3) rfl (lv' := [(3, .int (iI y1)), (7, .int (iI ((St i) - (St j)))), (6, .int (iI ((Bi i) - (As j)))), (5, .int (iI (j : Int))), (4, .int (iI (i : Int))), (0, .ref (ka 0)), (1, .ref (ka 3)), (2, .ref (ka 4))]) (by decide) rfl dL_faultOf_202 ?_
                                exact j203 y1 (f_L3_yes hy1 (by omega) (by omega) (k0 := 2) (by omega) ((f_Fi2 hqa hqb).mpr ⟨⟨by omega, by omega, by omega, by omega⟩, by omega, by omega⟩) (by omega) (fun k hk => by omega))
                  intro j143
                  refine jj_iload C0 4 rfl dL_faultOf_129 ?_
                  refine jj_iload C0 2 rfl dL_faultOf_131 ?_
                  refine jj_icmp_ne C0 (by omega) (by omega) dL_faultOf_133 (tgt := 143) (by decide) (fun c_34 => ?_) (fun c_34 => ?_)
                  · refine jj_lv [3, 0, 1, 2, 4, 5, 6, 7] rfl ?_
                    exact j143 x1 (f_L3_no hx1 (fun k hk => Or.inr (Or.inr (fun hf => by subst hk; obtain ⟨e1, e2⟩ := (f_Fi1 hqa hqb).mp hf; subst e1; omega))))
                  · refine jj_iload C0 1 rfl dL_faultOf_136 ?_
                    refine jj_if_lt C0 (by omega) dL_faultOf_138 (tgt := 143) (by decide) (fun c_35 => ?_) (fun c_35 => ?_)
                    · refine jj_lv [3, 0, 1, 2, 4, 5, 6, 7] rfl ?_
                      exact j143 x1 (f_L3_no hx1 (fun k hk => Or.inr (Or.inr (fun hf => by subst hk; obtain ⟨e1, e2⟩ := (f_Fi1 hqa hqb).mp hf; subst e1; omega))))
                    · refine jj_iconst C0 dL_faultOf_141 ?_
                      refine jj_istore_n C0 (i := 3) rfl (lv' := [(3, .int (iI 1)), (7, .int (iI ((St i) - (St j)))), (6, .int (iI ((Bi i) - (As j)))), (5, .int (iI (j : Int))), (4, .int (iI (i : Int))), (0, .ref (ka 0)), (1, .ref (ka 3)), (2, .ref (ka 4))]) (by decide) rfl dL_faultOf_142 ?_
                      exact j143 1 (f_L3_yes hx1 (by omega) (by omega) (by omega) ((f_Fi1 hqa hqb).mpr ((fun e1 : i = j => by subst e1; omega) (by omega))) (by omega) (fun k hk => Or.inr (by omega)))
                · refine jj_goto C0 (tgt := 412) dL_faultOf_95 (by decide) ?_
                  refine jj_lv [1, 0, 2, 3, 4, 5] rfl ?_
                  exact j412 x1 (f_L3_no hx1 (fun k _ => Or.inr (Or.inr (fun hf => by have g9 := f_Fno hf; omega))))
set_option maxHeartbeats 4000000 in
set_option maxRecDepth 100000 in
theorem cc_L_exercises (hEV : jj_EV EV) {c k : Nat} {z : Int} (hc6 : c < 6) (hk6 : k ≤ 6) (hpos : 0 < f_ow He c 7 ∧ f_ow He c 7 ≤ 7000000) (hHe : ∀ j, -1000000 ≤ He j ∧ He j ≤ 1000000) (hsd : 0 ≤ sd ∧ sd ≤ 2147483647) : jj_Mv EV (dC, dI) vwCl [(cI, .int), (cJ, .long), (cZ, .boolean), (cO, .object "java/lang/Object")] l yL_exercises (Cond.code yL_exercises cL_exercises 12 none :: lw_U) ({ frames := 0, cells := 0, slots := 0, locals := 0 } : Room) [.int (iI (k : Int)), .int (iI (c : Int)), .long (lI z), .ref (ka 1), .ref (ka 6)] (wL ka cI cJ td pr up dn mo sh co n K St Ex Am Ov Bi As BL AL He Co dv Ca sd Cz ++ EE) (S := Unit)  (fun _ => True) (fun _ => wL ka cI cJ td pr up dn mo sh co n K St Ex Am Ov Bi As BL AL ((f_x1 c k z (He, Ca, sd)).1) Co dv ((f_x1 c k z (He, Ca, sd)).2.1) ((f_x1 c k z (He, Ca, sd)).2.2) Cz ++ EE) := by
  refine jj_start (cc := cL_exercises) (nL := 12) (ret := none) (lv := [(0, .int (iI (k : Int))), (1, .int (iI (c : Int))), (2, .long (lI z)), (4, .ref (ka 1)), (5, .ref (ka 6))]) (fun A => jj_Qv _ _ _ _ _ A) hEV (by decide) rfl (Nat.le_of_ble_eq_true rfl) rfl ?_
  intro p9 e9 s9 m9 a9 b9 me9 c9 A9 C1 hr hin
  have C0 : jj_C p9 s9 m9 a9 me9 c9 (dC, dI) vwCl A9 12 cL_exercises "StrikehallLaw" lw_U _ EV := jj_toU C1
  have hw := C0.2.2.2.2.1
  obtain ⟨H, hH⟩ : ∃ H : Nat, H = (f_py He c (f_pk He sd c)) := ⟨_, rfl⟩
  have hH6 : H ≤ 6 := by rw [hH]; exact f_py_le _ _ _
  have hsb := f_sd_bd sd
  have hpk := f_pk_bd (He := He) (sd := sd) (c := c) hpos.1
  have ho6 := f_ow_mono He c (show 6 ≤ 7 by omega)
  refine jj_iconst C0 dL_exercises_0 ?_
  refine jj_topi (b := (f_ow He c 0)) (rfl) ?_
  refine jj_istore C0 (lv' := [(6, .int (iI (f_ow He c 0))), (0, .int (iI (k : Int))), (1, .int (iI (c : Int))), (2, .long (lI z)), (4, .ref (ka 1)), (5, .ref (ka 6))]) (by decide) rfl dL_exercises_1 ?_
  refine jj_iconst C0 dL_exercises_3 ?_
  refine jj_istore C0 (lv' := [(7, .int (iI 0)), (6, .int (iI (f_ow He c 0))), (0, .int (iI (k : Int))), (1, .int (iI (c : Int))), (2, .long (lI z)), (4, .ref (ka 1)), (5, .ref (ka 6))]) (by decide) rfl dL_exercises_4 ?_
  refine jj_ind (X := Nat) (fun q9 => match q9 with | i => (8 - i : Nat)) (fun q9 => match q9 with | i => [(7, .int (iI (i : Int))), (6, .int (iI (f_ow He c i))), (0, .int (iI (k : Int))), (1, .int (iI (c : Int))), (2, .long (lI z)), (4, .ref (ka 1)), (5, .ref (ka 6))]) (fun q9 => match q9 with | i => []) (fun q9 => match q9 with | i => wL ka cI cJ td pr up dn mo sh co n K St Ex Am Ov Bi As BL AL He Co dv Ca sd Cz ++ EE) (fun q9 => match q9 with | i => i ≤ 7) ?_ 0 (Nat.zero_le _)
  intro q9 hq9 ih6
  obtain ⟨i, rfl⟩ : ∃ z, z = q9 := ⟨_, rfl⟩
  have hi : i ≤ 7 := hq9
  have hbh := hHe (7 * c + i)
  show jj_W _ _ _ _ _ _ _ _ _ _ _ _ _ _ _ _ _ 6 [(7, .int (iI (i : Int))), (6, .int (iI (f_ow He c i))), (0, .int (iI (k : Int))), (1, .int (iI (c : Int))), (2, .long (lI z)), (4, .ref (ka 1)), (5, .ref (ka 6))] [] (wL ka cI cJ td pr up dn mo sh co n K St Ex Am Ov Bi As BL AL He Co dv Ca sd Cz ++ EE)
  refine jj_iload C0 0 rfl dL_exercises_6 ?_
  refine jj_bipush C0 dL_exercises_8 (by decide) ?_
  refine jj_icmp_ge C0 (by omega) (by omega) dL_exercises_10 (tgt := 52) (by decide) (fun c_1 => ?_) (fun c_1 => ?_)
  · refine jj_lve (lv' := [(7, .int (iI (i : Int))), (6, .int (iI (f_ow He c 7))), (0, .int (iI (k : Int))), (1, .int (iI (c : Int))), (2, .long (lI z)), (4, .ref (ka 1)), (5, .ref (ka 6))]) (by rw [show i = 7 by omega]) ?_
    refine jj_aload C0 6 rfl dL_exercises_52 ?_
    refine jj_bipush C0 dL_exercises_54 (by decide) ?_
    refine jj_ldc2 C0 (z := 1103515245) (by decide) (hw _ hU_731) dL_exercises_56 ?_
    refine jj_aload C0 6 rfl dL_exercises_59 ?_
    refine jj_bipush C0 dL_exercises_61 (by decide) ?_
    refine jj_lald C0 (q0 := 6) (t0 := 1) (f := (f_lm Ca sd Cz)) (rfl) rfl (k := 7) (by omega) (by omega) (by decide) dL_exercises_63 ?_
    refine jj_topl (b := sd) (rfl) ?_
    refine jj_lmul C0 dL_exercises_64 ?_
    refine jj_ldc2 C0 (z := 12345) (by decide) (hw _ hU_732) dL_exercises_65 ?_
    refine jj_ladd C0 dL_exercises_68 ?_
    refine jj_ldc2 C0 (z := 2147483647) (by decide) (hw _ hU_733) dL_exercises_69 ?_
    refine jj_land31 C0 (by omega) (by omega) dL_exercises_72 ?_
    refine jj_topl (b := (f_sd sd)) (rfl) ?_
    refine jj_last C0 (q0 := 6) (t0 := 1) (f := (f_lm Ca sd Cz)) (rfl) rfl (k := 7) (by omega) (by omega) (by decide) (ws' := wL ka cI cJ td pr up dn mo sh co n K St Ex Am Ov Bi As BL AL He Co dv Ca (f_sd sd) Cz ++ EE) (wL_sd) dL_exercises_73 ?_
    refine jj_aload C0 6 rfl dL_exercises_74 ?_
    refine jj_bipush C0 dL_exercises_76 (by decide) ?_
    refine jj_lald C0 (q0 := 6) (t0 := 1) (f := (f_lm Ca (f_sd sd) Cz)) (rfl) rfl (k := 7) (by omega) (by omega) (by decide) dL_exercises_78 ?_
    refine jj_topl (b := (f_sd sd)) (rfl) ?_
    refine jj_bipush C0 dL_exercises_79 (by decide) ?_
    refine jj_lshr16 C0 (by omega) (by omega) dL_exercises_81 ?_
    refine jj_iload C0 1 rfl dL_exercises_82 ?_
    refine jj_i2l C0 (by omega) dL_exercises_84 ?_
    refine jj_lrem C0 (Int.ediv_nonneg hsb.1 (by omega)) (by omega) (by omega) (by omega) dL_exercises_85 ?_
    refine jj_topl (b := (f_pk He sd c)) (rfl) ?_
    refine jj_lstore C0 (lv' := [(7, .long (lI (f_pk He sd c))), (6, .int (iI (f_ow He c 7))), (0, .int (iI (k : Int))), (1, .int (iI (c : Int))), (2, .long (lI z)), (4, .ref (ka 1)), (5, .ref (ka 6))]) (by decide) rfl dL_exercises_86 ?_
    refine jj_iconst C0 dL_exercises_88 ?_
    refine jj_istore C0 (lv' := [(9, .int (iI 0)), (7, .long (lI (f_pk He sd c))), (6, .int (iI (f_ow He c 7))), (0, .int (iI (k : Int))), (1, .int (iI (c : Int))), (2, .long (lI z)), (4, .ref (ka 1)), (5, .ref (ka 6))]) (by decide) rfl dL_exercises_89 ?_
    refine jj_bipush C0 dL_exercises_91 (by decide) ?_
    refine jj_topi (b := (((7 : Nat) : Int) - 1)) (rfl) ?_
    refine jj_istore C0 (lv' := [(10, .int (iI (((7 : Nat) : Int) - 1))), (9, .int (iI 0)), (7, .long (lI (f_pk He sd c))), (6, .int (iI (f_ow He c 7))), (0, .int (iI (k : Int))), (1, .int (iI (c : Int))), (2, .long (lI z)), (4, .ref (ka 1)), (5, .ref (ka 6))]) (by decide) rfl dL_exercises_93 ?_
    refine jj_lv [0, 3, 1, 2, 4, 5, 6, 7, 8] rfl ?_
    refine jj_ind (X := Nat) (fun q9 => match q9 with | i => (i : Nat)) (fun q9 => match q9 with | i => [(10, .int (iI ((i : Int) - 1))), (6, .int (iI (f_ow He c i))), (9, .int (iI 0)), (7, .long (lI (f_pk He sd c))), (0, .int (iI (k : Int))), (1, .int (iI (c : Int))), (2, .long (lI z)), (4, .ref (ka 1)), (5, .ref (ka 6))]) (fun q9 => match q9 with | i => []) (fun q9 => match q9 with | i => wL ka cI cJ td pr up dn mo sh co n K St Ex Am Ov Bi As BL AL He Co dv Ca (f_sd sd) Cz ++ EE) (fun q9 => match q9 with | i => i ≤ 7 ∧ f_pk He sd c < (f_ow He c i)) ?_ 7 ⟨Nat.le_refl _, hpk.2⟩
    intro q9 hq9 ih95
    obtain ⟨i, rfl⟩ : ∃ z, z = q9 := ⟨_, rfl⟩
    obtain ⟨hi7, hi8⟩ : i ≤ 7 ∧ f_pk He sd c < (f_ow He c i) := hq9
    have hz0 : i ≠ 0 ∨ f_ow He c i = 0 := by rcases Nat.eq_zero_or_pos i with e9 | e9; exact Or.inr (by rw [e9]; rfl); exact Or.inl (by omega)
    show jj_W _ _ _ _ _ _ _ _ _ _ _ _ _ _ _ _ _ 95 [(10, .int (iI ((i : Int) - 1))), (6, .int (iI (f_ow He c i))), (9, .int (iI 0)), (7, .long (lI (f_pk He sd c))), (0, .int (iI (k : Int))), (1, .int (iI (c : Int))), (2, .long (lI z)), (4, .ref (ka 1)), (5, .ref (ka 6))] [] (wL ka cI cJ td pr up dn mo sh co n K St Ex Am Ov Bi As BL AL He Co dv Ca (f_sd sd) Cz ++ EE)
    refine jj_iload C0 0 rfl dL_exercises_95 ?_
    refine jj_if_lt C0 (by omega) dL_exercises_97 (tgt := 164) (by decide) (fun c_2 => absurd c_2 (by omega)) (fun c_2 => ?_)
    obtain ⟨h, rfl⟩ : ∃ h : Nat, i = h + 1 := ⟨i - 1, by omega⟩
    have hbh := hHe (7 * c + h)
    have hst9 : (He (7 * c + h) < 0 ∧ f_ow He c (h + 1) = f_ow He c h - He (7 * c + h)) ∨ (0 ≤ He (7 * c + h) ∧ f_ow He c (h + 1) = f_ow He c h) := by simp only [f_ow]; split <;> omega
    have hom := f_ow_mono He c (show h ≤ 7 by omega)
    have hom1 := f_ow_mono He c (show h + 1 ≤ 7 by omega)
    have hon := f_ow_nn He c h
    refine jj_lve (lv' := [(10, .int (iI (h : Int))), (6, .int (iI (f_ow He c (h + 1)))), (9, .int (iI 0)), (7, .long (lI (f_pk He sd c))), (0, .int (iI (k : Int))), (1, .int (iI (c : Int))), (2, .long (lI z)), (4, .ref (ka 1)), (5, .ref (ka 6))]) (by rw [show (((h + 1 : Nat) : Int) - 1) = (h : Int) by omega]) ?_
    refine jj_aload C0 7 rfl dL_exercises_100 ?_
    refine jj_bipush C0 dL_exercises_102 (by decide) ?_
    refine jj_iload_n C0 5 rfl dL_exercises_104 ?_
    refine jj_imul C0 dL_exercises_105 ?_
    refine jj_iload C0 0 rfl dL_exercises_106 ?_
    refine jj_iadd C0 dL_exercises_108 ?_
    refine jj_iald C0 (q0 := 1) (t0 := 0) (f := (f_lh He)) (rfl) rfl (k := ((10 * c) + h)) (by omega) (by omega) (by decide) dL_exercises_109 ?_
    refine jj_topi (b := (He (7 * c + h))) (f_lh_at (by omega)) ?_
    refine jj_if_ge C0 (by omega) dL_exercises_110 (tgt := 127) (by decide) (fun c_3 => ?_) (fun c_3 => ?_)
    · refine jj_iconst C0 dL_exercises_127 ?_
      refine jj_istore C0 (lv' := [(11, .int (iI 0)), (10, .int (iI (h : Int))), (6, .int (iI (f_ow He c (h + 1)))), (9, .int (iI 0)), (7, .long (lI (f_pk He sd c))), (0, .int (iI (k : Int))), (1, .int (iI (c : Int))), (2, .long (lI z)), (4, .ref (ka 1)), (5, .ref (ka 6))]) (by decide) rfl dL_exercises_128 ?_
      refine jj_iload C0 2 rfl dL_exercises_130 ?_
      refine jj_iload C0 0 rfl dL_exercises_132 ?_
      refine jj_isub C0 dL_exercises_134 ?_
      refine jj_topi (b := (f_ow He c h)) (by simp only [f_ow]; first | (rw [if_pos (by omega)]; omega) | (rw [if_neg (by omega)]; omega)) ?_
      refine jj_istore C0 (lv' := [(6, .int (iI (f_ow He c h))), (11, .int (iI 0)), (10, .int (iI (h : Int))), (9, .int (iI 0)), (7, .long (lI (f_pk He sd c))), (0, .int (iI (k : Int))), (1, .int (iI (c : Int))), (2, .long (lI z)), (4, .ref (ka 1)), (5, .ref (ka 6))]) (by decide) rfl dL_exercises_135 ?_
      refine jj_iload C0 1 rfl dL_exercises_137 ?_
      refine jj_if_le C0 (by omega) dL_exercises_139 (tgt := 158) (by decide) (fun c_4 => ?_) (fun c_4 => absurd c_4 (by omega))
      refine jj_iinc C0 (z := ((h : Int) - 1)) (lv' := [(10, .int (iI ((h : Int) - 1))), (6, .int (iI (f_ow He c h))), (11, .int (iI 0)), (9, .int (iI 0)), (7, .long (lI (f_pk He sd c))), (0, .int (iI (k : Int))), (1, .int (iI (c : Int))), (2, .long (lI z)), (4, .ref (ka 1)), (5, .ref (ka 6))]) 2 rfl (by omega) (by decide) rfl dL_exercises_158 ?_
      refine jj_goto C0 (tgt := 95) dL_exercises_161 (by decide) ?_
      refine jj_lv [0, 1, 3, 4, 5, 6, 7, 8, 9] rfl ?_
      exact ih95 h (⟨by omega, by omega⟩) (by dsimp only; omega)
    · refine jj_aload C0 7 rfl dL_exercises_113 ?_
      refine jj_bipush C0 dL_exercises_115 (by decide) ?_
      refine jj_iload_n C0 5 rfl dL_exercises_117 ?_
      refine jj_imul C0 dL_exercises_118 ?_
      refine jj_iload C0 0 rfl dL_exercises_119 ?_
      refine jj_iadd C0 dL_exercises_121 ?_
      refine jj_iald C0 (q0 := 1) (t0 := 0) (f := (f_lh He)) (rfl) rfl (k := ((10 * c) + h)) (by omega) (by omega) (by decide) dL_exercises_122 ?_
      refine jj_topi (b := (He (7 * c + h))) (f_lh_at (by omega)) ?_
      refine jj_ineg C0 dL_exercises_123 ?_
      refine jj_goto C0 (tgt := 128) dL_exercises_124 (by decide) ?_
      refine jj_istore C0 (lv' := [(11, .int (iI (-(He (7 * c + h))))), (10, .int (iI (h : Int))), (6, .int (iI (f_ow He c (h + 1)))), (9, .int (iI 0)), (7, .long (lI (f_pk He sd c))), (0, .int (iI (k : Int))), (1, .int (iI (c : Int))), (2, .long (lI z)), (4, .ref (ka 1)), (5, .ref (ka 6))]) (by decide) rfl dL_exercises_128 ?_
      refine jj_iload C0 2 rfl dL_exercises_130 ?_
      refine jj_iload C0 0 rfl dL_exercises_132 ?_
      refine jj_isub C0 dL_exercises_134 ?_
      refine jj_topi (b := (f_ow He c h)) (by simp only [f_ow]; first | (rw [if_pos (by omega)]; omega) | (rw [if_neg (by omega)]; omega)) ?_
      refine jj_istore C0 (lv' := [(6, .int (iI (f_ow He c h))), (11, .int (iI (-(He (7 * c + h))))), (10, .int (iI (h : Int))), (9, .int (iI 0)), (7, .long (lI (f_pk He sd c))), (0, .int (iI (k : Int))), (1, .int (iI (c : Int))), (2, .long (lI z)), (4, .ref (ka 1)), (5, .ref (ka 6))]) (by decide) rfl dL_exercises_135 ?_
      refine jj_iload C0 1 rfl dL_exercises_137 ?_
      refine jj_if_le C0 (by omega) dL_exercises_139 (tgt := 158) (by decide) (fun c_5 => ?_) (fun c_5 => ?_)
      · refine jj_iinc C0 (z := ((h : Int) - 1)) (lv' := [(10, .int (iI ((h : Int) - 1))), (6, .int (iI (f_ow He c h))), (11, .int (iI (-(He (7 * c + h))))), (9, .int (iI 0)), (7, .long (lI (f_pk He sd c))), (0, .int (iI (k : Int))), (1, .int (iI (c : Int))), (2, .long (lI z)), (4, .ref (ka 1)), (5, .ref (ka 6))]) 2 rfl (by omega) (by decide) rfl dL_exercises_158 ?_
        refine jj_goto C0 (tgt := 95) dL_exercises_161 (by decide) ?_
        refine jj_lv [0, 1, 3, 4, 5, 6, 7, 8, 9] rfl ?_
        exact ih95 h (⟨by omega, by omega⟩) (by dsimp only; omega)
      · refine jj_lload C0 4 rfl dL_exercises_142 ?_
        refine jj_iload C0 0 rfl dL_exercises_144 ?_
        refine jj_i2l C0 (by omega) dL_exercises_146 ?_
        refine jj_lcmp_lt C0 (by omega) (by omega) dL_exercises_147 dL_exercises_148 (tgt := 158) (by decide) (fun c_6 => ?_) (fun c_6 => ?_)
        · refine jj_iinc C0 (z := ((h : Int) - 1)) (lv' := [(10, .int (iI ((h : Int) - 1))), (6, .int (iI (f_ow He c h))), (11, .int (iI (-(He (7 * c + h))))), (9, .int (iI 0)), (7, .long (lI (f_pk He sd c))), (0, .int (iI (k : Int))), (1, .int (iI (c : Int))), (2, .long (lI z)), (4, .ref (ka 1)), (5, .ref (ka 6))]) 2 rfl (by omega) (by decide) rfl dL_exercises_158 ?_
          refine jj_goto C0 (tgt := 95) dL_exercises_161 (by decide) ?_
          refine jj_lv [0, 1, 3, 4, 5, 6, 7, 8, 9] rfl ?_
          exact ih95 h (⟨by omega, by omega⟩) (by dsimp only; omega)
        · refine jj_lve (lv' := [(6, .int (iI (f_ow He c h))), (11, .int (iI (-(He (7 * c + h))))), (10, .int (iI (H : Int))), (9, .int (iI 0)), (7, .long (lI (f_pk He sd c))), (0, .int (iI (k : Int))), (1, .int (iI (c : Int))), (2, .long (lI z)), (4, .ref (ka 1)), (5, .ref (ka 6))]) (by rw [hH, f_py_eq (by omega) (by omega) hi8]) ?_
          refine jj_iload C0 2 rfl dL_exercises_151 ?_
          refine jj_istore C0 (lv' := [(9, .int (iI (H : Int))), (6, .int (iI (f_ow He c h))), (11, .int (iI (-(He (7 * c + h))))), (10, .int (iI (H : Int))), (7, .long (lI (f_pk He sd c))), (0, .int (iI (k : Int))), (1, .int (iI (c : Int))), (2, .long (lI z)), (4, .ref (ka 1)), (5, .ref (ka 6))]) (by decide) rfl dL_exercises_153 ?_
          refine jj_goto C0 (tgt := 164) dL_exercises_155 (by decide) ?_
          refine jj_aload C0 8 rfl dL_exercises_164 ?_
          refine jj_bipush C0 dL_exercises_166 (by decide) ?_
          refine jj_iload_n C0 6 rfl dL_exercises_168 ?_
          refine jj_imul C0 dL_exercises_169 ?_
          refine jj_iload C0 0 rfl dL_exercises_170 ?_
          refine jj_iadd C0 dL_exercises_172 ?_
          refine jj_dup2_11 C0 dL_exercises_173 rfl rfl ?_
          refine jj_iald C0 (q0 := 1) (t0 := 0) (f := (f_lh He)) (rfl) rfl (k := ((10 * c) + H)) (by omega) (by omega) (by decide) dL_exercises_174 ?_
          refine jj_topi (b := (He (7 * c + H))) (f_lh_at (by omega)) ?_
          refine jj_iconst C0 dL_exercises_175 ?_
          refine jj_iadd C0 dL_exercises_176 ?_
          refine jj_iast C0 (q0 := 1) (t0 := 0) (f := (f_lh He)) (rfl) rfl (k := ((10 * c) + H)) (by omega) (by omega) (by decide) (ws' := wL ka cI cJ td pr up dn mo sh co n K St Ex Am Ov Bi As BL AL (va_up He (7 * c + H) ((He (7 * c + H)) + 1)) Co dv Ca (f_sd sd) Cz ++ EE) (wL_He (by omega)) dL_exercises_177 ?_
          refine jj_aload C0 8 rfl dL_exercises_178 ?_
          refine jj_bipush C0 dL_exercises_180 (by decide) ?_
          refine jj_iload_n C0 6 rfl dL_exercises_182 ?_
          refine jj_imul C0 dL_exercises_183 ?_
          refine jj_iload_n C0 5 rfl dL_exercises_184 ?_
          refine jj_iadd C0 dL_exercises_185 ?_
          refine jj_dup2_11 C0 dL_exercises_186 rfl rfl ?_
          refine jj_iald C0 (q0 := 1) (t0 := 0) (f := (f_lh (va_up He (7 * c + H) ((He (7 * c + H)) + 1)))) (rfl) rfl (k := ((10 * c) + k)) (by omega) (by omega) (by decide) dL_exercises_187 ?_
          refine jj_topi (b := ((va_up He (7 * c + H) ((He (7 * c + H)) + 1)) (7 * c + k))) (f_lh_at (by omega)) ?_
          refine jj_iconst C0 dL_exercises_188 ?_
          refine jj_isub C0 dL_exercises_189 ?_
          refine jj_iast C0 (q0 := 1) (t0 := 0) (f := (f_lh (va_up He (7 * c + H) ((He (7 * c + H)) + 1)))) (rfl) rfl (k := ((10 * c) + k)) (by omega) (by omega) (by decide) (ws' := wL ka cI cJ td pr up dn mo sh co n K St Ex Am Ov Bi As BL AL (va_up (va_up He (7 * c + H) ((He (7 * c + H)) + 1)) (7 * c + k) (((va_up He (7 * c + H) ((He (7 * c + H)) + 1)) (7 * c + k)) - 1)) Co dv Ca (f_sd sd) Cz ++ EE) (wL_He (by omega)) dL_exercises_190 ?_
          refine jj_aload C0 9 rfl dL_exercises_191 ?_
          refine jj_iload C0 0 rfl dL_exercises_193 ?_
          refine jj_dup2_11 C0 dL_exercises_195 rfl rfl ?_
          refine jj_lald C0 (q0 := 6) (t0 := 1) (f := (f_lm Ca (f_sd sd) Cz)) (rfl) rfl (k := H) (by omega) (by omega) (by decide) dL_exercises_196 ?_
          refine jj_topl (b := (Ca H)) (f_lm_Ca (by omega)) ?_
          refine jj_ldc2 C0 (z := 1000) (by decide) (hw _ hU_712) dL_exercises_197 ?_
          refine jj_lload_n C0 7 rfl dL_exercises_200 ?_
          refine jj_lmul C0 dL_exercises_201 ?_
          refine jj_lsub C0 dL_exercises_202 ?_
          refine jj_last C0 (q0 := 6) (t0 := 1) (f := (f_lm Ca (f_sd sd) Cz)) (rfl) rfl (k := H) (by omega) (by omega) (by decide) (ws' := wL ka cI cJ td pr up dn mo sh co n K St Ex Am Ov Bi As BL AL (va_up (va_up He (7 * c + H) ((He (7 * c + H)) + 1)) (7 * c + k) (((va_up He (7 * c + H) ((He (7 * c + H)) + 1)) (7 * c + k)) - 1)) Co dv (va_up Ca H ((Ca H) - (1000 * z))) (f_sd sd) Cz ++ EE) (wL_Ca (by omega)) dL_exercises_203 ?_
          refine jj_aload C0 9 rfl dL_exercises_204 ?_
          refine jj_iload_n C0 5 rfl dL_exercises_206 ?_
          refine jj_dup2_11 C0 dL_exercises_207 rfl rfl ?_
          refine jj_lald C0 (q0 := 6) (t0 := 1) (f := (f_lm (va_up Ca H ((Ca H) - (1000 * z))) (f_sd sd) Cz)) (rfl) rfl (k := k) (by omega) (by omega) (by decide) dL_exercises_208 ?_
          refine jj_topl (b := ((va_up Ca H ((Ca H) - (1000 * z))) k)) (f_lm_Ca (by omega)) ?_
          refine jj_ldc2 C0 (z := 1000) (by decide) (hw _ hU_712) dL_exercises_209 ?_
          refine jj_lload_n C0 7 rfl dL_exercises_212 ?_
          refine jj_lmul C0 dL_exercises_213 ?_
          refine jj_ladd C0 dL_exercises_214 ?_
          refine jj_last C0 (q0 := 6) (t0 := 1) (f := (f_lm (va_up Ca H ((Ca H) - (1000 * z))) (f_sd sd) Cz)) (rfl) rfl (k := k) (by omega) (by omega) (by decide) (ws' := wL ka cI cJ td pr up dn mo sh co n K St Ex Am Ov Bi As BL AL (va_up (va_up He (7 * c + H) ((He (7 * c + H)) + 1)) (7 * c + k) (((va_up He (7 * c + H) ((He (7 * c + H)) + 1)) (7 * c + k)) - 1)) Co dv (va_up (va_up Ca H ((Ca H) - (1000 * z))) k (((va_up Ca H ((Ca H) - (1000 * z))) k) + (1000 * z))) (f_sd sd) Cz ++ EE) (wL_Ca (by omega)) dL_exercises_215 ?_
          exact jj_vret C0 hr () (trivial) (by rw [hH]; rfl) (by show 0 ≤ 0; omega) (by show 0 ≤ 0; omega) dL_exercises_216
  · refine jj_iload C0 1 rfl dL_exercises_13 ?_
    refine jj_aload C0 5 rfl dL_exercises_15 ?_
    refine jj_bipush C0 dL_exercises_17 (by decide) ?_
    refine jj_iload_n C0 3 rfl dL_exercises_19 ?_
    refine jj_imul C0 dL_exercises_20 ?_
    refine jj_iload C0 0 rfl dL_exercises_21 ?_
    refine jj_iadd C0 dL_exercises_23 ?_
    refine jj_iald C0 (q0 := 1) (t0 := 0) (f := (f_lh He)) (rfl) rfl (k := ((10 * c) + i)) (by omega) (by omega) (by decide) dL_exercises_24 ?_
    refine jj_topi (b := (He (7 * c + i))) (f_lh_at (by omega)) ?_
    refine jj_if_ge C0 (by omega) dL_exercises_25 (tgt := 42) (by decide) (fun c_7 => ?_) (fun c_7 => ?_)
    · refine jj_iconst C0 dL_exercises_42 ?_
      refine jj_iadd C0 dL_exercises_43 ?_
      refine jj_topi (b := (f_ow He c (i + 1))) (by simp only [f_ow]; first | rw [if_pos (by omega)] | rw [if_neg (by omega)]) ?_
      refine jj_istore C0 (lv' := [(6, .int (iI (f_ow He c (i + 1)))), (7, .int (iI (i : Int))), (0, .int (iI (k : Int))), (1, .int (iI (c : Int))), (2, .long (lI z)), (4, .ref (ka 1)), (5, .ref (ka 6))]) (by decide) rfl dL_exercises_44 ?_
      refine jj_iinc C0 (z := ((i + 1 : Nat) : Int)) (lv' := [(7, .int (iI ((i + 1 : Nat) : Int))), (6, .int (iI (f_ow He c (i + 1)))), (0, .int (iI (k : Int))), (1, .int (iI (c : Int))), (2, .long (lI z)), (4, .ref (ka 1)), (5, .ref (ka 6))]) 1 rfl (by omega) (by decide) rfl dL_exercises_46 ?_
      refine jj_goto C0 (tgt := 6) dL_exercises_49 (by decide) ?_
      exact ih6 (i + 1) (by omega) (by dsimp only; omega)
    · refine jj_aload C0 5 rfl dL_exercises_28 ?_
      refine jj_bipush C0 dL_exercises_30 (by decide) ?_
      refine jj_iload_n C0 3 rfl dL_exercises_32 ?_
      refine jj_imul C0 dL_exercises_33 ?_
      refine jj_iload C0 0 rfl dL_exercises_34 ?_
      refine jj_iadd C0 dL_exercises_36 ?_
      refine jj_iald C0 (q0 := 1) (t0 := 0) (f := (f_lh He)) (rfl) rfl (k := ((10 * c) + i)) (by omega) (by omega) (by decide) dL_exercises_37 ?_
      refine jj_topi (b := (He (7 * c + i))) (f_lh_at (by omega)) ?_
      refine jj_ineg C0 dL_exercises_38 ?_
      refine jj_goto C0 (tgt := 43) dL_exercises_39 (by decide) ?_
      refine jj_iadd C0 dL_exercises_43 ?_
      refine jj_topi (b := (f_ow He c (i + 1))) (by simp only [f_ow]; first | rw [if_pos (by omega)] | rw [if_neg (by omega)]) ?_
      refine jj_istore C0 (lv' := [(6, .int (iI (f_ow He c (i + 1)))), (7, .int (iI (i : Int))), (0, .int (iI (k : Int))), (1, .int (iI (c : Int))), (2, .long (lI z)), (4, .ref (ka 1)), (5, .ref (ka 6))]) (by decide) rfl dL_exercises_44 ?_
      refine jj_iinc C0 (z := ((i + 1 : Nat) : Int)) (lv' := [(7, .int (iI ((i + 1 : Nat) : Int))), (6, .int (iI (f_ow He c (i + 1)))), (0, .int (iI (k : Int))), (1, .int (iI (c : Int))), (2, .long (lI z)), (4, .ref (ka 1)), (5, .ref (ka 6))]) 1 rfl (by omega) (by decide) rfl dL_exercises_46 ?_
      refine jj_goto C0 (tgt := 6) dL_exercises_49 (by decide) ?_
      exact ih6 (i + 1) (by omega) (by dsimp only; omega)
end P3
