/-! the cells of the house: eight of its own, three of each contract -/
def f_row (F : Nat → Int) (c : Nat) : Nat → Int := fun h => if h < 7 then F (7 * c + h) else 0
theorem f_row_at {F : Nat → Int} {c h : Nat} (hh : h < 7) : f_row F c h = F (7 * c + h) := by unfold f_row; rw [if_pos hh]
theorem f_row_up {F : Nat → Int} {c h : Nat} {v : Int} (hh : h < 7) : va_up (f_row F c) h v = f_row (va_up F (7 * c + h) v) c := by
  funext j
  simp only [va_up, f_row]
  by_cases e : j = h
  · subst e; rw [if_pos rfl, if_pos hh, if_pos rfl]
  · rw [if_neg e]
    by_cases g : j < 7
    · rw [if_pos g, if_pos g, if_neg (by omega)]
    · rw [if_neg g, if_neg g]
theorem f_row_ne {F : Nat → Int} {c d h : Nat} {v : Int} (hh : h < 7) (hd : d ≠ c) : f_row (va_up F (7 * c + h) v) d = f_row F d := by
  funext j
  simp only [va_up, f_row]
  by_cases g : j < 7
  · rw [if_pos g, if_pos g, if_neg (by omega)]
  · rw [if_neg g, if_neg g]
def wF (g : Nat → va_W) : Nat → va_W
  | 0 => []
  | c + 1 => wF g c ++ g c
theorem wF_len {g : Nat → va_W} (hg : ∀ c, (g c).length = 3) : ∀ n, (wF g n).length = 3 * n
  | 0 => rfl
  | n + 1 => by
    simp only [wF, List.length_append, wF_len hg n, hg n]
    omega
theorem wF_get {g : Nat → va_W} (hg : ∀ c, (g c).length = 3) {c j : Nat} (hj : j < 3) : ∀ n, c < n → (wF g n)[3 * c + j]? = (g c)[j]?
  | 0, h => absurd h (Nat.not_lt_zero _)
  | n + 1, h => by
    simp only [wF]
    by_cases e : c = n
    · subst e
      rw [List.getElem?_append_right (by rw [wF_len hg]; omega), wF_len hg]
      congr 1
      omega
    · rw [List.getElem?_append_left (by rw [wF_len hg]; omega)]
      exact wF_get hg hj n (by omega)
theorem wF_congr {g g' : Nat → va_W} : ∀ n, (∀ d, d < n → g' d = g d) → wF g' n = wF g n
  | 0, _ => rfl
  | n + 1, h => by
    simp only [wF]
    rw [wF_congr n (fun d hd => h d (by omega)), h n (by omega)]
theorem wF_set {g g' : Nat → va_W} (hg : ∀ c, (g c).length = 3) {c j : Nat} {e : Nat × va_E} (hj : j < 3) (ho : ∀ d, d ≠ c → g' d = g d) (hs : (g c).set j e = g' c) : ∀ n, c < n → (wF g n).set (3 * c + j) e = wF g' n
  | 0, h => absurd h (Nat.not_lt_zero _)
  | n + 1, h => by
    simp only [wF]
    by_cases q : c = n
    · subst q
      rw [List.set_append_right _ _ (by rw [wF_len hg]; omega), wF_len hg, show 3 * c + j - 3 * c = j by omega, hs, wF_congr (g := g) (g' := g') c (fun d hd => ho d (by omega))]
    · rw [List.set_append_left _ _ (by rw [wF_len hg]; omega), wF_set hg hj ho hs n (by omega), ho n (by omega)]
def f_ct (cA hA nA : Nat → Nat) (cI cZ : ClassId) (K St Ex Am Bi As BL AL He Co : Nat → Int) (c : Nat) : va_W := [(cA c, .inr (1, [.int (iI (K c)), .int (iI (St c)), .int (iI (Ex c)), .int (iI (Am c)), .ref (hA c), .ref (nA c), .int (iI (Bi c)), .int (iI (As c)), .int (iI (BL c)), .int (iI (AL c))])), (hA c, .inl (cI, 7, .inl (iA (f_row He c)))), (nA c, .inl (cZ, 7, .inl (iA (f_row Co c))))]
def wH (ha cA hA nA : Nat → Nat) (ed : Nat) (cI cJ cZ : ClassId) (td : Nat) (pr up dn : Int) (dv rw : Nat → Int) (sd mc : Int) (n : Nat) (mo sh co : Int) (Ca Cz K St Ex Am Bi As BL AL He Co : Nat → Int) : va_W := [(ha 0, .inr (4, [.ref (ha 1), .ref (ha 4), .ref (ha 5), .ref (ha 6), .ref (ha 7), .int (iI mo), .int (iI sh), .int (iI co)])), (ha 1, .inr (3, [.ref (ha 2), .ref (ha 3), .int (iI pr), .int (iI up), .int (iI dn), .int (iI (td : Int))])), (ha 2, .inl (cI, 201, .inl (iA dv))), (ha 3, .inl (cJ, 11, .inr (.inl (lA rw)))), (ha 4, .inr (2, [.long (lI sd)])), (ha 5, .inr (0, [.int (iI mc), .ref ed, .int (iI (n : Int))])), (ha 6, .inl (cJ, 7, .inr (.inl (lA Ca)))), (ha 7, .inl (cJ, 6, .inr (.inl (lA Cz))))] ++ wF (f_ct cA hA nA cI cZ K St Ex Am Bi As BL AL He Co) n
theorem f_ct_len {cA hA nA : Nat → Nat} {cI cZ : ClassId} {K St Ex Am Bi As BL AL He Co : Nat → Int} : ∀ c, ((f_ct cA hA nA cI cZ K St Ex Am Bi As BL AL He Co) c).length = 3 := fun _ => rfl
section HWL
variable {ha cA hA nA : Nat → Nat} {ed : Nat} {cI cJ cZ : ClassId} {td : Nat} {pr up dn : Int} {dv rw : Nat → Int} {sd mc : Int} {n : Nat} {mo sh co : Int} {Ca Cz K St Ex Am Bi As BL AL He Co : Nat → Int} {EE : va_W} {c : Nat}
theorem wH_c (hc : c < n) : (wH ha cA hA nA ed cI cJ cZ td pr up dn dv rw sd mc n mo sh co Ca Cz K St Ex Am Bi As BL AL He Co ++ EE)[8 + (3 * c + 0)]? = some (cA c, .inr (1, [.int (iI (K c)), .int (iI (St c)), .int (iI (Ex c)), .int (iI (Am c)), .ref (hA c), .ref (nA c), .int (iI (Bi c)), .int (iI (As c)), .int (iI (BL c)), .int (iI (AL c))])) := by
  unfold wH
  rw [List.append_assoc, List.getElem?_append_right (Nat.le_add_right 8 _)]
  show (wF (f_ct cA hA nA cI cZ K St Ex Am Bi As BL AL He Co) n ++ EE)[8 + (3 * c + 0) - 8]? = _
  rw [show 8 + (3 * c + 0) - 8 = 3 * c + 0 by omega, List.getElem?_append_left (by rw [wF_len f_ct_len]; omega), wF_get f_ct_len (by omega) n hc]
  rfl
theorem wH_h (hc : c < n) : (wH ha cA hA nA ed cI cJ cZ td pr up dn dv rw sd mc n mo sh co Ca Cz K St Ex Am Bi As BL AL He Co ++ EE)[8 + (3 * c + 1)]? = some (hA c, .inl (cI, 7, .inl (iA (f_row He c)))) := by
  unfold wH
  rw [List.append_assoc, List.getElem?_append_right (Nat.le_add_right 8 _)]
  show (wF (f_ct cA hA nA cI cZ K St Ex Am Bi As BL AL He Co) n ++ EE)[8 + (3 * c + 1) - 8]? = _
  rw [show 8 + (3 * c + 1) - 8 = 3 * c + 1 by omega, List.getElem?_append_left (by rw [wF_len f_ct_len]; omega), wF_get f_ct_len (by omega) n hc]
  rfl
theorem wH_n (hc : c < n) : (wH ha cA hA nA ed cI cJ cZ td pr up dn dv rw sd mc n mo sh co Ca Cz K St Ex Am Bi As BL AL He Co ++ EE)[8 + (3 * c + 2)]? = some (nA c, .inl (cZ, 7, .inl (iA (f_row Co c)))) := by
  unfold wH
  rw [List.append_assoc, List.getElem?_append_right (Nat.le_add_right 8 _)]
  show (wF (f_ct cA hA nA cI cZ K St Ex Am Bi As BL AL He Co) n ++ EE)[8 + (3 * c + 2) - 8]? = _
  rw [show 8 + (3 * c + 2) - 8 = 3 * c + 2 by omega, List.getElem?_append_left (by rw [wF_len f_ct_len]; omega), wF_get f_ct_len (by omega) n hc]
  rfl
theorem wH_set {g' : Nat → va_W} {j : Nat} {e : Nat × va_E} {Z : va_W} (hj : j < 3) (hc : c < n) (ho : ∀ d, d ≠ c → g' d = (f_ct cA hA nA cI cZ K St Ex Am Bi As BL AL He Co) d) (hs : ((f_ct cA hA nA cI cZ K St Ex Am Bi As BL AL He Co) c).set j e = g' c) (hZ : Z = ([(ha 0, .inr (4, [.ref (ha 1), .ref (ha 4), .ref (ha 5), .ref (ha 6), .ref (ha 7), .int (iI mo), .int (iI sh), .int (iI co)])), (ha 1, .inr (3, [.ref (ha 2), .ref (ha 3), .int (iI pr), .int (iI up), .int (iI dn), .int (iI (td : Int))])), (ha 2, .inl (cI, 201, .inl (iA dv))), (ha 3, .inl (cJ, 11, .inr (.inl (lA rw)))), (ha 4, .inr (2, [.long (lI sd)])), (ha 5, .inr (0, [.int (iI mc), .ref ed, .int (iI (n : Int))])), (ha 6, .inl (cJ, 7, .inr (.inl (lA Ca)))), (ha 7, .inl (cJ, 6, .inr (.inl (lA Cz))))] ++ wF g' n) ++ EE) : (wH ha cA hA nA ed cI cJ cZ td pr up dn dv rw sd mc n mo sh co Ca Cz K St Ex Am Bi As BL AL He Co ++ EE).set (8 + (3 * c + j)) e = Z := by
  subst hZ
  unfold wH
  rw [List.append_assoc, List.set_append_right _ _ (Nat.le_add_right 8 _)]
  show _ ++ (wF (f_ct cA hA nA cI cZ K St Ex Am Bi As BL AL He Co) n ++ EE).set (8 + (3 * c + j) - 8) e = _
  rw [show 8 + (3 * c + j) - 8 = 3 * c + j by omega, List.set_append_left _ _ (by rw [wF_len f_ct_len]; omega), wF_set f_ct_len hj ho hs n hc, List.append_assoc]
theorem wH_Bi {z : Int} (hc : c < n) : (wH ha cA hA nA ed cI cJ cZ td pr up dn dv rw sd mc n mo sh co Ca Cz K St Ex Am Bi As BL AL He Co ++ EE).set (8 + (3 * c + 0)) (cA c, .inr (1, ([.int (iI (K c)), .int (iI (St c)), .int (iI (Ex c)), .int (iI (Am c)), .ref (hA c), .ref (nA c), .int (iI (Bi c)), .int (iI (As c)), .int (iI (BL c)), .int (iI (AL c))] : List Value).set 6 (.int (iI z)))) = wH ha cA hA nA ed cI cJ cZ td pr up dn dv rw sd mc n mo sh co Ca Cz K St Ex Am (va_up Bi c z) As BL AL He Co ++ EE :=
  wH_set (g' := f_ct cA hA nA cI cZ K St Ex Am (va_up Bi c z) As BL AL He Co) (by omega) hc (fun d hd => by simp only [f_ct, va_up_ne _ _ hd]) (by simp only [f_ct, va_up_self]; rfl) rfl
theorem wH_As {z : Int} (hc : c < n) : (wH ha cA hA nA ed cI cJ cZ td pr up dn dv rw sd mc n mo sh co Ca Cz K St Ex Am Bi As BL AL He Co ++ EE).set (8 + (3 * c + 0)) (cA c, .inr (1, ([.int (iI (K c)), .int (iI (St c)), .int (iI (Ex c)), .int (iI (Am c)), .ref (hA c), .ref (nA c), .int (iI (Bi c)), .int (iI (As c)), .int (iI (BL c)), .int (iI (AL c))] : List Value).set 7 (.int (iI z)))) = wH ha cA hA nA ed cI cJ cZ td pr up dn dv rw sd mc n mo sh co Ca Cz K St Ex Am Bi (va_up As c z) BL AL He Co ++ EE :=
  wH_set (g' := f_ct cA hA nA cI cZ K St Ex Am Bi (va_up As c z) BL AL He Co) (by omega) hc (fun d hd => by simp only [f_ct, va_up_ne _ _ hd]) (by simp only [f_ct, va_up_self]; rfl) rfl
theorem wH_BL {z : Int} (hc : c < n) : (wH ha cA hA nA ed cI cJ cZ td pr up dn dv rw sd mc n mo sh co Ca Cz K St Ex Am Bi As BL AL He Co ++ EE).set (8 + (3 * c + 0)) (cA c, .inr (1, ([.int (iI (K c)), .int (iI (St c)), .int (iI (Ex c)), .int (iI (Am c)), .ref (hA c), .ref (nA c), .int (iI (Bi c)), .int (iI (As c)), .int (iI (BL c)), .int (iI (AL c))] : List Value).set 8 (.int (iI z)))) = wH ha cA hA nA ed cI cJ cZ td pr up dn dv rw sd mc n mo sh co Ca Cz K St Ex Am Bi As (va_up BL c z) AL He Co ++ EE :=
  wH_set (g' := f_ct cA hA nA cI cZ K St Ex Am Bi As (va_up BL c z) AL He Co) (by omega) hc (fun d hd => by simp only [f_ct, va_up_ne _ _ hd]) (by simp only [f_ct, va_up_self]; rfl) rfl
theorem wH_AL {z : Int} (hc : c < n) : (wH ha cA hA nA ed cI cJ cZ td pr up dn dv rw sd mc n mo sh co Ca Cz K St Ex Am Bi As BL AL He Co ++ EE).set (8 + (3 * c + 0)) (cA c, .inr (1, ([.int (iI (K c)), .int (iI (St c)), .int (iI (Ex c)), .int (iI (Am c)), .ref (hA c), .ref (nA c), .int (iI (Bi c)), .int (iI (As c)), .int (iI (BL c)), .int (iI (AL c))] : List Value).set 9 (.int (iI z)))) = wH ha cA hA nA ed cI cJ cZ td pr up dn dv rw sd mc n mo sh co Ca Cz K St Ex Am Bi As BL (va_up AL c z) He Co ++ EE :=
  wH_set (g' := f_ct cA hA nA cI cZ K St Ex Am Bi As BL (va_up AL c z) He Co) (by omega) hc (fun d hd => by simp only [f_ct, va_up_ne _ _ hd]) (by simp only [f_ct, va_up_self]; rfl) rfl
theorem wH_He {h : Nat} {z : Int} (hc : c < n) (hh : h < 7) : (wH ha cA hA nA ed cI cJ cZ td pr up dn dv rw sd mc n mo sh co Ca Cz K St Ex Am Bi As BL AL He Co ++ EE).set (8 + (3 * c + 1)) (hA c, .inl (cI, 7, .inl (iA (va_up (f_row He c) h z)))) = wH ha cA hA nA ed cI cJ cZ td pr up dn dv rw sd mc n mo sh co Ca Cz K St Ex Am Bi As BL AL (va_up He (7 * c + h) z) Co ++ EE :=
  wH_set (g' := f_ct cA hA nA cI cZ K St Ex Am Bi As BL AL (va_up He (7 * c + h) z) Co) (by omega) hc (fun d hd => by simp only [f_ct, f_row_ne hh hd]) (by rw [f_row_up hh]; rfl) rfl
theorem wH_Co {h : Nat} {z : Int} (hc : c < n) (hh : h < 7) : (wH ha cA hA nA ed cI cJ cZ td pr up dn dv rw sd mc n mo sh co Ca Cz K St Ex Am Bi As BL AL He Co ++ EE).set (8 + (3 * c + 2)) (nA c, .inl (cZ, 7, .inl (iA (va_up (f_row Co c) h z)))) = wH ha cA hA nA ed cI cJ cZ td pr up dn dv rw sd mc n mo sh co Ca Cz K St Ex Am Bi As BL AL He (va_up Co (7 * c + h) z) ++ EE :=
  wH_set (g' := f_ct cA hA nA cI cZ K St Ex Am Bi As BL AL He (va_up Co (7 * c + h) z)) (by omega) hc (fun d hd => by simp only [f_ct, f_row_ne hh hd]) (by rw [f_row_up hh]; rfl) rfl
end HWL
/-! what the class's calls ask of the launch -/
def nw_is : Cond → Bool
  | .fieldLinkNest .. => true
  | .methodLinkNest .. => true
  | _ => false
def nw_L : List Cond := lw_tbl.filter nw_is
theorem nw_in {w : Cond} (i : Nat) (h : lw_tbl[i]? = some w) (g : nw_is w = true) : w ∈ nw_L := List.mem_filter.mpr ⟨List.mem_of_getElem? h, g⟩
theorem nw_on {w : Cond} (h : nw_is w = true) : w.onTables = true := by
  cases w <;> first | rfl | cases h
theorem nw_warm {w : Cond} (g : nw_is w = true) {s U : State} (hW : s.WarmedH U.vm) (h : va_Nw w s) : va_Nw w U := by
  cases w <;> first | exact va_Nw.warmF hW h | exact va_Nw.warmM hW h | cases g
theorem hN_72 : (Jvm.Cond.methodLinkNest "Strikehall" (11 : Nat) ({ cls := "Strikehall$Share", name := "<init>", desc := "()V" } : Jvm.MethodName) "Strikehall") ∈ nw_L := nw_in 72 (by decide +kernel) rfl
theorem hN_79 : (Jvm.Cond.fieldLinkNest "Strikehall" (65 : Nat) "Strikehall$Share" "price" "I" "Strikehall") ∈ nw_L := nw_in 79 (by decide +kernel) rfl
theorem hN_81 : (Jvm.Cond.fieldLinkNest "Strikehall" (55 : Nat) "Strikehall$Share" "up" "I" "Strikehall") ∈ nw_L := nw_in 81 (by decide +kernel) rfl
theorem hN_83 : (Jvm.Cond.fieldLinkNest "Strikehall" (58 : Nat) "Strikehall$Share" "down" "I" "Strikehall") ∈ nw_L := nw_in 83 (by decide +kernel) rfl
theorem hN_85 : (Jvm.Cond.fieldLinkNest "Strikehall" (68 : Nat) "Strikehall$Share" "today" "I" "Strikehall") ∈ nw_L := nw_in 85 (by decide +kernel) rfl
theorem hN_103 : (Jvm.Cond.methodLinkNest "Strikehall" (18 : Nat) ({ cls := "Strikehall$Lottery", name := "<init>", desc := "()V" } : Jvm.MethodName) "Strikehall") ∈ nw_L := nw_in 103 (by decide +kernel) rfl
theorem hN_108 : (Jvm.Cond.fieldLinkNest "Strikehall" (161 : Nat) "Strikehall$Lottery" "state" "J" "Strikehall") ∈ nw_L := nw_in 108 (by decide +kernel) rfl
theorem hN_281 : (Jvm.Cond.methodLinkNest "Strikehall" (168 : Nat) ({ cls := "Strikehall$Contract", name := "lotsAt", desc := "(I)I" } : Jvm.MethodName) "Strikehall") ∈ nw_L := nw_in 281 (by decide +kernel) rfl
theorem hN_286 : (Jvm.Cond.methodLinkNest "Strikehall" (210 : Nat) ({ cls := "Strikehall$Share", name := "markAt", desc := "(LStrikehall$Contract;I)I" } : Jvm.MethodName) "Strikehall") ∈ nw_L := nw_in 286 (by decide +kernel) rfl
theorem hN_302 : (Jvm.Cond.methodLinkNest "Strikehall$Share" (62 : Nat) ({ cls := "Strikehall$Contract", name := "paysAt", desc := "(I)I" } : Jvm.MethodName) "Strikehall") ∈ nw_L := nw_in 302 (by decide +kernel) rfl
theorem hN_319 : (Jvm.Cond.methodLinkNest "Strikehall$Share" (43 : Nat) ({ cls := "Strikehall", name := "power", desc := "(JI)J" } : Jvm.MethodName) "Strikehall") ∈ nw_L := nw_in 319 (by decide +kernel) rfl
theorem hN_322 : (Jvm.Cond.methodLinkNest "Strikehall$Share" (55 : Nat) ({ cls := "Strikehall", name := "thousandTimes", desc := "(JJ)I" } : Jvm.MethodName) "Strikehall") ∈ nw_L := nw_in 322 (by decide +kernel) rfl
theorem hN_345 : (Jvm.Cond.methodLinkNest "Strikehall" (71 : Nat) ({ cls := "Strikehall$Share", name := "dividendOn", desc := "(I)I" } : Jvm.MethodName) "Strikehall") ∈ nw_L := nw_in 345 (by decide +kernel) rfl
theorem hN_346 : (Jvm.Cond.methodLinkNest "Strikehall" (75 : Nat) ({ cls := "Strikehall$Share", name := "tellDividend", desc := "(II)V" } : Jvm.MethodName) "Strikehall") ∈ nw_L := nw_in 346 (by decide +kernel) rfl
theorem hN_375 : (Jvm.Cond.methodLinkNest "Strikehall" (98 : Nat) ({ cls := "Strikehall$Contract", name := "<init>", desc := "(IIIZ)V" } : Jvm.MethodName) "Strikehall") ∈ nw_L := nw_in 375 (by decide +kernel) rfl
theorem hN_380 : (Jvm.Cond.fieldLinkNest "Strikehall" (325 : Nat) "Strikehall$Contract" "kind" "I" "Strikehall") ∈ nw_L := nw_in 380 (by decide +kernel) rfl
theorem hN_382 : (Jvm.Cond.fieldLinkNest "Strikehall" (322 : Nat) "Strikehall$Contract" "strike" "I" "Strikehall") ∈ nw_L := nw_in 382 (by decide +kernel) rfl
theorem hN_384 : (Jvm.Cond.fieldLinkNest "Strikehall$Share" (32 : Nat) "Strikehall$Contract" "expiry" "I" "Strikehall") ∈ nw_L := nw_in 384 (by decide +kernel) rfl
theorem hN_385 : (Jvm.Cond.fieldLinkNest "Strikehall" (177 : Nat) "Strikehall$Contract" "expiry" "I" "Strikehall") ∈ nw_L := nw_in 385 (by decide +kernel) rfl
theorem hN_387 : (Jvm.Cond.fieldLinkNest "Strikehall$Share" (69 : Nat) "Strikehall$Contract" "isAmerican" "Z" "Strikehall") ∈ nw_L := nw_in 387 (by decide +kernel) rfl
theorem hN_388 : (Jvm.Cond.fieldLinkNest "Strikehall" (173 : Nat) "Strikehall$Contract" "isAmerican" "Z" "Strikehall") ∈ nw_L := nw_in 388 (by decide +kernel) rfl
theorem hN_392 : (Jvm.Cond.fieldLinkNest "Strikehall" (222 : Nat) "Strikehall$Contract" "bid" "I" "Strikehall") ∈ nw_L := nw_in 392 (by decide +kernel) rfl
theorem hN_394 : (Jvm.Cond.fieldLinkNest "Strikehall" (225 : Nat) "Strikehall$Contract" "ask" "I" "Strikehall") ∈ nw_L := nw_in 394 (by decide +kernel) rfl
theorem hN_396 : (Jvm.Cond.fieldLinkNest "Strikehall" (228 : Nat) "Strikehall$Contract" "bidLeft" "I" "Strikehall") ∈ nw_L := nw_in 396 (by decide +kernel) rfl
theorem hN_398 : (Jvm.Cond.fieldLinkNest "Strikehall" (231 : Nat) "Strikehall$Contract" "askLeft" "I" "Strikehall") ∈ nw_L := nw_in 398 (by decide +kernel) rfl
theorem hN_506 : (Jvm.Cond.methodLinkNest "Strikehall" (113 : Nat) ({ cls := "Strikehall$Contract", name := "tellQuote", desc := "(III)V" } : Jvm.MethodName) "Strikehall") ∈ nw_L := nw_in 506 (by decide +kernel) rfl
theorem hN_518 : (Jvm.Cond.methodLinkNest "Strikehall" (302 : Nat) ({ cls := "Strikehall$Contract", name := "isQuotedBoth", desc := "()Z" } : Jvm.MethodName) "Strikehall") ∈ nw_L := nw_in 518 (by decide +kernel) rfl
theorem hN_579 : (Jvm.Cond.methodLinkNest "Strikehall" (267 : Nat) ({ cls := "Strikehall$Contract", name := "addLots", desc := "(II)V" } : Jvm.MethodName) "Strikehall") ∈ nw_L := nw_in 579 (by decide +kernel) rfl
theorem hN_591 : (Jvm.Cond.methodLinkNest "Strikehall" (146 : Nat) ({ cls := "Strikehall$Contract", name := "endQuoteUsedUp", desc := "()V" } : Jvm.MethodName) "Strikehall") ∈ nw_L := nw_in 591 (by decide +kernel) rfl
theorem hN_641 : (Jvm.Cond.methodLinkNest "Strikehall" (186 : Nat) ({ cls := "Strikehall$Contract", name := "paysAt", desc := "(I)I" } : Jvm.MethodName) "Strikehall") ∈ nw_L := nw_in 641 (by decide +kernel) rfl
theorem hN_642 : (Jvm.Cond.methodLinkNest "Strikehall" (270 : Nat) ({ cls := "Strikehall$Contract", name := "owed", desc := "()I" } : Jvm.MethodName) "Strikehall") ∈ nw_L := nw_in 642 (by decide +kernel) rfl
theorem hN_646 : (Jvm.Cond.methodLinkNest "Strikehall" (273 : Nat) ({ cls := "Strikehall$Lottery", name := "drawOf", desc := "(I)I" } : Jvm.MethodName) "Strikehall") ∈ nw_L := nw_in 646 (by decide +kernel) rfl
theorem hN_654 : (Jvm.Cond.methodLinkNest "Strikehall" (276 : Nat) ({ cls := "Strikehall$Contract", name := "owerOf", desc := "(I)I" } : Jvm.MethodName) "Strikehall") ∈ nw_L := nw_in 654 (by decide +kernel) rfl
theorem hN_665 : (Jvm.Cond.methodLinkNest "Strikehall" (189 : Nat) ({ cls := "Strikehall$Contract", name := "setNotice", desc := "(IZ)Z" } : Jvm.MethodName) "Strikehall") ∈ nw_L := nw_in 665 (by decide +kernel) rfl
theorem hN_681 : (Jvm.Cond.methodLinkNest "Strikehall" (279 : Nat) ({ cls := "Strikehall$Contract", name := "hasNotice", desc := "(I)Z" } : Jvm.MethodName) "Strikehall") ∈ nw_L := nw_in 681 (by decide +kernel) rfl
theorem hN_685 : (Jvm.Cond.methodLinkNest "Strikehall" (283 : Nat) ({ cls := "Strikehall$Contract", name := "dropLots", desc := "()V" } : Jvm.MethodName) "Strikehall") ∈ nw_L := nw_in 685 (by decide +kernel) rfl
theorem hN_689 : (Jvm.Cond.methodLinkNest "Strikehall" (127 : Nat) ({ cls := "Strikehall$Contract", name := "takeQuoteAway", desc := "()V" } : Jvm.MethodName) "Strikehall") ∈ nw_L := nw_in 689 (by decide +kernel) rfl
theorem hN_759 : (Jvm.Cond.methodLinkNest "Strikehall" (198 : Nat) ({ cls := "Strikehall$Share", name := "numberAt", desc := "(LStrikehall$Contract;I)J" } : Jvm.MethodName) "Strikehall") ∈ nw_L := nw_in 759 (by decide +kernel) rfl
theorem hN_760 : (Jvm.Cond.methodLinkNest "Strikehall" (202 : Nat) ({ cls := "Strikehall$Share", name := "belowOf", desc := "(LStrikehall$Contract;)J" } : Jvm.MethodName) "Strikehall") ∈ nw_L := nw_in 760 (by decide +kernel) rfl
def EVx (A : Nat → Prop) (U : State) (H : Heap) : Prop := True
def EVh (A : Nat → Prop) (U : State) (H : Heap) : Prop := (∀ w ∈ nw_L, va_Nw w U) ∧ EVx A U H
theorem hEVx : jj_EV EVx := ⟨fun _ _ _ _ _ _ => trivial, fun _ _ _ _ _ _ => trivial, fun _ _ _ _ _ _ => trivial, fun _ _ _ _ _ _ => trivial⟩
theorem hEVh : jj_EV EVh := ⟨fun A U H H1 h hq => ⟨h.1, hEVx.1 A U H H1 h.2 hq⟩, fun A B U H h hq => ⟨h.1, hEVx.2.1 A B U H h.2 hq⟩, fun A s U H hW h => ⟨fun w hw => nw_warm (List.mem_filter.mp hw).2 hW (h.1 w hw), hEVx.2.2.1 A s U H hW h.2⟩, fun A u U H hv h => ⟨fun w hw => va_Nw.same (nw_on (List.mem_filter.mp hw).2) hv (h.1 w hw), hEVx.2.2.2 A u U H hv h.2⟩⟩
