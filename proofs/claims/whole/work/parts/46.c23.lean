section CC23
variable {p : Program} {l : Launch} {e : Env} {R : Room} {s : State} {m : MethodId} {args : Array Value} {below : List Frame} {meth : Method} {c : Code} {D : va_G} {cl : List vw_C} {A : Nat → Prop} {nL cells slots : Nat} {Q : State → Prop} {cc : ByteArray} {pc : Nat} {rest : List Value} {lv : List (Nat × Value)} {ws X E : va_W} {own : String} {Ts : List Cond} {tys : List (ClassId × FieldType)} {EV : (Nat → Prop) → State → Heap → Prop} {HH MM GG : va_W} {x9 : Nat × va_E} {st : List Value}
theorem jj_toM (kk : jj_W p l e R s m args below meth c D cl A nL cells slots Q (pc) (lv) (st) (MM ++ (HH ++ (x9 :: GG)))) : jj_W p l e R s m args below meth c D cl A nL cells slots Q (pc) (lv) (st) (HH ++ (x9 :: (GG ++ MM))) := by
  refine jj_perm ?_ kk
  have e : HH ++ (x9 :: (GG ++ MM)) = (HH ++ (x9 :: GG)) ++ MM := by simp
  rw [e]
  exact List.perm_append_comm
theorem jj_toH (kk : jj_W p l e R s m args below meth c D cl A nL cells slots Q (pc) (lv) (st) (HH ++ (x9 :: (GG ++ MM)))) : jj_W p l e R s m args below meth c D cl A nL cells slots Q (pc) (lv) (st) (MM ++ (HH ++ (x9 :: GG))) := by
  refine jj_perm ?_ kk
  have e : HH ++ (x9 :: (GG ++ MM)) = (HH ++ (x9 :: GG)) ++ MM := by simp
  rw [e]
  exact List.perm_append_comm
theorem jj_lcmpS (C0 : jj_C p s m args meth c D cl A nL cc own Ts tys EV) {a off : Int} {tgt : Nat} (hdg : decode cc pc = .ok (.lcmp, 1)) (hdg2 : decode cc (pc + 1) = .ok (.ifCond .eq off, 3)) (ht : ((pc + 1 : Nat) : Int) + off = (tgt : Int)) (kk : jj_W p l e R s m args below meth c D cl A nL cells slots Q (tgt) (lv) (rest) (ws)) : jj_W p l e R s m args below meth c D cl A nL cells slots Q (pc) (lv) (.long (lI a) :: .long (lI a) :: rest) (ws) :=
  fun H locs ls hP hD hS hl => W.lcmp C0.1 C0.2.1 hdg (lv_if_eq C0.1 C0.2.1 hdg2 ht (fun h => kk H locs ls hP hD hS hl) (fun h => by rw [lg_cmp_eq] at h; exact absurd rfl h))
theorem jj_icmpS (C0 : jj_C p s m args meth c D cl A nL cc own Ts tys EV) {a off : Int} {tgt : Nat} (hdg : decode cc pc = .ok (.if_icmp .eq off, 3)) (ht : (pc : Int) + off = (tgt : Int)) (kk : jj_W p l e R s m args below meth c D cl A nL cells slots Q (tgt) (lv) (rest) (ws)) : jj_W p l e R s m args below meth c D cl A nL cells slots Q (pc) (lv) (.int (iI a) :: .int (iI a) :: rest) (ws) :=
  fun H locs ls hP hD hS hl => lv_icmp_eq C0.1 C0.2.1 hdg ht (fun h => kk H locs ls hP hD hS hl) (fun h => absurd rfl h)
theorem jj_bool (C0 : jj_C p s m args meth c D cl A nL cc own Ts tys EV) {a v : Int} (ha : iR a) (hv : (a ≠ 0 ∧ v = 1) ∨ (a = 0 ∧ v = 0)) (d0 : decode cc pc = .ok (.ifCond .eq 7, 3)) (d1 : decode cc (pc + 3) = .ok (.iconst 1, 1)) (d2 : decode cc (pc + 4) = .ok (.goto 4, 3)) (d3 : decode cc (pc + 7) = .ok (.iconst 0, 1)) (kk : jj_W p l e R s m args below meth c D cl A nL cells slots Q (pc + 8) (lv) (.int (iI v) :: rest) (ws)) : jj_W p l e R s m args below meth c D cl A nL cells slots Q (pc) (lv) (.int (iI a) :: rest) (ws) := by
  refine jj_if_eq C0 (tgt := pc + 7) ha d0 (by omega) (fun h => ?_) (fun h => ?_)
  · obtain rfl : v = 0 := by omega
    exact jj_iconst C0 d3 kk
  · obtain rfl : v = 1 := by omega
    exact jj_iconst C0 d1 (jj_goto C0 (tgt := pc + 8) d2 (by omega) kk)
theorem jj_lbool (C0 : jj_C p s m args meth c D cl A nL cc own Ts tys EV) {v : Int} (hv : v = 0 ∨ v = 1) (d0 : decode cc pc = .ok (.ifCond .eq 7, 3)) (d1 : decode cc (pc + 3) = .ok (.lconst 1, 1)) (d2 : decode cc (pc + 4) = .ok (.goto 4, 3)) (d3 : decode cc (pc + 7) = .ok (.lconst 0, 1)) (kk : jj_W p l e R s m args below meth c D cl A nL cells slots Q (pc + 8) (lv) (.long (lI v) :: rest) (ws)) : jj_W p l e R s m args below meth c D cl A nL cells slots Q (pc) (lv) (.int (iI v) :: rest) (ws) := by
  refine jj_if_eq C0 (tgt := pc + 7) (by omega) d0 (by omega) (fun h => ?_) (fun h => ?_)
  · obtain rfl : v = 0 := by omega
    exact jj_lconst C0 (z := 0) (by decide) d3 kk
  · obtain rfl : v = 1 := by omega
    exact jj_lconst C0 (z := 1) (by decide) d1 (jj_goto C0 (tgt := pc + 8) d2 (by omega) kk)
theorem jj_cs {cells' slots' : Nat} {st : List Value} (h1 : cells = cells') (h2 : slots = slots') (kk : jj_W p l e R s m args below meth c D cl A nL cells' slots' Q pc lv st ws) : jj_W p l e R s m args below meth c D cl A nL cells slots Q pc lv st ws := by
  subst h1 h2
  exact kk
theorem lw_gW {own : String} {idx : Nat} {y : MethodName} {w : Cond} (h1 : Cond.methodLink own idx y ∈ lw_U) (h2 : Cond.static y ∈ lw_U) (h4 : Cond.initialized y.cls ∈ lw_U) (h5 : w ∈ lw_U) : GoodIn lw_U (va_wsS own idx y (w :: lw_U)) := lw_gc h1 (lw_gc h2 (lw_gc h4 (lw_gc h5 lw_UU)))
end CC23
section CC23b
/-- what is left to do behind a call -/
def f_KK (p : Program) (l : Launch) (e : Env) (s : State) (m : MethodId) (args : Array Value) (below : List Frame) (meth : Method) (c9 : Code) (dC : Nat → ClassId) (dI : Nat → Nat → Nat) (A : Nat → Prop) (Q : State → Prop) (ha ad : Nat → Nat) (cI cJ cZ cO : ClassId) (o es b i k cells0 slots0 : Nat) : Prop := ∀ (cA hA nA : Nat → Nat) (ed : Nat) (rw F : Nat → Int) (mc : Int) (GG : va_W) (th be : Int) (Ab : Nat → Int) (td : Nat) (pr up dn : Int) (dv : Nat → Int) (sd : Int) (n : Nat) (mo sh co : Int) (Ca Cz K St Ex Am Ov Bi As Bj Aj BL AL He Co : Nat → Int) (cells slots : Nat), f_IV (k + 1) td n pr up dn dv sd mo sh Ca K St Ex Am Ov Bi As Bj Aj BL AL He Co → f_LG cO es n ed cA GG → cells ≤ cells0 + 8 → slots ≤ slots0 + 80 → jj_W p l e room_1 s m args below meth c9 (dC, dI) vwCl A 8 cells slots Q 1530 [(4, .int (iI (i : Int))), (3, .ref o), (2, .ref (ad 0)), (1, .ref (ha 0)), (0, .ref b)] [] (wH ha cA hA nA ed cI cJ cZ td pr up dn dv rw sd mc n mo sh co Ca Cz K St Ex Am Bi As BL AL He Co ++ ((o, .inl (cJ, 1, .inr (.inl (lA F)))) :: (GG ++ wM ad cI cJ cZ th td pr up dn dv n K St Ex Am Ov Bj Aj BL AL He Co Ca mo sh co sd Cz Ab be)))
/-- what is known at a call -/
def f_CC (p : Program) (l : Launch) (s : State) (m : MethodId) (args : Array Value) (meth : Method) (c9 : Code) (dC : Nat → ClassId) (dI : Nat → Nat → Nat) (A : Nat → Prop) (cI cJ cZ cO : ClassId) (es mi : Nat) (sa : Nat → Nat) (b L : Nat) (xs : Nat → Int32) : Prop := jj_C p s m args meth c9 (dC, dI) vwCl A 8 cL_law "StrikehallLaw" lw_U [(cI, .int), (cJ, .long), (cZ, .boolean), (cO, .object "java/lang/Object")] (EVW es mi sa) ∧ l.stackTraces = false ∧ va_X b L xs s s.heap ∧ b < s.heap.size ∧ ¬ A b ∧ L ≤ 2560
end CC23b
