section JJ3
variable {p : Program} {l : Launch} {e : Env} {R : Room} {s : State} {m : MethodId} {args : Array Value} {below : List Frame} {meth : Method} {c : Code} {D : va_G} {cl : List vw_C} {A : Nat → Prop} {nL cells slots : Nat} {Q : State → Prop} {cc : ByteArray} {pc : Nat} {rest : List Value} {lv : List (Nat × Value)} {ws X E : va_W} {own : String} {Ts : List Cond} {tys : List (ClassId × FieldType)} {EV : (Nat → Prop) → State → Heap → Prop}
theorem jj_objInit (C0 : jj_C p s m args meth c D cl A nL cc own Ts tys EV) {idx a : Nat} (hlink : (Cond.methodLink own idx Lib.objectInit).before args s = true) (hinst : (Cond.instanceMethod Lib.objectInit).before args s = true) (hcode : (Cond.code Lib.objectInit ⟨#[0xb1]⟩ 1 none).before args s = true) (hroom : (rest.map fun v => v.category).sum ≤ 8) (hf : 1 ≤ R.frames ∧ 20 ≤ R.locals) (hdg : decode cc pc = .ok (.invokespecial idx, 3)) (kk : jj_W p l e R s m args below meth c D cl A nL (cells) (slots) Q (pc + 3) (lv) (rest) (ws)) : jj_W p l e R s m args below meth c D cl A nL (cells) (slots) Q (pc) (lv) (.ref a :: rest) (ws) :=
  fun H locs ls hP hD hS hl => W.objInit C0.1 C0.2.1 C0.2.2.2.1 hlink hinst hcode rfl (hl.1.trans C0.2.2.1.symm) rfl hdg hf.1 (by
    show 2 * 0 + _ + 12 ≤ _
    omega) (kk H locs ls hP hD hS hl)
theorem iI_clamp {n : Int} {N : Nat} (hN : (N : Int) = n) (hNb : N ≤ 100000) : ¬ iI n < 0 ∧ (iI n).toNatClampNeg = N := by
  refine ⟨fun q => ?_, iI_nat hN (by omega)⟩
  rw [iI_lt0 ⟨by omega, by omega⟩] at q
  omega
theorem jj_newI (C0 : jj_C p s m args meth c D cl A nL cc own Ts tys EV) {n : Int} {N t0 : Nat} {cA : ClassId} (hN : (N : Int) = n) (hNb : N ≤ 100000) (ht : tys[t0]? = some (cA, .int)) (harr : (Cond.arrayClass .int).before args s = true) (hc : cells + 1 ≤ R.cells) (hs : slots + N ≤ R.slots) (hdg : decode cc pc = .ok (.newarray .int, 2)) (kk : ∀ q : Nat, jj_W p l e R s m args below meth c D cl A nL (cells + 1) (slots + N) Q (pc + 2) (lv) (.ref q :: rest) ((X ++ [(q, .inl (cA, N, .inl (iA fun _ => 0)))]) ++ E)) : jj_W p l e R s m args below meth c D cl A nL (cells) (slots) Q (pc) (lv) (.int (iI n) :: rest) (X ++ E) :=
  fun H locs ls hP hD hS hl => va_newa (atype := .int) (ty := .int) (a0 := (N, .inl (iA fun _ => 0))) C0.1 C0.2.1 harr rfl C0.2.2.2.2.2.1 hP hD hS C0.2.2.2.2.2.2.1 (fun cA => rfl) (iI_clamp hN hNb).1 (iI_clamp hN hNb).2 (by show N * 4 ≤ _; omega) hc hs hdg (fun q cA' H1 hK1 hP1 hD1 hS1 => by
    have e1 := (hK1.2 tys.length (cA', .int) (by simp)).2
    have e2 := (C0.2.2.2.2.2.1.2 t0 _ ht).2
    have e3 : cA' = cA := Option.some.inj (e1.symm.trans e2)
    rw [e3] at hP1 hD1
    exact kk q H1 locs ls hP1.swap hD1.swap hS1 hl)
theorem jj_newZ (C0 : jj_C p s m args meth c D cl A nL cc own Ts tys EV) {n : Int} {N t0 : Nat} {cA : ClassId} (hN : (N : Int) = n) (hNb : N ≤ 100000) (ht : tys[t0]? = some (cA, .boolean)) (harr : (Cond.arrayClass .boolean).before args s = true) (hc : cells + 1 ≤ R.cells) (hs : slots + N ≤ R.slots) (hdg : decode cc pc = .ok (.newarray .boolean, 2)) (kk : ∀ q : Nat, jj_W p l e R s m args below meth c D cl A nL (cells + 1) (slots + N) Q (pc + 2) (lv) (.ref q :: rest) ((X ++ [(q, .inl (cA, N, .inl (iA fun _ => 0)))]) ++ E)) : jj_W p l e R s m args below meth c D cl A nL (cells) (slots) Q (pc) (lv) (.int (iI n) :: rest) (X ++ E) :=
  fun H locs ls hP hD hS hl => va_newa (atype := .boolean) (ty := .boolean) (a0 := (N, .inl (iA fun _ => 0))) C0.1 C0.2.1 harr rfl C0.2.2.2.2.2.1 hP hD hS C0.2.2.2.2.2.2.1 (fun cA => rfl) (iI_clamp hN hNb).1 (iI_clamp hN hNb).2 (by show N * 1 ≤ _; omega) hc hs hdg (fun q cA' H1 hK1 hP1 hD1 hS1 => by
    have e1 := (hK1.2 tys.length (cA', .boolean) (by simp)).2
    have e2 := (C0.2.2.2.2.2.1.2 t0 _ ht).2
    have e3 : cA' = cA := Option.some.inj (e1.symm.trans e2)
    rw [e3] at hP1 hD1
    exact kk q H1 locs ls hP1.swap hD1.swap hS1 hl)
theorem jj_newJ (C0 : jj_C p s m args meth c D cl A nL cc own Ts tys EV) {n : Int} {N t0 : Nat} {cA : ClassId} (hN : (N : Int) = n) (hNb : N ≤ 100000) (ht : tys[t0]? = some (cA, .long)) (harr : (Cond.arrayClass .long).before args s = true) (hc : cells + 1 ≤ R.cells) (hs : slots + N ≤ R.slots) (hdg : decode cc pc = .ok (.newarray .long, 2)) (kk : ∀ q : Nat, jj_W p l e R s m args below meth c D cl A nL (cells + 1) (slots + N) Q (pc + 2) (lv) (.ref q :: rest) ((X ++ [(q, .inl (cA, N, .inr (.inl (lA fun _ => 0))))]) ++ E)) : jj_W p l e R s m args below meth c D cl A nL (cells) (slots) Q (pc) (lv) (.int (iI n) :: rest) (X ++ E) :=
  fun H locs ls hP hD hS hl => va_newa (atype := .long) (ty := .long) (a0 := (N, .inr (.inl (lA fun _ => 0)))) C0.1 C0.2.1 harr rfl C0.2.2.2.2.2.1 hP hD hS C0.2.2.2.2.2.2.1 (fun cA => rfl) (iI_clamp hN hNb).1 (iI_clamp hN hNb).2 (by show N * 8 ≤ _; omega) hc hs hdg (fun q cA' H1 hK1 hP1 hD1 hS1 => by
    have e1 := (hK1.2 tys.length (cA', .long) (by simp)).2
    have e2 := (C0.2.2.2.2.2.1.2 t0 _ ht).2
    have e3 : cA' = cA := Option.some.inj (e1.symm.trans e2)
    rw [e3] at hP1 hD1
    exact kk q H1 locs ls hP1.swap hD1.swap hS1 hl)
theorem jj_new (C0 : jj_C p s m args meth c D cl A nL cc own Ts tys EV) {C : String} {T : u_T} {N ci index : Nat} (hin : ∀ w ∈ u_ws C T N, w ∈ Ts) (ty : Nat → FieldType) (hty : ∀ k, k < N → parseFieldDescriptor (T k).2.2.1 = some (ty k)) (hcl : (Cond.classLink own index C).before args s = true) (hinst : (Cond.instantiable C N).before args s = true) (hini : (Cond.initialized C).before args s = true) (hc : cl[ci]? = some (C, T, N)) {fs : List Value} (hfs : ∀ j, j < N → defaultValue (ty j) = vp_V fs j) (hcc : cells + 1 ≤ R.cells) (hs : slots + N ≤ R.slots) (hdg : decode cc pc = .ok (.new index, 3)) (kk : ∀ q : Nat, jj_W p l e R s m args below meth c D cl A nL (cells + 1) (slots + N) Q (pc + 3) (lv) (.ref q :: rest) ((X ++ [(q, .inr (ci, fs))]) ++ E)) : jj_W p l e R s m args below meth c D cl A nL (cells) (slots) Q (pc) (lv) (rest) (X ++ E) :=
  fun H locs ls hP hD hS hl => va_new C0.1 C0.2.1 C0.2.2.2.2.1 hin ty hty C0.2.2.2.1 hcl hinst hini C0.2.2.2.2.2.1 hP hD hS C0.2.2.2.2.2.2.1 hc hfs hcc hs hdg (fun q H1 hP1 hD1 hS1 => kk q H1 locs ls hP1.swap hD1.swap hS1 hl)
theorem jj_part {st : List Value} {Y : va_W} (is : List Nat) (hn : va_nd is = true) (hs : is.map (fun i => X[i]?) = Y.map some) (kk : jj_W p l e R s m args below meth c D cl A nL (cells) (slots) Q (pc) (lv) (st) (Y ++ E)) : jj_W p l e R s m args below meth c D cl A nL (cells) (slots) Q (pc) (lv) (st) (X ++ E) :=
  fun H locs ls hP hD hS hl => kk H locs ls (hP.part is hs) (hD.part is hn hs) hS hl
theorem jj_by {st : List Value} {ws' : va_W} (g : Nat → Nat) (hg : ∀ (k : Nat) (q : Nat × va_E), ws'[k]? = some q → ws[g k]? = some q) (hi : ∀ i j : Nat, i < ws'.length → j < ws'.length → g i = g j → i = j) (kk : jj_W p l e R s m args below meth c D cl A nL (cells) (slots) Q (pc) (lv) (st) (ws')) : jj_W p l e R s m args below meth c D cl A nL (cells) (slots) Q (pc) (lv) (st) (ws) :=
  fun H locs ls hP hD hS hl => kk H locs ls (hP.by g hg) (hD.by g hg hi) hS hl
theorem jj_callI (C0 : jj_C p s m args meth c D cl A nL cc own Ts tys EV) {y : MethodName} {bytes : ByteArray} {maxL n index cells' slots' : Nat} {wsl : List Cond} {rm : Room} {As st : List Value} {S : Type} {post : S → Prop} {ws' : S → va_W} {b : Nat} (hM : jj_Mv EV D cl tys l y wsl rm (.ref b :: As) ws post ws') (cw : CallB R s args own index y bytes maxL none wsl rm rm.cells rm.slots n ∧ y.name = "<init>" ∧ (Cond.instanceMethod y).before args s = true) (hst : st = As.reverse ++ .ref b :: rest) (hn : As.length = n) (hroom : (rest.map fun v => v.category).sum ≤ 8) (hf : cells + rm.cells ≤ R.cells ∧ slots + rm.slots ≤ R.slots) (hcs1 : cells + rm.cells = cells') (hcs2 : slots + rm.slots = slots') (hdg : decode cc pc = .ok (.invokespecial index, 3)) (kk : ∀ u : S, post u → jj_W p l e R s m args below meth c D cl A nL (cells') (slots') Q (pc + 3) (lv) (rest) (ws' u)) : jj_W p l e R s m args below meth c D cl A nL (cells) (slots) Q (pc) (lv) (st) (ws) := by
  intro H locs ls hP hD hS hl
  obtain ⟨hF, hB0⟩ := jj_pre C0 hP hD hS
  exact va_callv (va_runI (As := As) (rest := rest) ⟨C0.1, C0.2.1, C0.2.2.1, C0.2.2.2.1, C0.2.2.2.2.1⟩ (hM H.size) cw ⟨jj_blind _ C0.2.2.2.2.2.2.2.2.1, fun U hU hW => ⟨rfl, hB0 U hU hW⟩⟩ rfl hn hl.1 hst (lv_room hroom) hdg hf) hS (fun q _ h => hF q h) hF (fun u t H1 locs1 ht hvm hp hB hz hk hS1 => by
    obtain ⟨hP1, hK1, hD1⟩ := hB
    rw [ht] at hP1
    subst hcs1 hcs2
    exact kk u hp H1 locs1 ls hP1 (hD1.weaken (fun k q _ h => hF q.1 h)) hS1 hl)
theorem jj_callIN (C0 : jj_C p s m args meth c D cl A nL cc own Ts tys EV) {y : MethodName} {bytes : ByteArray} {maxL n index cells' slots' : Nat} {wsl : List Cond} {rm : Room} {As st : List Value} {S : Type} {post : S → Prop} {ws' : S → va_W} {b : Nat} {host : String} (hM : jj_Mv EV D cl tys l y wsl rm (.ref b :: As) ws post ws') (cw : va_CN R s args own index y host bytes maxL none wsl rm rm.cells rm.slots n ∧ y.name = "<init>" ∧ (Cond.instanceMethod y).before args s = true) (hst : st = As.reverse ++ .ref b :: rest) (hn : As.length = n) (hroom : (rest.map fun v => v.category).sum ≤ 8) (hf : cells + rm.cells ≤ R.cells ∧ slots + rm.slots ≤ R.slots) (hcs1 : cells + rm.cells = cells') (hcs2 : slots + rm.slots = slots') (hdg : decode cc pc = .ok (.invokespecial index, 3)) (kk : ∀ u : S, post u → jj_W p l e R s m args below meth c D cl A nL (cells') (slots') Q (pc + 3) (lv) (rest) (ws' u)) : jj_W p l e R s m args below meth c D cl A nL (cells) (slots) Q (pc) (lv) (st) (ws) := by
  intro H locs ls hP hD hS hl
  obtain ⟨hF, hB0⟩ := jj_pre C0 hP hD hS
  exact va_callv (va_runIN (As := As) (rest := rest) ⟨C0.1, C0.2.1, C0.2.2.1, C0.2.2.2.1, C0.2.2.2.2.1⟩ (hM H.size) cw ⟨jj_blind _ C0.2.2.2.2.2.2.2.2.1, fun U hU hW => ⟨rfl, hB0 U hU hW⟩⟩ rfl hn hl.1 hst (lv_room hroom) hdg hf) hS (fun q _ h => hF q h) hF (fun u t H1 locs1 ht hvm hp hB hz hk hS1 => by
    obtain ⟨hP1, hK1, hD1⟩ := hB
    rw [ht] at hP1
    subst hcs1 hcs2
    exact kk u hp H1 locs1 ls hP1 (hD1.weaken (fun k q _ h => hF q.1 h)) hS1 hl)
def ad_of (L : List Nat) : Nat → Nat := fun k => (L[k]?).getD 0
end JJ3
