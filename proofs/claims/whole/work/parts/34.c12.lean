section CC12a
variable {p : Program} {l : Launch} {e : Env} {R : Room} {s : State} {m : MethodId} {args : Array Value} {below : List Frame} {meth : Method} {c : Code} {D : va_G} {cl : List vw_C} {A : Nat → Prop} {nL cells slots : Nat} {Q : State → Prop} {cc : ByteArray} {pc : Nat} {rest : List Value} {lv : List (Nat × Value)} {ws E : va_W} {X : String} {own : String} {Ts : List Cond} {tys : List (ClassId × FieldType)} {EV : (Nat → Prop) → State → Heap → Prop}
def wx_N : List Cond := [.declares ⟨"java/lang/RuntimeException", "<init>", "(Ljava/lang/String;)V"⟩, .declares ⟨"java/lang/Exception", "<init>", "(Ljava/lang/String;)V"⟩, .declares ⟨"java/lang/Throwable", "<init>", "(Ljava/lang/String;)V"⟩, .castable "java/lang/IllegalArgumentException" "java/lang/IllegalArgumentException", .castable "java/lang/IllegalStateException" "java/lang/IllegalStateException", .castable "java/lang/IndexOutOfBoundsException" "java/lang/IndexOutOfBoundsException"]
theorem wx_on : ∀ w ∈ wx_N, w.onTables = true := by decide +kernel
theorem wx_warm {w : Cond} (hw : w ∈ wx_N) {s U : State} (hW : s.WarmedH U.vm) (h : va_Nw w s) : va_Nw w U := by
  simp only [wx_N, List.mem_cons, List.not_mem_nil, or_false] at hw
  rcases hw with rfl | rfl | rfl | rfl | rfl | rfl
  · exact va_Nw.warmD hW h
  · exact va_Nw.warmD hW h
  · exact va_Nw.warmD hW h
  · exact va_Nw.warmC hW h
  · exact va_Nw.warmC hW h
  · exact va_Nw.warmC hW h
def wx_A : List Cond := vx_atS "Strikehall" 138 "java/lang/IllegalArgumentException" ["java/lang/RuntimeException", "java/lang/Exception"]
theorem wx_A_n : wx_A.filter (fun w => !goodWord w) = [.declares ⟨"java/lang/RuntimeException", "<init>", "(Ljava/lang/String;)V"⟩, .declares ⟨"java/lang/Exception", "<init>", "(Ljava/lang/String;)V"⟩, .declares ⟨"java/lang/Throwable", "<init>", "(Ljava/lang/String;)V"⟩, .castable "java/lang/IllegalArgumentException" "java/lang/IllegalArgumentException"] := by decide +kernel
theorem wx_A_s : ∀ w ∈ ([.declares ⟨"java/lang/RuntimeException", "<init>", "(Ljava/lang/String;)V"⟩, .declares ⟨"java/lang/Exception", "<init>", "(Ljava/lang/String;)V"⟩, .declares ⟨"java/lang/Throwable", "<init>", "(Ljava/lang/String;)V"⟩, .castable "java/lang/IllegalArgumentException" "java/lang/IllegalArgumentException"] : List Cond), w ∈ wx_N := by decide +kernel
theorem wx_A_g : ((wx_A.filter goodWord).all fun w => decide (w ∈ lw_tbl)) = true := by decide +kernel
theorem wx_A_o : ∀ w ∈ Cond.classLink "Strikehall" 134 "java/lang/IllegalArgumentException" :: Cond.initialized "java/lang/IllegalArgumentException" :: wx_A, vx_ot w = true := by decide +kernel
theorem wx_A_hat {args : Array Value} {s : State} (hw : ∀ w ∈ lw_U, w.before args s = true) (hc : ∀ w ∈ wx_N, va_Nw w s) : ∀ w ∈ wx_A, w.before args s = true := by
  refine vx_hat (B := [.declares ⟨"java/lang/RuntimeException", "<init>", "(Ljava/lang/String;)V"⟩, .declares ⟨"java/lang/Exception", "<init>", "(Ljava/lang/String;)V"⟩, .declares ⟨"java/lang/Throwable", "<init>", "(Ljava/lang/String;)V"⟩, .castable "java/lang/IllegalArgumentException" "java/lang/IllegalArgumentException"]) (fun w h => ?_) (fun w h => by rw [wx_A_n] at h; exact h) (fun w h => va_Nw.use (wx_on w (wx_A_s w h)) (hc w (wx_A_s w h)))
  have h1 := List.all_eq_true.mp wx_A_g w h
  exact hw w (List.mem_filter.mpr ⟨of_decide_eq_true h1, (List.mem_filter.mp h).2⟩)
def wx_S : List Cond := vx_atS "Strikehall" 93 "java/lang/IllegalStateException" ["java/lang/RuntimeException", "java/lang/Exception"]
theorem wx_S_n : wx_S.filter (fun w => !goodWord w) = [.declares ⟨"java/lang/RuntimeException", "<init>", "(Ljava/lang/String;)V"⟩, .declares ⟨"java/lang/Exception", "<init>", "(Ljava/lang/String;)V"⟩, .declares ⟨"java/lang/Throwable", "<init>", "(Ljava/lang/String;)V"⟩, .castable "java/lang/IllegalStateException" "java/lang/IllegalStateException"] := by decide +kernel
theorem wx_S_s : ∀ w ∈ ([.declares ⟨"java/lang/RuntimeException", "<init>", "(Ljava/lang/String;)V"⟩, .declares ⟨"java/lang/Exception", "<init>", "(Ljava/lang/String;)V"⟩, .declares ⟨"java/lang/Throwable", "<init>", "(Ljava/lang/String;)V"⟩, .castable "java/lang/IllegalStateException" "java/lang/IllegalStateException"] : List Cond), w ∈ wx_N := by decide +kernel
theorem wx_S_g : ((wx_S.filter goodWord).all fun w => decide (w ∈ lw_tbl)) = true := by decide +kernel
theorem wx_S_o : ∀ w ∈ Cond.classLink "Strikehall" 89 "java/lang/IllegalStateException" :: Cond.initialized "java/lang/IllegalStateException" :: wx_S, vx_ot w = true := by decide +kernel
theorem wx_S_hat {args : Array Value} {s : State} (hw : ∀ w ∈ lw_U, w.before args s = true) (hc : ∀ w ∈ wx_N, va_Nw w s) : ∀ w ∈ wx_S, w.before args s = true := by
  refine vx_hat (B := [.declares ⟨"java/lang/RuntimeException", "<init>", "(Ljava/lang/String;)V"⟩, .declares ⟨"java/lang/Exception", "<init>", "(Ljava/lang/String;)V"⟩, .declares ⟨"java/lang/Throwable", "<init>", "(Ljava/lang/String;)V"⟩, .castable "java/lang/IllegalStateException" "java/lang/IllegalStateException"]) (fun w h => ?_) (fun w h => by rw [wx_S_n] at h; exact h) (fun w h => va_Nw.use (wx_on w (wx_S_s w h)) (hc w (wx_S_s w h)))
  have h1 := List.all_eq_true.mp wx_S_g w h
  exact hw w (List.mem_filter.mpr ⟨of_decide_eq_true h1, (List.mem_filter.mp h).2⟩)
def wx_I : List Cond := vx_atS "Strikehall" 241 "java/lang/IndexOutOfBoundsException" ["java/lang/RuntimeException", "java/lang/Exception"]
theorem wx_I_n : wx_I.filter (fun w => !goodWord w) = [.declares ⟨"java/lang/RuntimeException", "<init>", "(Ljava/lang/String;)V"⟩, .declares ⟨"java/lang/Exception", "<init>", "(Ljava/lang/String;)V"⟩, .declares ⟨"java/lang/Throwable", "<init>", "(Ljava/lang/String;)V"⟩, .castable "java/lang/IndexOutOfBoundsException" "java/lang/IndexOutOfBoundsException"] := by decide +kernel
theorem wx_I_s : ∀ w ∈ ([.declares ⟨"java/lang/RuntimeException", "<init>", "(Ljava/lang/String;)V"⟩, .declares ⟨"java/lang/Exception", "<init>", "(Ljava/lang/String;)V"⟩, .declares ⟨"java/lang/Throwable", "<init>", "(Ljava/lang/String;)V"⟩, .castable "java/lang/IndexOutOfBoundsException" "java/lang/IndexOutOfBoundsException"] : List Cond), w ∈ wx_N := by decide +kernel
theorem wx_I_g : ((wx_I.filter goodWord).all fun w => decide (w ∈ lw_tbl)) = true := by decide +kernel
theorem wx_I_o : ∀ w ∈ Cond.classLink "Strikehall" 237 "java/lang/IndexOutOfBoundsException" :: Cond.initialized "java/lang/IndexOutOfBoundsException" :: wx_I, vx_ot w = true := by decide +kernel
theorem wx_I_hat {args : Array Value} {s : State} (hw : ∀ w ∈ lw_U, w.before args s = true) (hc : ∀ w ∈ wx_N, va_Nw w s) : ∀ w ∈ wx_I, w.before args s = true := by
  refine vx_hat (B := [.declares ⟨"java/lang/RuntimeException", "<init>", "(Ljava/lang/String;)V"⟩, .declares ⟨"java/lang/Exception", "<init>", "(Ljava/lang/String;)V"⟩, .declares ⟨"java/lang/Throwable", "<init>", "(Ljava/lang/String;)V"⟩, .castable "java/lang/IndexOutOfBoundsException" "java/lang/IndexOutOfBoundsException"]) (fun w h => ?_) (fun w h => by rw [wx_I_n] at h; exact h) (fun w h => va_Nw.use (wx_on w (wx_I_s w h)) (hc w (wx_I_s w h)))
  have h1 := List.all_eq_true.mp wx_I_g w h
  exact hw w (List.mem_filter.mpr ⟨of_decide_eq_true h1, (List.mem_filter.mp h).2⟩)
/-- what a throw asks of the launch -/
def wx_strs : List (Nat × String) := [(248, "out of range"), (91, "there are 12 contracts"), (254, "no such contract"), (252, "the contract is over"), (250, "no such customer"), (136, "no lots are ordered"), (156, "the seed is below 0"), (168, "there are fewer lots"), (177, "it may not be exercised today"), (190, "today is the last day"), (231, "no such part of a quote"), (239, "no such cause")]
def EVT (sa : Nat → Nat) (A : Nat → Prop) (U : State) (H : Heap) : Prop := EVh A U H ∧ (∀ q ∈ wx_strs, vk_R "Strikehall" q.1 q.2 (sa q.1) U) ∧ (∀ w ∈ wx_N, va_Nw w U) ∧ vx_Zq Bundle.tN "UNASSIGNED_STACK" Bundle.steD A U H ∧ vx_Zq Bundle.tN "SUPPRESSED_SENTINEL" Bundle.listD A U H
theorem hEVT (sa : Nat → Nat) : jj_EV (EVT sa) := ⟨fun A U H H1 h hq => ⟨hEVh.1 A U H H1 h.1 hq, h.2.1, h.2.2.1, h.2.2.2.1.kept hq, h.2.2.2.2.kept hq⟩, fun A B U H h hq => ⟨hEVh.2.1 A B U H h.1 hq, h.2.1, h.2.2.1, h.2.2.2.1.narrow hq, h.2.2.2.2.narrow hq⟩, fun A s U H hW h => ⟨hEVh.2.2.1 A s U H hW h.1, fun q hq => vk_R.warm hW (h.2.1 q hq), fun w hw => wx_warm hw hW (h.2.2.1 w hw), h.2.2.2.1.moved hW.alike, h.2.2.2.2.moved hW.alike⟩, fun A u U H hv h => ⟨hEVh.2.2.2 A u U H hv h.1, fun q hq => vk_R.same hv.symm (h.2.1 q hq), fun w hw => va_Nw.same (wx_on w hw) hv (h.2.2.1 w hw), h.2.2.2.1.moved (by rw [hv]; exact Vm.Alike.refl U.vm), h.2.2.2.2.moved (by rw [hv]; exact Vm.Alike.refl U.vm)⟩⟩
abbrev jj_XC (D : va_G) (cl : List vw_C) (tys : List (ClassId × FieldType)) (A : Nat → Prop) (ws : va_W) (X : String) : String → State → State → Prop := vx_X (fun _ : Unit => True) (fun (E : String) (_ : Unit) (t : State) => E = X ∧ va_P D cl ws t.heap ∧ va_K D cl tys t ∧ va_D A ws) A
abbrev jj_XQ (A : Nat → Prop) : Array Value → State → Outcome → State → Prop := va_Qv (fun _ : Unit => False) (fun _ _ => True) A
/-- a refused call: it throws X, the world stays -/
abbrev jj_X (EV : (Nat → Prop) → State → Heap → Prop) (D : va_G) (cl : List vw_C) (tys : List (ClassId × FieldType)) (l : Launch) (y : MethodName) (wsl : List Cond) (rm : Room) (as : List Value) (ws : va_W) (X : String) : Prop := ∀ sz : Nat, vx_Met l y wsl rm (va_Pc as (jj_B EV D cl tys ws sz)) (jj_XQ (va_A ws sz)) (jj_XC D cl tys (va_A ws sz) ws X) rm.cells rm.slots (va_A ws sz)
theorem jj_startX {EV : (Nat → Prop) → State → Heap → Prop} {D : va_G} {cl : List vw_C} {tys : List (ClassId × FieldType)} {l : Launch} {y : MethodName} {wsl wsl' : List Cond} {rm : Room} {as : List Value} {ws : va_W} {cc : ByteArray} {nL : Nat} {ret : Option FieldType} {lv : List (Nat × Value)} {X : String} {mc ms : Nat} (hEV : jj_EV EV)
    (hy : plainName y.cls = true) (hw : wsl = Cond.code y cc nL ret :: wsl') (hlen : (lg_sl as).length ≤ nL) (hlv : lv_args 0 as = lv)
    (body : ∀ (p : Program) (e : Env) (s : State) (m : MethodId) (args : Array Value) (below : List Frame) (meth : Method) (c : Code) (A : Nat → Prop), jj_C p s m args meth c D cl A nL cc y.cls wsl tys EV → (∀ x ∈ c.exceptionTable.toList, False) → jj_W p l e rm s m args below meth c D cl A nL 0 0 (vx_MQ below (jj_XQ A) (jj_XC D cl tys A ws X) args s mc ms A) 0 lv [] ws) (sz : Nat) :
    vx_Met l y wsl rm (va_Pc as (jj_B EV D cl tys ws sz)) (jj_XQ (va_A ws sz)) (jj_XC D cl tys (va_A ws sz) ws X) mc ms (va_A ws sz) := by
  refine vx_ofW (cc := cc) (maxL := nL) (ret := ret) hy hw ?_
  intro p e s m args below meth c s₁ B hml ht hv
  obtain ⟨rfl, hsz, hP, hK, hD0, hEv⟩ := hv
  subst hsz
  have hown : s.vm.findClass y.cls = some m.cls := findClass_of_methodNamed B.named
  have hC : jj_C p s m as.toArray meth c D cl (va_A ws s.heap.size) nL cc y.cls wsl tys EV := ⟨B.exec, B.bytes, hml, hown, atoms_spec (ws := wsl) B.pre, hK, fun q h => Or.inr h, hEv, hEV, B.notSynchronized⟩
  have hl := lv_entry as (n := nL) hlen
  rw [lg_entry_eq]
  rw [hlv] at hl
  exact body p e s m as.toArray below meth c (va_A ws s.heap.size) hC ht s.heap [] _ hP hD0.self va_S.rf hl
theorem jj_throwS (C0 : jj_C p s m args meth c D cl A nL cc own Ts tys EV) (hl : l.stackTraces = false) (hx0 : ∀ x ∈ c.exceptionTable.toList, False) {text : String} {names : List String} {ik is ic sa mc ms : Nat} (hcls : Bundle.fit X = true) (hnames : ∀ n ∈ names, Bundle.fit n = true) (hk : (Cond.classLink own ik X).before args s = true) (hini : (Cond.initialized X).before args s = true) (hstr : vk_R own is text sa s) (hat : ∀ w ∈ vx_atS own ic X names, w.before args s = true) (hgood : ∀ w ∈ Cond.classLink own ik X :: Cond.initialized X :: vx_atS own ic X names, vx_ot w = true)
    (hU : vx_Zq Bundle.tN "UNASSIGNED_STACK" Bundle.steD A s s.heap) (hN : vx_Zq Bundle.tN "SUPPRESSED_SENTINEL" Bundle.listD A s s.heap) (d0 : decode cc pc = .ok (.new ik, 3)) (d3 : decode cc (pc + 3) = .ok (.dup, 1)) (d4 : decode cc (pc + 4) = .ok (.ldc is, 2)) (d6 : decode cc (pc + 6) = .ok (.invokespecial ic, 3)) (d9 : decode cc (pc + 9) = .ok (.athrow, 1))
    (hRf : names.length + 3 < R.frames) (hRl : (rest.map fun v => v.category).sum + (13 * (names.length + 1) + 43) ≤ R.locals) (hRc : cells + 1 ≤ R.cells) (hRs : slots + 6 ≤ R.slots) (hc : cells + 1 ≤ mc) (hs : slots + 6 ≤ ms) : jj_W p l e R s m args below meth c D cl A nL cells slots (vx_MQ below (jj_XQ A) (jj_XC D cl tys A ws X) args s mc ms A) pc lv (rest) ws :=
  fun H locs ls hP hD hS hl9 => vx_throwS C0.1 C0.2.1 hl C0.2.2.2.1 hcls hnames hk hini hstr hat hgood hU hN hS (hl9.1.trans C0.2.2.1.symm) d0 d3 d4 d6 d9 (fun x h => (hx0 x h).elim) hRf hRl hRc hRs C0.2.2.2.2.2.2.2.2.2 (fun t hal hz hk9 => ⟨(), trivial, ⟨rfl, hP.kept (fun k q hq => hk9 q.1 ((hP k q hq).lt)), va_K.moved hal C0.2.2.2.2.2.1, hD⟩, ⟨Nat.le_trans hS.1 hz, fun q h1 h2 => (hk9 q (Nat.lt_of_lt_of_le h1 hS.1)).trans (hS.2.1 q h1 h2)⟩⟩) hS.2.2 hc hs
theorem jj_callXS (C0 : jj_C p s m args meth c D cl A nL cc own Ts tys EV) (hx0 : ∀ x ∈ c.exceptionTable.toList, False) {y : MethodName} {bytes : ByteArray} {maxL n index mc ms : Nat} {ret : Option FieldType} {wsl : List Cond} {rm : Room} {As st : List Value} (hM : jj_X EV D cl tys l y wsl rm As ws X) (cw : CallB R s args own index y bytes maxL ret wsl rm rm.cells rm.slots n ∧ (Cond.static y).before args s = true) (hst : st = As.reverse ++ rest) (hn : As.length = n) (hroom : (rest.map fun v => v.category).sum ≤ 8) (hf : cells + rm.cells ≤ R.cells ∧ slots + rm.slots ≤ R.slots) (hcs : cells + rm.cells ≤ mc ∧ slots + rm.slots ≤ ms) (hdg : decode cc pc = .ok (.invokestatic index, 3)) : jj_W p l e R s m args below meth c D cl A nL cells slots (vx_MQ below (jj_XQ A) (jj_XC D cl tys A ws X) args s mc ms A) pc lv (st) ws := by
  intro H locs ls hP hD hS hl
  obtain ⟨hF, hB0⟩ := jj_pre C0 hP hD hS
  exact vx_callv (vx_runS (As := As) (rest := rest) ⟨C0.1, C0.2.1, C0.2.2.1, C0.2.2.2.1, C0.2.2.2.2.1⟩ (hM H.size) cw ⟨jj_blind _ C0.2.2.2.2.2.2.2.2.1, fun U hU hW => ⟨rfl, hB0 U hU hW⟩⟩ rfl hn hl.1 hst (lv_room hroom) hdg hf) hS (fun q _ h => hF q h) hF (fun q _ h => hF q h) (fun E1 ce q9 u t H1 locs1 ht hvm hp hB hz hk hS1 hce hcv hcl => by
    obtain ⟨rfl, hP1, hK1, hD1⟩ := hB
    rw [ht] at hP1
    exact vx_out (fun x h => (hx0 x h).elim) C0.2.2.2.2.2.2.2.2.2 hce hcv hcl (fun t9 ht9 hal => ⟨(), trivial, ⟨rfl, by rw [ht9]; exact hP1, va_K.moved hal C0.2.2.2.2.2.1, hD⟩, hS1.F ht9⟩) hS1.2.2 hcs.1 hcs.2) (fun u t H1 locs1 ht hvm hp => hp.elim)
theorem jj_callXV (C0 : jj_C p s m args meth c D cl A nL cc own Ts tys EV) (hx0 : ∀ x ∈ c.exceptionTable.toList, False) {y : MethodName} {bytes : ByteArray} {maxL n index mc ms : Nat} {ret : Option FieldType} {wsl : List Cond} {rm : Room} {As st : List Value} {C : String} {b ci q0 : Nat} {T : u_T} {N : Nat} {fs : List Value} (hM : jj_X EV D cl tys l y wsl rm (.ref b :: As) ws X) (cw : CallW R s args own C index y bytes maxL ret wsl rm rm.cells rm.slots n) (hc : cl[ci]? = some (C, T, N)) (he : ws[q0]? = some (b, .inr (ci, fs))) (hst : st = As.reverse ++ .ref b :: rest) (hn : As.length = n) (hroom : (rest.map fun v => v.category).sum ≤ 8) (hf : cells + rm.cells ≤ R.cells ∧ slots + rm.slots ≤ R.slots) (hcs : cells + rm.cells ≤ mc ∧ slots + rm.slots ≤ ms) (hdg : decode cc pc = .ok (.invokevirtual index, 3)) : jj_W p l e R s m args below meth c D cl A nL cells slots (vx_MQ below (jj_XQ A) (jj_XC D cl tys A ws X) args s mc ms A) pc lv (st) ws := by
  intro H locs ls hP hD hS hl
  obtain ⟨hF, hB0⟩ := jj_pre C0 hP hD hS
  exact vx_callv (vx_runV (As := As) (rest := rest) ⟨C0.1, C0.2.1, C0.2.2.1, C0.2.2.2.1, C0.2.2.2.2.1⟩ (hM H.size) cw ⟨jj_blind _ C0.2.2.2.2.2.2.2.2.1, va_recv C0.2.2.2.2.2.1 hP hc he, fun U hU hW => ⟨rfl, hB0 U hU hW⟩⟩ rfl hn hl.1 hst (lv_room hroom) hdg hf) hS (fun q _ h => hF q h) hF (fun q _ h => hF q h) (fun E1 ce q9 u t H1 locs1 ht hvm hp hB hz hk hS1 hce hcv hcl => by
    obtain ⟨rfl, hP1, hK1, hD1⟩ := hB
    rw [ht] at hP1
    exact vx_out (fun x h => (hx0 x h).elim) C0.2.2.2.2.2.2.2.2.2 hce hcv hcl (fun t9 ht9 hal => ⟨(), trivial, ⟨rfl, by rw [ht9]; exact hP1, va_K.moved hal C0.2.2.2.2.2.1, hD⟩, hS1.F ht9⟩) hS1.2.2 hcs.1 hcs.2) (fun u t H1 locs1 ht hvm hp => hp.elim)
end CC12a
