/-- all good words of the tables -/
def lw_U : List Cond := lw_tbl.filter goodWord
theorem lw_inU {w : Cond} (i : Nat) (h : lw_tbl[i]? = some w) (g : goodWord w = true) : w ∈ lw_U := List.mem_filter.mpr ⟨List.mem_of_getElem? h, g⟩
theorem lw_UU : GoodIn lw_U lw_U := fun w h => ⟨h, good_of_word (List.mem_filter.mp h).2⟩
theorem lw_good {w : Cond} (h : w ∈ lw_U) : (w.onTables && w.keeps) = true ∨ ∃ ty, w = .arrayClass ty := good_of_word (List.mem_filter.mp h).2
theorem lw_gc {w : Cond} {ws : List Cond} (h : w ∈ lw_U) (g : GoodIn lw_U ws) : GoodIn lw_U (w :: ws) := fun v hv => (List.mem_cons.mp hv).elim (fun e => by rw [e]; exact ⟨h, lw_good h⟩) (g v)
theorem lw_gV {own C : String} {idx : Nat} {y : MethodName} {w : Cond} (h1 : Cond.methodLink own idx y ∈ lw_U) (h2 : Cond.instanceMethod y ∈ lw_U) (h3 : Cond.selects C y y ∈ lw_U) (h4 : Cond.initialized C ∈ lw_U) (h5 : w ∈ lw_U) : GoodIn lw_U (wsV own idx C y (w :: lw_U)) := lw_gc h1 (lw_gc h2 (lw_gc h3 (lw_gc h4 (lw_gc h5 lw_UU))))
theorem lw_gS {own : String} {idx : Nat} {y : MethodName} {w : Cond} (h1 : Cond.methodLink own idx y ∈ lw_U) (h2 : Cond.static y ∈ lw_U) (h4 : Cond.initialized own ∈ lw_U) (h5 : w ∈ lw_U) : GoodIn lw_U (wsS own idx y (w :: lw_U)) := lw_gc h1 (lw_gc h2 (lw_gc h4 (lw_gc h5 lw_UU)))
