/-! names: by my own program out of the Statement and the listing -/
/-- the words that every contract takes: those of the tables that a call may hand on -/
def big : List Cond := lw_tbl.filter goodWord
theorem big_of {w : Cond} {i : Nat} (h : tables_1[i]? = some w) (g : goodWord w = true) : w ∈ big := List.mem_filter.mpr ⟨List.mem_append_right _ (List.mem_of_getElem? h), g⟩
theorem big_sel {w : Cond} {i : Nat} (h : (k2_sels lw_privs)[i]? = some w) (g : goodWord w = true) : w ∈ big := List.mem_filter.mpr ⟨List.mem_append_left _ (List.mem_of_getElem? h), g⟩
theorem gi_0 {c : Cond} : GoodIn (c :: big) big := fun _ h => ⟨List.mem_cons_of_mem _ h, good_of_word (List.mem_filter.mp h).2⟩
theorem gi_c {c w : Cond} {ws : List Cond} (h : w ∈ big) (k : GoodIn (c :: big) ws) : GoodIn (c :: big) (w :: ws) := fun _ q => (List.mem_cons.mp q).elim (fun e => by rw [e]; exact ⟨List.mem_cons_of_mem _ h, good_of_word (List.mem_filter.mp h).2⟩) (k _)
theorem bg {args : Array Value} {s : State} {c w : Cond} (hts : ∀ w ∈ c :: big, w.before args s = true) (h : w ∈ big) : w.before args s = true := hts w (List.mem_cons_of_mem _ h)
