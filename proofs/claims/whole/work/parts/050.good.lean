/-- the tables' words that stay good behind calls: every method's own list is its code and these -/
def lw_good : List Cond := lw_tbl.filter goodWord
theorem gd_in {w : Cond} (i : Nat) (h : lw_tbl[i]? = some w) (hg : goodWord w = true) : w ∈ lw_good := List.mem_filter.mpr ⟨List.mem_of_getElem? h, hg⟩
theorem gd_good {w : Cond} (h : w ∈ lw_good) : goodWord w = true := (List.mem_filter.mp h).2
theorem gd_all {L : List Cond} (h : ∀ w ∈ L, w ∈ lw_good) : GoodIn lw_good L := fun w hw => ⟨h w hw, good_of_word (gd_good (h w hw))⟩
