/-! words for making -/
theorem zobjI : Cond.instanceMethod objectInit ∈ wsL_law := wsL_law_r1_l (List.mem_of_getElem? (i := 10) rfl)
theorem zobjC : Cond.code objectInit ⟨#[0xb1]⟩ 1 none ∈ wsL_law := wsL_law_r1_l (List.mem_of_getElem? (i := 11) rfl)
theorem zarrI : Cond.arrayClass .int ∈ wsL_law := wsL_law_r2_l (List.mem_of_getElem? (i := 13) rfl)
