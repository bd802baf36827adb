set_option maxRecDepth 20000 in
theorem in_r21 : ∀ w ∈ wsL_law_r21, w ∈ lw_tbl := fun w h => (goodIn_p wsL_law_r21 [588, 384, 592] (by decide +kernel) (by decide +kernel) w h).1
