set_option maxRecDepth 20000 in
theorem in_wsX30 : ∀ w ∈ wsX30, w ∈ lw_tbl := by decide +kernel
set_option maxRecDepth 20000 in
theorem in_wsX40 : ∀ w ∈ wsX40, w ∈ lw_tbl := by decide +kernel
set_option maxRecDepth 20000 in
theorem in_wsX00 : ∀ w ∈ wsX00, w ∈ lw_tbl := by decide +kernel
set_option maxRecDepth 20000 in
theorem in_wsX20 : ∀ w ∈ wsX20, w ∈ lw_tbl := by decide +kernel
set_option maxRecDepth 20000 in
theorem in_wsX10 : ∀ w ∈ wsX10, w ∈ lw_tbl := by decide +kernel
theorem mem_ap {a b c : List Cond} (h1 : ∀ w ∈ a, w ∈ c) (h2 : ∀ w ∈ b, w ∈ c) : ∀ w ∈ a ++ b, w ∈ c := fun w h => (List.mem_append.mp h).elim (h1 w) (h2 w)
theorem wsL_law_in : ∀ w ∈ wsL_law, w ∈ lw_tbl := mem_ap (mem_ap (mem_ap (mem_ap (mem_ap (mem_ap (mem_ap in_r1 (mem_ap in_r2 (mem_ap in_r3 (mem_ap in_r4 (mem_ap in_r5 (mem_ap in_r6 (mem_ap in_r7 (mem_ap in_r8 (mem_ap in_r9 (mem_ap in_r10 (mem_ap in_r11 (mem_ap in_r12 (mem_ap in_r13 (mem_ap in_r14 (mem_ap in_r15 (mem_ap in_r16 (mem_ap in_r17 (mem_ap in_r18 (mem_ap in_r19 (mem_ap in_r20 (in_r21))))))))))))))))))))) in_wsX30) in_wsX40) in_wsX00) in_wsX20) in_wsX10) (fun _ h => absurd h List.not_mem_nil)
