/-! the law's words in the tables, by place -/
def lw_ch : Nat → List Cond := fun k => match k with
  | 0 => k2_sels lw_privs
  | 1 => tables_1_1
  | 2 => tables_1_2
  | _ => tables_1_3
theorem lw_ch_in : ∀ (k : Nat) (w : Cond), w ∈ lw_ch k → w ∈ lw_tbl := by
  intro k w h
  have e : lw_tbl = k2_sels lw_privs ++ (tables_1_1 ++ (tables_1_2 ++ tables_1_3)) := rfl
  rw [e]
  simp only [List.mem_append]
  match k, h with
  | 0, h => exact Or.inl h
  | 1, h => exact Or.inr (Or.inl h)
  | 2, h => exact Or.inr (Or.inr (Or.inl h))
  | k + 3, h => exact Or.inr (Or.inr (Or.inr h))
theorem lw_mem (ws : List Cond) (is : List (Nat × Nat)) (h : is.filterMap (fun q => (lw_ch q.1)[q.2]?) = ws) : ∀ w ∈ ws, w ∈ lw_tbl := by
  intro w hw
  rw [← h, List.mem_filterMap] at hw
  obtain ⟨q, -, h2⟩ := hw
  exact lw_ch_in q.1 w (List.mem_of_getElem? h2)
set_option maxRecDepth 20000 in
theorem wsl_r1 : ∀ w ∈ wsL_law0_r1, w ∈ lw_tbl := lw_mem _ [(1, 18), (1, 19), (1, 1), (1, 58), (3, 162), (1, 20), (1, 21), (1, 22), (1, 23), (1, 24), (1, 25), (1, 26), (1, 27), (1, 2), (1, 205), (1, 206), (1, 159), (1, 160), (1, 5), (1, 207), (1, 178), (1, 179), (1, 6), (1, 208)] (by decide +kernel)
set_option maxRecDepth 20000 in
theorem wsl_r2 : ∀ w ∈ wsL_law0_r2, w ∈ lw_tbl := lw_mem _ [(1, 28), (1, 29), (1, 30), (1, 31), (1, 119), (1, 32), (1, 121), (1, 34), (1, 122), (1, 124), (1, 128), (1, 129), (1, 36), (1, 3), (1, 59), (1, 4), (1, 38), (1, 39), (1, 40), (1, 61), (1, 62), (1, 63), (1, 90), (1, 161)] (by decide +kernel)
set_option maxRecDepth 20000 in
theorem wsl_r3 : ∀ w ∈ wsL_law0_r3, w ∈ lw_tbl := lw_mem _ [(1, 162), (1, 163), (1, 164), (1, 165), (1, 168), (1, 167), (1, 181), (1, 182), (1, 183), (1, 204), (1, 186), (1, 187), (1, 184), (1, 188), (1, 190), (2, 218), (2, 219), (1, 0), (2, 220), (2, 221), (2, 222), (2, 223), (2, 224), (2, 225)] (by decide +kernel)
set_option maxRecDepth 20000 in
theorem wsl_r4 : ∀ w ∈ wsL_law0_r4, w ∈ lw_tbl := lw_mem _ [(2, 226), (2, 127), (2, 128), (2, 129), (2, 130), (2, 131), (2, 132), (2, 133), (1, 230), (1, 231), (1, 237), (1, 238), (1, 239), (2, 0), (1, 12), (2, 68), (1, 13), (2, 84), (1, 14), (2, 100), (2, 101), (2, 102), (2, 103), (1, 169)] (by decide +kernel)
set_option maxRecDepth 20000 in
theorem wsl_r5 : ∀ w ∈ wsL_law0_r5, w ∈ lw_tbl := lw_mem _ [(1, 170), (2, 120), (2, 121), (1, 16), (2, 122), (2, 104), (2, 105), (2, 106), (2, 107), (2, 108), (2, 110), (2, 109), (1, 15), (1, 125), (1, 126), (1, 130), (1, 131), (1, 132), (1, 133), (2, 111), (2, 112), (2, 113), (2, 114), (1, 41)] (by decide +kernel)
set_option maxRecDepth 20000 in
theorem wsl_r6 : ∀ w ∈ wsL_law0_r6, w ∈ lw_tbl := lw_mem _ [(1, 43), (1, 45), (1, 47), (2, 115), (2, 116), (2, 117), (2, 118), (1, 64), (1, 66), (1, 68), (1, 70), (1, 72), (1, 74), (1, 77), (1, 80), (1, 82), (1, 84), (1, 86), (1, 88), (2, 119), (2, 134), (2, 135), (2, 136), (2, 137)] (by decide +kernel)
set_option maxRecDepth 20000 in
theorem wsl_r7 : ∀ w ∈ wsL_law0_r7, w ∈ lw_tbl := lw_mem _ [(1, 218), (1, 219), (1, 220), (1, 221), (1, 222), (1, 223), (1, 224), (1, 225), (1, 227), (1, 228), (1, 229), (1, 233), (1, 234), (1, 235), (1, 236), (1, 42), (1, 44), (2, 123), (2, 124), (2, 125), (2, 126), (1, 46), (1, 48), (2, 138)] (by decide +kernel)
set_option maxRecDepth 20000 in
theorem wsl_r8 : ∀ w ∈ wsL_law0_r8, w ∈ lw_tbl := lw_mem _ [(2, 139), (2, 140), (2, 141), (2, 142), (2, 143), (2, 144), (2, 145), (2, 146), (2, 147), (2, 148), (2, 149), (1, 81), (1, 75), (1, 78), (2, 150), (2, 151), (2, 152), (2, 153), (2, 154), (2, 155), (2, 156), (2, 157), (2, 158), (2, 159)] (by decide +kernel)
set_option maxRecDepth 20000 in
theorem wsl_r9 : ∀ w ∈ wsL_law0_r9, w ∈ lw_tbl := lw_mem _ [(2, 160), (2, 161), (3, 142), (3, 143), (3, 144), (3, 40), (3, 41), (3, 42), (3, 145), (3, 146), (3, 147), (3, 148), (3, 149), (3, 150), (3, 151), (3, 152), (2, 217), (3, 0), (3, 1), (3, 2), (3, 3), (3, 153), (3, 154), (3, 155)] (by decide +kernel)
set_option maxRecDepth 20000 in
theorem wsl_r10 : ∀ w ∈ wsL_law0_r10, w ∈ lw_tbl := lw_mem _ [(3, 156), (1, 65), (1, 67), (1, 69), (1, 71), (1, 73), (1, 83), (1, 85), (1, 87), (1, 89), (3, 157), (3, 158), (3, 159), (3, 160), (3, 161), (2, 210), (2, 211), (2, 212), (3, 31), (3, 32), (3, 33), (3, 34), (3, 35), (3, 36)] (by decide +kernel)
set_option maxRecDepth 20000 in
theorem wsl_r11 : ∀ w ∈ wsL_law0_r11, w ∈ lw_tbl := lw_mem _ [(3, 37), (3, 38), (3, 39), (2, 162), (2, 163), (2, 164), (2, 165), (2, 166), (2, 167), (2, 168), (2, 169), (2, 170), (2, 171), (2, 172), (2, 173), (2, 174), (2, 175), (2, 176), (2, 177), (2, 178), (2, 179), (2, 180), (2, 181), (2, 182)] (by decide +kernel)
set_option maxRecDepth 20000 in
theorem wsl_r12 : ∀ w ∈ wsL_law0_r12, w ∈ lw_tbl := lw_mem _ [(2, 183), (2, 184), (2, 185), (2, 186), (2, 187), (2, 188), (2, 189), (2, 190), (2, 191), (2, 192), (2, 193), (2, 194), (2, 195), (2, 196), (2, 197), (2, 198), (2, 199), (2, 200), (2, 201), (2, 202), (2, 203), (2, 204), (2, 205), (2, 206)] (by decide +kernel)
set_option maxRecDepth 20000 in
theorem wsl_r13 : ∀ w ∈ wsL_law0_r13, w ∈ lw_tbl := lw_mem _ [(2, 207), (2, 208), (1, 91), (2, 209), (2, 213), (2, 214), (2, 215), (2, 216), (2, 227), (2, 228), (2, 229), (2, 230), (2, 231), (2, 232), (2, 233), (2, 234), (2, 235), (2, 236), (2, 237), (2, 238), (2, 239), (3, 4), (3, 5), (3, 6)] (by decide +kernel)
set_option maxRecDepth 20000 in
theorem wsl_r14 : ∀ w ∈ wsL_law0_r14, w ∈ lw_tbl := lw_mem _ [(3, 7), (3, 8), (3, 9), (3, 10), (3, 11), (3, 12), (3, 13), (3, 14), (3, 15), (3, 16), (3, 17), (3, 18), (3, 19), (3, 20), (3, 21), (3, 22), (3, 23), (3, 24), (3, 25), (3, 26), (3, 43), (3, 44), (3, 45), (3, 27)] (by decide +kernel)
set_option maxRecDepth 20000 in
theorem wsl_r15 : ∀ w ∈ wsL_law0_r15, w ∈ lw_tbl := lw_mem _ [(3, 28), (3, 29), (3, 30), (3, 46), (3, 47), (3, 48), (3, 49), (3, 50), (3, 51), (3, 52), (1, 123), (3, 53), (3, 55), (0, 1), (3, 56), (1, 127), (3, 58), (3, 59), (3, 60), (3, 61), (3, 62), (3, 63), (3, 64), (3, 65)] (by decide +kernel)
set_option maxRecDepth 20000 in
theorem wsl_r16 : ∀ w ∈ wsL_law0_r16, w ∈ lw_tbl := lw_mem _ [(3, 66), (3, 67), (3, 68), (3, 69), (3, 70), (3, 71), (3, 72), (3, 73), (3, 74), (3, 75), (3, 76), (3, 77), (3, 78), (3, 79), (3, 80), (3, 81), (3, 82), (3, 83), (3, 84), (3, 85), (3, 86), (3, 87), (1, 79), (1, 76)] (by decide +kernel)
set_option maxRecDepth 20000 in
theorem wsl_r17 : ∀ w ∈ wsL_law0_r17, w ∈ lw_tbl := lw_mem _ [(3, 88), (3, 89), (3, 90), (3, 91), (3, 93), (3, 94), (3, 95), (3, 96), (3, 97), (3, 98), (3, 99), (3, 100), (3, 101), (3, 102), (3, 103), (3, 104), (1, 120), (3, 105), (3, 106), (3, 107), (3, 108), (3, 110), (3, 111), (3, 112)] (by decide +kernel)
set_option maxRecDepth 20000 in
theorem wsl_r18 : ∀ w ∈ wsL_law0_r18, w ∈ lw_tbl := lw_mem _ [(3, 113), (3, 114), (3, 115), (3, 116), (3, 117), (3, 118), (3, 119), (3, 121), (0, 2), (3, 122), (1, 189), (3, 123), (3, 124), (3, 125), (3, 126), (3, 127), (3, 128), (1, 17), (3, 129), (3, 130), (3, 131), (3, 132), (3, 133), (3, 134)] (by decide +kernel)
set_option maxRecDepth 20000 in
theorem wsl_r19 : ∀ w ∈ wsL_law0_r19, w ∈ lw_tbl := lw_mem _ [(3, 135), (3, 136), (3, 137), (3, 138), (3, 139), (3, 140), (3, 141)] (by decide +kernel)
theorem wsL_rows_in : ∀ w ∈ (wsL_law0_r1 ++ (wsL_law0_r2 ++ (wsL_law0_r3 ++ (wsL_law0_r4 ++ (wsL_law0_r5 ++ (wsL_law0_r6 ++ (wsL_law0_r7 ++ (wsL_law0_r8 ++ (wsL_law0_r9 ++ (wsL_law0_r10 ++ (wsL_law0_r11 ++ (wsL_law0_r12 ++ (wsL_law0_r13 ++ (wsL_law0_r14 ++ (wsL_law0_r15 ++ (wsL_law0_r16 ++ (wsL_law0_r17 ++ (wsL_law0_r18 ++ (wsL_law0_r19))))))))))))))))))), w ∈ lw_tbl := fun w h => (List.mem_append.mp h).elim (fun h => wsl_r1 w h) (fun h => (List.mem_append.mp h).elim (fun h => wsl_r2 w h) (fun h => (List.mem_append.mp h).elim (fun h => wsl_r3 w h) (fun h => (List.mem_append.mp h).elim (fun h => wsl_r4 w h) (fun h => (List.mem_append.mp h).elim (fun h => wsl_r5 w h) (fun h => (List.mem_append.mp h).elim (fun h => wsl_r6 w h) (fun h => (List.mem_append.mp h).elim (fun h => wsl_r7 w h) (fun h => (List.mem_append.mp h).elim (fun h => wsl_r8 w h) (fun h => (List.mem_append.mp h).elim (fun h => wsl_r9 w h) (fun h => (List.mem_append.mp h).elim (fun h => wsl_r10 w h) (fun h => (List.mem_append.mp h).elim (fun h => wsl_r11 w h) (fun h => (List.mem_append.mp h).elim (fun h => wsl_r12 w h) (fun h => (List.mem_append.mp h).elim (fun h => wsl_r13 w h) (fun h => (List.mem_append.mp h).elim (fun h => wsl_r14 w h) (fun h => (List.mem_append.mp h).elim (fun h => wsl_r15 w h) (fun h => (List.mem_append.mp h).elim (fun h => wsl_r16 w h) (fun h => (List.mem_append.mp h).elim (fun h => wsl_r17 w h) (fun h => (List.mem_append.mp h).elim (fun h => wsl_r18 w h) (fun h => wsl_r19 w h))))))))))))))))))
set_option maxRecDepth 20000 in
theorem inX7 : ∀ w ∈ wsX70, w ∈ lw_tbl := by decide +kernel
set_option maxRecDepth 20000 in
theorem inX5 : ∀ w ∈ wsX50, w ∈ lw_tbl := by decide +kernel
set_option maxRecDepth 20000 in
theorem inX2 : ∀ w ∈ wsX20, w ∈ lw_tbl := by decide +kernel
set_option maxRecDepth 20000 in
theorem inX1 : ∀ w ∈ wsX10, w ∈ lw_tbl := by decide +kernel
set_option maxRecDepth 20000 in
theorem inX4 : ∀ w ∈ wsX40, w ∈ lw_tbl := by decide +kernel
set_option maxRecDepth 20000 in
theorem inX3 : ∀ w ∈ wsX30, w ∈ lw_tbl := by decide +kernel
theorem wsL_law_in0 : ∀ w ∈ wsL_law0, w ∈ lw_tbl := fun w h => (List.mem_append.mp h).elim (fun h => (List.mem_append.mp h).elim (fun h => (List.mem_append.mp h).elim (fun h => (List.mem_append.mp h).elim (fun h => (List.mem_append.mp h).elim (fun h => (List.mem_append.mp h).elim (fun h => (List.mem_append.mp h).elim (fun h => wsL_rows_in w h) (fun h => inX7 w h)) (fun h => inX5 w h)) (fun h => inX2 w h)) (fun h => inX1 w h)) (fun h => inX4 w h)) (fun h => inX3 w h)) (fun h => absurd h List.not_mem_nil)
theorem wsL_law_x0 : ∀ w ∈ (vx_atS RX7 113 "java/lang/IndexOutOfBoundsException" ["java/lang/RuntimeException", "java/lang/Exception"]).filter goodWord, w ∈ lw_tbl := by decide +kernel
theorem wsL_law_x1 : ∀ w ∈ (vx_atS RX7 139 "java/lang/IllegalArgumentException" ["java/lang/RuntimeException", "java/lang/Exception"]).filter goodWord, w ∈ lw_tbl := by decide +kernel
theorem wsL_law_x2 : ∀ w ∈ (vx_atS RX7 189 "java/lang/IllegalStateException" ["java/lang/RuntimeException", "java/lang/Exception"]).filter goodWord, w ∈ lw_tbl := by decide +kernel
theorem wsL_law_in : ∀ w ∈ wsL_law, w ∈ lw_tbl := fun w h => (List.mem_append.mp h).elim (fun h => (List.mem_append.mp h).elim (fun h => (List.mem_append.mp h).elim (fun h => wsL_law_in0 w h) (fun h => wsL_law_x0 w h)) (fun h => wsL_law_x1 w h)) (fun h => wsL_law_x2 w h)
theorem inlX1 : ∀ w ∈ wsX10, w ∈ wsL_law := fun _ h => List.mem_append_left _ (List.mem_append_left _ (List.mem_append_left _ (List.mem_append_left _ (List.mem_append_left _ (List.mem_append_left _ (List.mem_append_right _ h))))))
theorem inlX2 : ∀ w ∈ wsX20, w ∈ wsL_law := fun _ h => List.mem_append_left _ (List.mem_append_left _ (List.mem_append_left _ (List.mem_append_left _ (List.mem_append_left _ (List.mem_append_left _ (List.mem_append_left _ (List.mem_append_right _ h)))))))
theorem inlX3 : ∀ w ∈ wsX30, w ∈ wsL_law := fun _ h => List.mem_append_left _ (List.mem_append_left _ (List.mem_append_left _ (List.mem_append_left _ (List.mem_append_right _ h))))
theorem inlX4 : ∀ w ∈ wsX40, w ∈ wsL_law := fun _ h => List.mem_append_left _ (List.mem_append_left _ (List.mem_append_left _ (List.mem_append_left _ (List.mem_append_left _ (List.mem_append_right _ h)))))
theorem inlX5 : ∀ w ∈ wsX50, w ∈ wsL_law := fun _ h => List.mem_append_left _ (List.mem_append_left _ (List.mem_append_left _ (List.mem_append_left _ (List.mem_append_left _ (List.mem_append_left _ (List.mem_append_left _ (List.mem_append_left _ (List.mem_append_right _ h))))))))
theorem inlX7 : ∀ w ∈ wsX70, w ∈ wsL_law := fun _ h => List.mem_append_left _ (List.mem_append_left _ (List.mem_append_left _ (List.mem_append_left _ (List.mem_append_left _ (List.mem_append_left _ (List.mem_append_left _ (List.mem_append_left _ (List.mem_append_left _ (List.mem_append_right _ h)))))))))

