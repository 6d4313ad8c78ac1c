/-! the law's words in the tables, by place -/
def lw_ch : Nat → List Cond := fun k => match k with
  | 0 => k2_sels lw_privs
  | 1 => tables_1_1
  | 2 => tables_1_2
  | 3 => tables_1_3
  | 4 => tables_1_4
  | 5 => tables_1_5
  | _ => tables_1_6
theorem lw_ch_in : ∀ (k : Nat) (w : Cond), w ∈ lw_ch k → w ∈ lw_tbl := by
  intro k w h
  have e : lw_tbl = k2_sels lw_privs ++ (tables_1_1 ++ (tables_1_2 ++ (tables_1_3 ++ (tables_1_4 ++ (tables_1_5 ++ tables_1_6))))) := rfl
  rw [e]
  simp only [List.mem_append]
  match k, h with
  | 0, h => exact Or.inl h
  | 1, h => exact Or.inr (Or.inl h)
  | 2, h => exact Or.inr (Or.inr (Or.inl h))
  | 3, h => exact Or.inr (Or.inr (Or.inr (Or.inl h)))
  | 4, h => exact Or.inr (Or.inr (Or.inr (Or.inr (Or.inl h))))
  | 5, h => exact Or.inr (Or.inr (Or.inr (Or.inr (Or.inr (Or.inl h)))))
  | k + 6, h => exact Or.inr (Or.inr (Or.inr (Or.inr (Or.inr (Or.inr h)))))
theorem lw_mem (ws : List Cond) (is : List (Nat × Nat)) (h : is.filterMap (fun q => (lw_ch q.1)[q.2]?) = ws) : ∀ w ∈ ws, w ∈ lw_tbl := by
  intro w hw
  rw [← h, List.mem_filterMap] at hw
  obtain ⟨q, -, h2⟩ := hw
  exact lw_ch_in q.1 w (List.mem_of_getElem? h2)
set_option maxRecDepth 20000 in
theorem wsl_r1 : ∀ w ∈ wsL_law0_r1, w ∈ lw_tbl := lw_mem _ [(1, 24), (1, 25), (1, 1), (4, 171), (4, 172), (1, 9), (6, 50), (1, 26), (1, 27), (1, 28), (1, 29), (1, 30), (1, 31), (1, 32), (1, 33), (1, 2), (1, 218), (1, 219), (1, 167), (1, 168), (1, 5), (1, 220), (1, 187), (1, 188)] (by decide +kernel)
set_option maxRecDepth 20000 in
theorem wsl_r2 : ∀ w ∈ wsL_law0_r2, w ∈ lw_tbl := lw_mem _ [(1, 6), (1, 221), (1, 34), (1, 35), (1, 36), (1, 37), (1, 64), (1, 126), (1, 38), (1, 128), (1, 40), (1, 129), (1, 131), (1, 136), (1, 137), (1, 42), (1, 3), (1, 65), (1, 4), (1, 44), (1, 45), (1, 46), (1, 67), (1, 68)] (by decide +kernel)
set_option maxRecDepth 20000 in
theorem wsl_r3 : ∀ w ∈ wsL_law0_r3, w ∈ lw_tbl := lw_mem _ [(1, 69), (1, 97), (1, 169), (1, 170), (1, 171), (1, 172), (1, 173), (1, 176), (1, 175), (1, 190), (1, 191), (1, 192), (1, 217), (1, 195), (1, 196), (1, 193), (1, 198), (1, 203), (4, 173), (4, 174), (4, 175), (4, 176), (4, 178), (4, 179)] (by decide +kernel)
set_option maxRecDepth 20000 in
theorem wsl_r4 : ∀ w ∈ wsL_law0_r4, w ∈ lw_tbl := lw_mem _ [(4, 180), (4, 182), (4, 186), (4, 187), (3, 122), (3, 123), (1, 0), (3, 124), (3, 125), (3, 126), (3, 127), (3, 128), (3, 129), (3, 130), (3, 131), (2, 211), (2, 212), (2, 213), (2, 214), (1, 132), (2, 216), (2, 217), (2, 218), (2, 117)] (by decide +kernel)
set_option maxRecDepth 20000 in
theorem wsl_r5 : ∀ w ∈ wsL_law0_r5, w ∈ lw_tbl := lw_mem _ [(2, 118), (2, 220), (2, 221), (2, 222), (2, 223), (1, 48), (1, 50), (3, 132), (3, 133), (3, 134), (3, 135), (1, 13), (3, 203), (1, 14), (3, 219), (1, 15), (1, 235), (1, 236), (1, 237), (1, 238), (1, 177), (1, 178), (2, 15), (2, 16)] (by decide +kernel)
set_option maxRecDepth 20000 in
theorem wsl_r6 : ∀ w ∈ wsL_law0_r6, w ∈ lw_tbl := lw_mem _ [(1, 17), (2, 17), (1, 239), (2, 0), (2, 1), (2, 2), (2, 3), (2, 5), (2, 4), (1, 16), (1, 134), (1, 138), (1, 139), (1, 140), (1, 141), (2, 6), (2, 7), (2, 8), (2, 9), (1, 47), (1, 49), (1, 51), (1, 53), (2, 10)] (by decide +kernel)
set_option maxRecDepth 20000 in
theorem wsl_r7 : ∀ w ∈ wsL_law0_r7, w ∈ lw_tbl := lw_mem _ [(2, 11), (2, 12), (2, 13), (1, 70), (1, 72), (1, 74), (1, 76), (1, 78), (1, 80), (1, 83), (1, 86), (1, 89), (1, 91), (1, 93), (1, 95), (2, 14), (3, 20), (3, 21), (3, 22), (3, 23), (1, 52), (1, 54), (4, 215), (4, 216)] (by decide +kernel)
set_option maxRecDepth 20000 in
theorem wsl_r8 : ∀ w ∈ wsL_law0_r8, w ∈ lw_tbl := lw_mem _ [(4, 217), (4, 218), (4, 177), (4, 219), (4, 221), (0, 9), (4, 222), (4, 223), (4, 225), (0, 10), (4, 226), (4, 227), (4, 228), (4, 229), (4, 230), (4, 232), (0, 11), (4, 233), (4, 234), (4, 236), (0, 12), (4, 237), (4, 181), (4, 238)] (by decide +kernel)
set_option maxRecDepth 20000 in
theorem wsl_r9 : ∀ w ∈ wsL_law0_r9, w ∈ lw_tbl := lw_mem _ [(4, 239), (5, 0), (5, 1), (5, 3), (0, 13), (5, 4), (4, 211), (4, 212), (4, 213), (4, 214), (3, 235), (3, 236), (3, 237), (3, 238), (3, 239), (4, 0), (4, 1), (4, 2), (4, 3), (4, 4), (4, 5), (2, 228), (2, 229), (2, 230)] (by decide +kernel)
set_option maxRecDepth 20000 in
theorem wsl_r10 : ∀ w ∈ wsL_law0_r10, w ∈ lw_tbl := lw_mem _ [(2, 231), (4, 6), (4, 7), (4, 8), (4, 9), (5, 5), (5, 6), (5, 7), (5, 8), (5, 9), (5, 11), (0, 14), (5, 12), (4, 10), (4, 11), (4, 12), (4, 13), (4, 14), (4, 15), (4, 16), (3, 13), (3, 14), (3, 15), (3, 45)] (by decide +kernel)
set_option maxRecDepth 20000 in
theorem wsl_r11 : ∀ w ∈ wsL_law0_r11, w ∈ lw_tbl := lw_mem _ [(3, 46), (3, 47), (3, 48), (5, 13), (5, 14), (5, 15), (5, 16), (5, 17), (5, 19), (0, 15), (5, 20), (5, 21), (5, 23), (0, 16), (5, 24), (4, 17), (4, 18), (4, 19), (4, 20), (4, 21), (4, 22), (4, 23), (3, 4), (3, 5)] (by decide +kernel)
set_option maxRecDepth 20000 in
theorem wsl_r12 : ∀ w ∈ wsL_law0_r12, w ∈ lw_tbl := lw_mem _ [(3, 6), (3, 7), (3, 8), (3, 9), (3, 10), (3, 11), (1, 87), (1, 81), (1, 84), (3, 12), (2, 27), (2, 28), (2, 29), (2, 30), (2, 31), (2, 32), (2, 33), (3, 41), (3, 42), (3, 43), (3, 44), (5, 25), (5, 26), (5, 27)] (by decide +kernel)
set_option maxRecDepth 20000 in
theorem wsl_r13 : ∀ w ∈ wsL_law0_r13, w ∈ lw_tbl := lw_mem _ [(5, 28), (5, 29), (5, 31), (0, 17), (5, 32), (5, 33), (5, 35), (0, 18), (5, 36), (5, 37), (5, 39), (0, 19), (5, 40), (5, 41), (5, 43), (0, 20), (5, 44), (5, 45), (5, 47), (0, 21), (5, 48), (5, 49), (5, 51), (0, 22)] (by decide +kernel)
set_option maxRecDepth 20000 in
theorem wsl_r14 : ∀ w ∈ wsL_law0_r14, w ∈ lw_tbl := lw_mem _ [(5, 52), (5, 53), (5, 55), (0, 23), (5, 56), (5, 57), (5, 59), (0, 24), (5, 60), (5, 61), (5, 63), (0, 25), (5, 64), (4, 24), (4, 25), (4, 26), (4, 27), (4, 28), (4, 29), (4, 30), (2, 224), (2, 225), (2, 226), (2, 227)] (by decide +kernel)
set_option maxRecDepth 20000 in
theorem wsl_r15 : ∀ w ∈ wsL_law0_r15, w ∈ lw_tbl := lw_mem _ [(2, 87), (3, 24), (3, 25), (3, 26), (3, 27), (1, 71), (1, 73), (1, 75), (1, 77), (1, 79), (1, 90), (1, 92), (1, 94), (1, 96), (3, 28), (3, 29), (3, 30), (3, 31), (3, 32), (2, 80), (2, 81), (2, 82), (5, 65), (5, 66)] (by decide +kernel)
set_option maxRecDepth 20000 in
theorem wsl_r16 : ∀ w ∈ wsL_law0_r16, w ∈ lw_tbl := lw_mem _ [(5, 67), (5, 68), (5, 69), (5, 71), (0, 26), (5, 72), (5, 73), (5, 75), (0, 27), (5, 76), (5, 77), (5, 79), (0, 28), (5, 80), (4, 31), (4, 32), (4, 33), (4, 34), (4, 35), (4, 36), (4, 37), (2, 232), (2, 233), (2, 234)] (by decide +kernel)
set_option maxRecDepth 20000 in
theorem wsl_r17 : ∀ w ∈ wsL_law0_r17, w ∈ lw_tbl := lw_mem _ [(2, 235), (2, 236), (2, 237), (2, 238), (2, 239), (2, 55), (2, 56), (2, 57), (3, 33), (3, 34), (3, 35), (3, 36), (2, 58), (2, 59), (2, 60), (2, 61), (5, 81), (5, 82), (5, 83), (5, 84), (5, 85), (5, 87), (0, 29), (5, 88)] (by decide +kernel)
set_option maxRecDepth 20000 in
theorem wsl_r18 : ∀ w ∈ wsL_law0_r18, w ∈ lw_tbl := lw_mem _ [(5, 89), (5, 91), (0, 30), (5, 92), (5, 93), (5, 95), (0, 31), (5, 96), (4, 38), (4, 39), (4, 40), (4, 41), (4, 42), (4, 43), (4, 44), (3, 0), (3, 1), (3, 2), (3, 3), (3, 37), (3, 38), (3, 39), (3, 40), (5, 97)] (by decide +kernel)
set_option maxRecDepth 20000 in
theorem wsl_r19 : ∀ w ∈ wsL_law0_r19, w ∈ lw_tbl := lw_mem _ [(5, 98), (5, 99), (5, 100), (5, 101), (5, 103), (0, 32), (5, 104), (5, 105), (5, 107), (0, 33), (5, 108), (4, 45), (4, 46), (4, 47), (4, 48), (4, 49), (4, 50), (4, 51), (3, 16), (3, 17), (3, 18), (3, 19), (2, 43), (2, 44)] (by decide +kernel)
set_option maxRecDepth 20000 in
theorem wsl_r20 : ∀ w ∈ wsL_law0_r20, w ∈ lw_tbl := lw_mem _ [(2, 45), (2, 46), (2, 47), (2, 48), (2, 49), (2, 50), (2, 51), (2, 52), (2, 53), (2, 54), (2, 62), (2, 63), (2, 64), (2, 65), (2, 66), (2, 39), (2, 40), (2, 41), (2, 67), (2, 68), (2, 69), (2, 70), (2, 71), (2, 72)] (by decide +kernel)
set_option maxRecDepth 20000 in
theorem wsl_r21 : ∀ w ∈ wsL_law0_r21, w ∈ lw_tbl := lw_mem _ [(2, 73), (2, 74), (2, 75), (2, 76), (2, 77), (2, 78), (1, 98), (2, 79), (2, 83), (2, 84), (2, 85), (2, 86), (5, 109), (5, 110), (5, 111), (5, 112), (5, 113), (5, 115), (0, 34), (5, 116), (5, 117), (5, 119), (0, 35), (5, 120)] (by decide +kernel)
set_option maxRecDepth 20000 in
theorem wsl_r22 : ∀ w ∈ wsL_law0_r22, w ∈ lw_tbl := lw_mem _ [(5, 121), (5, 123), (0, 36), (5, 124), (5, 125), (5, 127), (0, 37), (5, 128), (5, 129), (5, 131), (0, 38), (5, 132), (5, 133), (5, 135), (0, 39), (5, 136), (5, 137), (5, 139), (0, 40), (5, 140), (5, 141), (5, 143), (0, 41), (5, 144)] (by decide +kernel)
set_option maxRecDepth 20000 in
theorem wsl_r23 : ∀ w ∈ wsL_law0_r23, w ∈ lw_tbl := lw_mem _ [(5, 145), (5, 147), (0, 42), (5, 148), (1, 231), (1, 232), (1, 233), (1, 234), (2, 18), (2, 19), (2, 20), (2, 21), (5, 149), (5, 150), (5, 151), (5, 152), (4, 52), (4, 53), (4, 54), (4, 55), (4, 56), (4, 57), (4, 58), (1, 127)] (by decide +kernel)
set_option maxRecDepth 20000 in
theorem wsl_r24 : ∀ w ∈ wsL_law0_r24, w ∈ lw_tbl := lw_mem _ [(4, 59), (4, 60), (4, 61), (4, 62), (5, 153), (5, 154), (5, 155), (5, 156), (4, 64), (4, 65), (4, 66), (4, 67), (4, 68), (4, 69), (4, 70), (4, 71), (4, 73), (4, 74), (4, 75), (3, 89), (3, 90), (3, 91), (3, 92), (3, 93)] (by decide +kernel)
set_option maxRecDepth 20000 in
theorem wsl_r25 : ∀ w ∈ wsL_law0_r25, w ∈ lw_tbl := lw_mem _ [(3, 94), (3, 95), (3, 96), (3, 69), (3, 70), (3, 71), (3, 72), (5, 157), (5, 158), (5, 159), (5, 160), (5, 161), (5, 163), (0, 43), (5, 164), (4, 76), (4, 77), (4, 78), (4, 79), (4, 80), (4, 81), (4, 82), (1, 130), (4, 83)] (by decide +kernel)
set_option maxRecDepth 20000 in
theorem wsl_r26 : ∀ w ∈ wsL_law0_r26, w ∈ lw_tbl := lw_mem _ [(4, 85), (0, 8), (4, 86), (1, 135), (3, 101), (3, 102), (3, 103), (3, 104), (5, 165), (5, 166), (5, 167), (5, 168), (5, 169), (5, 171), (0, 44), (5, 172), (4, 88), (4, 89), (4, 90), (4, 91), (4, 92), (4, 93), (4, 94), (3, 109)] (by decide +kernel)
set_option maxRecDepth 20000 in
theorem wsl_r27 : ∀ w ∈ wsL_law0_r27, w ∈ lw_tbl := lw_mem _ [(3, 110), (3, 111), (3, 112), (3, 113), (3, 106), (3, 107), (3, 108), (5, 173), (5, 174), (5, 175), (5, 176), (5, 177), (5, 179), (0, 45), (5, 180), (5, 181), (5, 183), (0, 46), (5, 184), (4, 96), (4, 97), (4, 98), (4, 99), (4, 100)] (by decide +kernel)
set_option maxRecDepth 20000 in
theorem wsl_r28 : ∀ w ∈ wsL_law0_r28, w ∈ lw_tbl := lw_mem _ [(4, 101), (4, 102), (1, 85), (1, 82), (5, 185), (5, 186), (5, 187), (5, 188), (2, 22), (2, 23), (2, 24), (2, 25), (2, 26), (5, 189), (5, 190), (5, 191), (5, 192), (5, 193), (5, 195), (0, 47), (5, 196), (4, 103), (4, 104), (4, 105)] (by decide +kernel)
set_option maxRecDepth 20000 in
theorem wsl_r29 : ∀ w ∈ wsL_law0_r29, w ∈ lw_tbl := lw_mem _ [(4, 106), (4, 107), (4, 108), (4, 109), (3, 55), (3, 57), (0, 2), (3, 58), (1, 201), (3, 59), (3, 60), (3, 61), (3, 62), (3, 63), (3, 64), (1, 18), (3, 65), (3, 66), (3, 67), (3, 68), (5, 197), (5, 198), (5, 199), (5, 200)] (by decide +kernel)
set_option maxRecDepth 20000 in
theorem wsl_r30 : ∀ w ∈ wsL_law0_r30, w ∈ lw_tbl := lw_mem _ [(5, 201), (5, 203), (0, 48), (5, 204), (4, 183), (4, 110), (4, 111), (4, 112), (4, 113), (4, 114), (4, 115), (4, 116), (4, 117), (5, 205), (5, 206), (5, 207), (5, 208), (4, 118), (4, 119), (4, 120), (4, 121), (4, 122), (4, 123), (4, 124)] (by decide +kernel)
set_option maxRecDepth 20000 in
theorem wsl_r31 : ∀ w ∈ wsL_law0_r31, w ∈ lw_tbl := lw_mem _ [(3, 114), (5, 209), (5, 210), (5, 211), (5, 212), (4, 125), (4, 126), (4, 127), (4, 128), (4, 129), (4, 130), (4, 131), (3, 115), (3, 116), (3, 117), (3, 118), (3, 119), (3, 120), (3, 121), (5, 213), (5, 214), (5, 215), (5, 216), (5, 217)] (by decide +kernel)
set_option maxRecDepth 20000 in
theorem wsl_r32 : ∀ w ∈ wsL_law0_r32, w ∈ lw_tbl := lw_mem _ [(5, 219), (0, 49), (5, 220), (4, 132), (4, 133), (4, 134), (4, 135), (4, 136), (4, 137), (4, 138), (3, 77), (3, 79), (0, 4), (3, 80), (2, 42), (3, 81), (3, 82), (3, 83), (3, 84), (5, 221), (5, 222), (5, 223), (5, 224), (5, 225)] (by decide +kernel)
set_option maxRecDepth 20000 in
theorem wsl_r33 : ∀ w ∈ wsL_law0_r33, w ∈ lw_tbl := lw_mem _ [(5, 227), (0, 50), (5, 228), (4, 139), (4, 140), (4, 141), (4, 142), (4, 143), (4, 144), (4, 145), (1, 88), (4, 146), (5, 229), (5, 230), (5, 231), (5, 232), (2, 34), (2, 35), (2, 36), (2, 37), (2, 38), (5, 233), (5, 234), (5, 235)] (by decide +kernel)
set_option maxRecDepth 20000 in
theorem wsl_r34 : ∀ w ∈ wsL_law0_r34, w ∈ lw_tbl := lw_mem _ [(5, 236), (4, 147), (4, 148), (4, 149), (4, 150), (4, 151), (4, 152), (4, 153), (4, 155), (4, 156), (4, 157), (4, 158), (1, 200), (5, 237), (5, 238), (5, 239), (6, 0), (2, 88), (2, 89), (2, 90), (2, 91), (6, 1), (6, 2), (6, 3)] (by decide +kernel)
set_option maxRecDepth 20000 in
theorem wsl_r35 : ∀ w ∈ wsL_law0_r35, w ∈ lw_tbl := lw_mem _ [(6, 4), (2, 92), (2, 93), (2, 94), (2, 95), (1, 199), (1, 197), (2, 96), (2, 97), (2, 98), (2, 99), (2, 100), (2, 101), (2, 102), (2, 103), (1, 202), (2, 104), (2, 105), (2, 106), (2, 107), (2, 108), (2, 109), (2, 110), (2, 111)] (by decide +kernel)
set_option maxRecDepth 20000 in
theorem wsl_r36 : ∀ w ∈ wsL_law0_r36, w ∈ lw_tbl := lw_mem _ [(2, 112), (2, 113), (2, 114), (2, 115), (2, 119), (2, 120), (2, 121), (2, 122), (6, 52), (2, 125), (2, 126), (2, 127), (2, 128), (2, 129), (2, 130), (2, 131), (1, 19), (2, 132), (6, 53), (2, 133), (2, 134), (2, 135), (2, 136), (2, 137)] (by decide +kernel)
set_option maxRecDepth 20000 in
theorem wsl_r37 : ∀ w ∈ wsL_law0_r37, w ∈ lw_tbl := lw_mem _ [(6, 54), (2, 139), (2, 140), (2, 141), (2, 142), (2, 143), (2, 144), (2, 145), (2, 146), (2, 147), (2, 148), (1, 20), (2, 149), (2, 150), (2, 151), (2, 152), (2, 153), (2, 155), (2, 156), (1, 21), (2, 157), (2, 158), (2, 159), (1, 22)] (by decide +kernel)
set_option maxRecDepth 20000 in
theorem wsl_r38 : ∀ w ∈ wsL_law0_r38, w ∈ lw_tbl := lw_mem _ [(2, 160), (2, 161), (2, 162), (2, 163), (2, 164), (2, 165), (2, 166), (2, 167), (2, 168), (2, 169), (2, 170), (2, 171), (2, 173), (2, 175), (2, 177), (2, 178), (2, 179), (2, 180), (2, 181), (2, 182), (2, 183), (2, 184), (6, 55), (2, 185)] (by decide +kernel)
set_option maxRecDepth 20000 in
theorem wsl_r39 : ∀ w ∈ wsL_law0_r39, w ∈ lw_tbl := lw_mem _ [(2, 186), (2, 187), (2, 188), (2, 189), (2, 190), (2, 191), (2, 192), (2, 193), (2, 194), (2, 195), (2, 197), (0, 0), (2, 198), (2, 203), (2, 199), (2, 201), (0, 1), (2, 202), (2, 205), (2, 206), (2, 208), (2, 209), (1, 7), (2, 210)] (by decide +kernel)
set_option maxRecDepth 20000 in
theorem wsl_r40 : ∀ w ∈ wsL_law0_r40, w ∈ lw_tbl := lw_mem _ [(6, 56), (6, 5), (6, 6), (6, 7), (6, 8), (4, 184), (6, 9), (6, 11), (0, 51), (6, 12), (6, 13), (6, 15), (0, 52), (6, 16), (6, 17), (6, 19), (0, 53), (6, 20), (4, 185), (6, 21), (6, 23), (0, 54), (6, 24), (6, 25)] (by decide +kernel)
set_option maxRecDepth 20000 in
theorem wsl_r41 : ∀ w ∈ wsL_law0_r41, w ∈ lw_tbl := lw_mem _ [(6, 27), (0, 55), (6, 28), (6, 29), (6, 30), (6, 31), (6, 32), (6, 34), (0, 56), (6, 35), (6, 36), (6, 38), (0, 57), (6, 39), (4, 159), (4, 160), (4, 161), (4, 162), (4, 163), (4, 164), (4, 165), (1, 179), (4, 167), (4, 168)] (by decide +kernel)
set_option maxRecDepth 20000 in
theorem wsl_r42 : ∀ w ∈ wsL_law0_r42, w ∈ lw_tbl := lw_mem _ [(4, 169), (4, 170), (6, 40), (6, 41), (6, 42), (6, 43), (3, 49), (3, 50), (3, 51), (3, 52), (3, 53), (3, 54), (3, 73), (3, 75), (0, 3), (3, 76), (3, 85), (3, 87), (0, 5), (3, 88), (1, 133), (3, 97), (3, 99), (0, 6)] (by decide +kernel)
set_option maxRecDepth 20000 in
theorem wsl_r43 : ∀ w ∈ wsL_law0_r43, w ∈ lw_tbl := lw_mem _ [(3, 100), (3, 105), (6, 44), (6, 45), (6, 46), (6, 47), (6, 48), (6, 49)] (by decide +kernel)
theorem wsL_rows_in : ∀ w ∈ (wsL_law0_r1 ++ (wsL_law0_r2 ++ (wsL_law0_r3 ++ (wsL_law0_r4 ++ (wsL_law0_r5 ++ (wsL_law0_r6 ++ (wsL_law0_r7 ++ (wsL_law0_r8 ++ (wsL_law0_r9 ++ (wsL_law0_r10 ++ (wsL_law0_r11 ++ (wsL_law0_r12 ++ (wsL_law0_r13 ++ (wsL_law0_r14 ++ (wsL_law0_r15 ++ (wsL_law0_r16 ++ (wsL_law0_r17 ++ (wsL_law0_r18 ++ (wsL_law0_r19 ++ (wsL_law0_r20 ++ (wsL_law0_r21 ++ (wsL_law0_r22 ++ (wsL_law0_r23 ++ (wsL_law0_r24 ++ (wsL_law0_r25 ++ (wsL_law0_r26 ++ (wsL_law0_r27 ++ (wsL_law0_r28 ++ (wsL_law0_r29 ++ (wsL_law0_r30 ++ (wsL_law0_r31 ++ (wsL_law0_r32 ++ (wsL_law0_r33 ++ (wsL_law0_r34 ++ (wsL_law0_r35 ++ (wsL_law0_r36 ++ (wsL_law0_r37 ++ (wsL_law0_r38 ++ (wsL_law0_r39 ++ (wsL_law0_r40 ++ (wsL_law0_r41 ++ (wsL_law0_r42 ++ (wsL_law0_r43))))))))))))))))))))))))))))))))))))))))))), w ∈ lw_tbl := fun w h => (List.mem_append.mp h).elim (fun h => wsl_r1 w h) (fun h => (List.mem_append.mp h).elim (fun h => wsl_r2 w h) (fun h => (List.mem_append.mp h).elim (fun h => wsl_r3 w h) (fun h => (List.mem_append.mp h).elim (fun h => wsl_r4 w h) (fun h => (List.mem_append.mp h).elim (fun h => wsl_r5 w h) (fun h => (List.mem_append.mp h).elim (fun h => wsl_r6 w h) (fun h => (List.mem_append.mp h).elim (fun h => wsl_r7 w h) (fun h => (List.mem_append.mp h).elim (fun h => wsl_r8 w h) (fun h => (List.mem_append.mp h).elim (fun h => wsl_r9 w h) (fun h => (List.mem_append.mp h).elim (fun h => wsl_r10 w h) (fun h => (List.mem_append.mp h).elim (fun h => wsl_r11 w h) (fun h => (List.mem_append.mp h).elim (fun h => wsl_r12 w h) (fun h => (List.mem_append.mp h).elim (fun h => wsl_r13 w h) (fun h => (List.mem_append.mp h).elim (fun h => wsl_r14 w h) (fun h => (List.mem_append.mp h).elim (fun h => wsl_r15 w h) (fun h => (List.mem_append.mp h).elim (fun h => wsl_r16 w h) (fun h => (List.mem_append.mp h).elim (fun h => wsl_r17 w h) (fun h => (List.mem_append.mp h).elim (fun h => wsl_r18 w h) (fun h => (List.mem_append.mp h).elim (fun h => wsl_r19 w h) (fun h => (List.mem_append.mp h).elim (fun h => wsl_r20 w h) (fun h => (List.mem_append.mp h).elim (fun h => wsl_r21 w h) (fun h => (List.mem_append.mp h).elim (fun h => wsl_r22 w h) (fun h => (List.mem_append.mp h).elim (fun h => wsl_r23 w h) (fun h => (List.mem_append.mp h).elim (fun h => wsl_r24 w h) (fun h => (List.mem_append.mp h).elim (fun h => wsl_r25 w h) (fun h => (List.mem_append.mp h).elim (fun h => wsl_r26 w h) (fun h => (List.mem_append.mp h).elim (fun h => wsl_r27 w h) (fun h => (List.mem_append.mp h).elim (fun h => wsl_r28 w h) (fun h => (List.mem_append.mp h).elim (fun h => wsl_r29 w h) (fun h => (List.mem_append.mp h).elim (fun h => wsl_r30 w h) (fun h => (List.mem_append.mp h).elim (fun h => wsl_r31 w h) (fun h => (List.mem_append.mp h).elim (fun h => wsl_r32 w h) (fun h => (List.mem_append.mp h).elim (fun h => wsl_r33 w h) (fun h => (List.mem_append.mp h).elim (fun h => wsl_r34 w h) (fun h => (List.mem_append.mp h).elim (fun h => wsl_r35 w h) (fun h => (List.mem_append.mp h).elim (fun h => wsl_r36 w h) (fun h => (List.mem_append.mp h).elim (fun h => wsl_r37 w h) (fun h => (List.mem_append.mp h).elim (fun h => wsl_r38 w h) (fun h => (List.mem_append.mp h).elim (fun h => wsl_r39 w h) (fun h => (List.mem_append.mp h).elim (fun h => wsl_r40 w h) (fun h => (List.mem_append.mp h).elim (fun h => wsl_r41 w h) (fun h => (List.mem_append.mp h).elim (fun h => wsl_r42 w h) (fun h => wsl_r43 w h))))))))))))))))))))))))))))))))))))))))))
set_option maxRecDepth 20000 in
theorem inX3 : ∀ w ∈ wsX30, w ∈ lw_tbl := by decide +kernel
set_option maxRecDepth 20000 in
theorem inX4 : ∀ w ∈ wsX40, w ∈ lw_tbl := by decide +kernel
set_option maxRecDepth 20000 in
theorem inX1 : ∀ w ∈ wsX10, w ∈ lw_tbl := by decide +kernel
set_option maxRecDepth 20000 in
theorem inX2 : ∀ w ∈ wsX20, w ∈ lw_tbl := by decide +kernel
set_option maxRecDepth 20000 in
theorem inX5 : ∀ w ∈ wsX50, w ∈ lw_tbl := by decide +kernel
set_option maxRecDepth 20000 in
theorem inX8 : ∀ w ∈ wsX80, w ∈ lw_tbl := by decide +kernel
set_option maxRecDepth 20000 in
theorem inX7 : ∀ w ∈ wsX70, w ∈ lw_tbl := by decide +kernel
theorem wsL_law_in0 : ∀ w ∈ wsL_law0, w ∈ lw_tbl := fun w h => (List.mem_append.mp h).elim (fun h => (List.mem_append.mp h).elim (fun h => (List.mem_append.mp h).elim (fun h => (List.mem_append.mp h).elim (fun h => (List.mem_append.mp h).elim (fun h => (List.mem_append.mp h).elim (fun h => (List.mem_append.mp h).elim (fun h => (List.mem_append.mp h).elim (fun h => wsL_rows_in w h) (fun h => inX7 w h)) (fun h => inX8 w h)) (fun h => inX5 w h)) (fun h => inX2 w h)) (fun h => inX1 w h)) (fun h => inX4 w h)) (fun h => inX3 w h)) (fun h => absurd h List.not_mem_nil)
theorem wsL_law_x0 : ∀ w ∈ (vx_atS RX7 113 "java/lang/IndexOutOfBoundsException" ["java/lang/RuntimeException", "java/lang/Exception"]).filter goodWord, w ∈ lw_tbl := by decide +kernel
theorem wsL_law_x1 : ∀ w ∈ (vx_atS RX7 139 "java/lang/IllegalArgumentException" ["java/lang/RuntimeException", "java/lang/Exception"]).filter goodWord, w ∈ lw_tbl := by decide +kernel
theorem wsL_law_x2 : ∀ w ∈ (vx_atS RX7 189 "java/lang/IllegalStateException" ["java/lang/RuntimeException", "java/lang/Exception"]).filter goodWord, w ∈ lw_tbl := by decide +kernel
theorem wsL_law_in : ∀ w ∈ wsL_law, w ∈ lw_tbl := fun w h => (List.mem_append.mp h).elim (fun h => (List.mem_append.mp h).elim (fun h => (List.mem_append.mp h).elim (fun h => wsL_law_in0 w h) (fun h => wsL_law_x0 w h)) (fun h => wsL_law_x1 w h)) (fun h => wsL_law_x2 w h)
theorem inlX1 : ∀ w ∈ wsX10, w ∈ wsL_law := fun _ h => List.mem_append_left _ (List.mem_append_left _ (List.mem_append_left _ (List.mem_append_left _ (List.mem_append_left _ (List.mem_append_left _ (List.mem_append_right _ h))))))
theorem inlX2 : ∀ w ∈ wsX20, w ∈ wsL_law := fun _ h => List.mem_append_left _ (List.mem_append_left _ (List.mem_append_left _ (List.mem_append_left _ (List.mem_append_left _ (List.mem_append_left _ (List.mem_append_left _ (List.mem_append_right _ h)))))))
theorem inlX3 : ∀ w ∈ wsX30, w ∈ wsL_law := fun _ h => List.mem_append_left _ (List.mem_append_left _ (List.mem_append_left _ (List.mem_append_left _ (List.mem_append_right _ h))))
theorem inlX4 : ∀ w ∈ wsX40, w ∈ wsL_law := fun _ h => List.mem_append_left _ (List.mem_append_left _ (List.mem_append_left _ (List.mem_append_left _ (List.mem_append_left _ (List.mem_append_right _ h)))))
theorem inlX5 : ∀ w ∈ wsX50, w ∈ wsL_law := fun _ h => List.mem_append_left _ (List.mem_append_left _ (List.mem_append_left _ (List.mem_append_left _ (List.mem_append_left _ (List.mem_append_left _ (List.mem_append_left _ (List.mem_append_left _ (List.mem_append_right _ h))))))))
theorem inlX7 : ∀ w ∈ wsX70, w ∈ wsL_law := fun _ h => List.mem_append_left _ (List.mem_append_left _ (List.mem_append_left _ (List.mem_append_left _ (List.mem_append_left _ (List.mem_append_left _ (List.mem_append_left _ (List.mem_append_left _ (List.mem_append_left _ (List.mem_append_left _ (List.mem_append_right _ h))))))))))
theorem inlX8 : ∀ w ∈ wsX80, w ∈ wsL_law := fun _ h => List.mem_append_left _ (List.mem_append_left _ (List.mem_append_left _ (List.mem_append_left _ (List.mem_append_left _ (List.mem_append_left _ (List.mem_append_left _ (List.mem_append_left _ (List.mem_append_left _ (List.mem_append_right _ h)))))))))

