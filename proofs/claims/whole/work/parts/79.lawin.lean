/-- the tables in pieces -/
def tbCh : List (List Cond) := [k2_sels lw_privs, tables_1_1, tables_1_2, tables_1_3, tables_1_4, tables_1_5, tables_1_6, tables_1_7]
theorem tbCh_eq : lw_tbl = tbCh.flatten := by simp only [lw_tbl, tables_1, tbCh, List.flatten_cons, List.flatten_nil, List.append_assoc, List.append_nil]
theorem goodIn_t (ws : List Cond) (ps : List (Nat × Nat)) (hp : ws = ps.filterMap (fun q => (tbCh[q.1]?).bind (fun ch => ch[q.2]?))) : ∀ w ∈ ws, w ∈ lw_tbl := by
  intro w hw
  rw [hp] at hw
  obtain ⟨q, -, hq⟩ := List.mem_filterMap.mp hw
  obtain ⟨ch, h1, h2⟩ := Option.bind_eq_some_iff.mp hq
  rw [tbCh_eq]
  exact List.mem_flatten.mpr ⟨ch, List.mem_of_getElem? h1, List.mem_of_getElem? h2⟩
set_option maxRecDepth 20000 in
theorem wsL_in_r1 : ∀ w ∈ wsL_law0_r1, w ∈ lw_tbl := goodIn_t wsL_law0_r1 [(1, 24), (1, 25), (1, 1), (5, 30), (5, 31), (1, 12), (7, 9), (1, 26), (1, 27), (1, 28), (1, 29), (1, 30), (1, 31), (1, 32), (1, 33), (1, 2), (1, 46), (1, 47), (1, 3), (1, 55), (1, 56), (1, 4), (1, 65), (1, 66)] rfl
set_option maxRecDepth 20000 in
theorem wsL_in_r2 : ∀ w ∈ wsL_law0_r2, w ∈ lw_tbl := goodIn_t wsL_law0_r2 [(1, 5), (1, 74), (1, 75), (1, 6), (1, 83), (1, 84), (1, 7), (2, 29), (1, 92), (1, 93), (1, 8), (2, 30), (2, 31), (2, 32), (1, 212), (2, 34), (1, 214), (1, 10), (2, 5), (2, 35), (2, 7), (1, 11), (1, 187), (2, 36)] rfl
set_option maxRecDepth 20000 in
theorem wsL_in_r3 : ∀ w ∈ wsL_law0_r3, w ∈ lw_tbl := goodIn_t wsL_law0_r3 [(2, 37), (2, 38), (1, 34), (1, 35), (1, 36), (1, 37), (1, 38), (1, 40), (1, 48), (1, 49), (1, 50), (1, 51), (1, 57), (1, 58), (1, 59), (1, 60), (1, 67), (1, 68), (1, 69), (1, 70), (1, 76), (1, 77), (1, 78), (1, 79)] rfl
set_option maxRecDepth 20000 in
theorem wsL_in_r4 : ∀ w ∈ wsL_law0_r4, w ∈ lw_tbl := goodIn_t wsL_law0_r4 [(1, 85), (1, 86), (1, 87), (1, 88), (1, 94), (1, 95), (1, 96), (1, 97), (1, 98), (1, 188), (1, 197), (1, 199), (1, 100), (1, 9), (1, 101), (1, 102), (1, 103), (1, 104), (1, 147), (1, 149), (1, 105), (1, 215), (1, 216), (1, 217)] rfl
set_option maxRecDepth 20000 in
theorem wsL_in_r5 : ∀ w ∈ wsL_law0_r5, w ∈ lw_tbl := goodIn_t wsL_law0_r5 [(1, 218), (1, 219), (1, 230), (1, 221), (2, 8), (2, 9), (2, 10), (2, 11), (2, 18), (2, 14), (5, 32), (5, 33), (5, 34), (5, 35), (5, 38), (5, 39), (5, 40), (5, 45), (5, 46), (5, 48), (5, 50), (5, 51), (5, 52), (5, 53)] rfl
set_option maxRecDepth 20000 in
theorem wsL_in_r6 : ∀ w ∈ wsL_law0_r6, w ∈ lw_tbl := goodIn_t wsL_law0_r6 [(5, 54), (5, 55), (5, 56), (2, 63), (2, 64), (2, 65), (2, 66), (1, 225), (1, 227), (2, 67), (2, 69), (0, 0), (2, 70), (2, 71), (2, 73), (0, 1), (2, 74), (1, 220), (2, 75), (2, 76), (2, 77), (2, 78), (2, 79), (2, 80)] rfl
set_option maxRecDepth 20000 in
theorem wsL_in_r7 : ∀ w ∈ wsL_law0_r7, w ∈ lw_tbl := goodIn_t wsL_law0_r7 [(2, 81), (2, 82), (1, 13), (2, 83), (1, 229), (2, 84), (2, 85), (2, 86), (2, 87), (2, 89), (2, 90), (2, 91), (2, 93), (2, 94), (2, 95), (2, 96), (1, 191), (1, 194), (2, 97), (2, 98), (2, 99), (2, 100), (1, 108), (1, 111)] rfl
set_option maxRecDepth 20000 in
theorem wsL_in_r8 : ∀ w ∈ wsL_law0_r8, w ∈ lw_tbl := goodIn_t wsL_law0_r8 [(1, 115), (1, 121), (1, 125), (1, 129), (1, 135), (1, 138), (1, 141), (1, 145), (1, 153), (1, 155), (2, 101), (2, 102), (2, 103), (2, 104), (2, 105), (2, 106), (1, 193), (2, 107), (2, 108), (2, 109), (2, 110), (2, 111), (2, 112), (2, 114)] rfl
set_option maxRecDepth 20000 in
theorem wsL_in_r9 : ∀ w ∈ wsL_law0_r9, w ∈ lw_tbl := goodIn_t wsL_law0_r9 [(2, 115), (2, 116), (2, 117), (2, 118), (2, 119), (2, 120), (2, 121), (2, 122), (2, 123), (2, 124), (2, 125), (2, 126), (2, 127), (2, 128), (2, 129), (2, 130), (2, 131), (2, 133), (2, 134), (2, 135), (2, 136), (2, 137), (1, 190), (1, 196)] rfl
set_option maxRecDepth 20000 in
theorem wsL_in_r10 : ∀ w ∈ wsL_law0_r10, w ∈ lw_tbl := goodIn_t wsL_law0_r10 [(2, 138), (2, 139), (2, 140), (2, 141), (2, 142), (2, 143), (2, 144), (2, 145), (2, 147), (2, 148), (2, 149), (2, 150), (2, 151), (2, 152), (2, 153), (2, 154), (2, 155), (2, 156), (2, 157), (2, 158), (2, 159), (2, 160), (2, 161), (2, 162)] rfl
set_option maxRecDepth 20000 in
theorem wsL_in_r11 : ∀ w ∈ wsL_law0_r11, w ∈ lw_tbl := goodIn_t wsL_law0_r11 [(2, 163), (2, 164), (2, 165), (2, 166), (2, 167), (2, 168), (2, 169), (2, 170), (2, 171), (2, 172), (2, 174), (0, 2), (2, 175), (1, 137), (1, 132), (1, 107), (2, 176), (2, 179), (2, 180), (2, 177), (2, 193), (1, 136), (1, 113), (1, 127)] rfl
set_option maxRecDepth 20000 in
theorem wsL_in_r12 : ∀ w ∈ wsL_law0_r12, w ∈ lw_tbl := goodIn_t wsL_law0_r12 [(1, 131), (1, 117), (2, 176), (2, 178), (2, 181), (2, 182), (2, 183), (2, 177), (2, 184), (2, 185), (2, 186), (1, 124), (2, 187), (2, 188), (1, 14), (2, 189), (2, 194), (2, 195), (2, 197), (0, 3), (2, 198), (2, 199), (2, 201), (0, 4)] rfl
set_option maxRecDepth 20000 in
theorem wsL_in_r13 : ∀ w ∈ wsL_law0_r13, w ∈ lw_tbl := goodIn_t wsL_law0_r13 [(2, 202), (1, 151), (1, 128), (2, 203), (2, 204), (2, 205), (2, 206), (2, 207), (2, 208), (2, 209), (2, 210), (2, 211), (2, 212), (2, 213), (2, 214), (1, 123), (2, 215), (2, 218), (2, 216), (2, 219), (2, 220), (2, 221), (1, 119), (2, 222)] rfl
set_option maxRecDepth 20000 in
theorem wsL_in_r14 : ∀ w ∈ wsL_law0_r14, w ∈ lw_tbl := goodIn_t wsL_law0_r14 [(2, 223), (2, 224), (2, 225), (2, 237), (2, 215), (2, 216), (2, 217), (2, 226), (2, 227), (2, 228), (2, 229), (7, 10), (1, 82), (2, 230), (2, 231), (2, 232), (2, 233), (1, 109), (1, 120), (2, 235), (2, 234), (1, 73), (2, 236), (2, 238)] rfl
set_option maxRecDepth 20000 in
theorem wsL_in_r15 : ∀ w ∈ wsL_law0_r15, w ∈ lw_tbl := goodIn_t wsL_law0_r15 [(2, 239), (3, 0), (3, 1), (3, 2), (3, 4), (0, 5), (3, 5), (3, 6), (3, 9), (3, 10), (3, 7), (3, 17), (3, 6), (3, 8), (3, 11), (3, 7), (3, 12), (3, 13), (3, 14), (1, 133), (3, 15), (3, 16), (3, 18), (3, 19)] rfl
set_option maxRecDepth 20000 in
theorem wsL_in_r16 : ∀ w ∈ wsL_law0_r16, w ∈ lw_tbl := goodIn_t wsL_law0_r16 [(3, 20), (3, 21), (5, 103), (5, 104), (5, 105), (5, 106), (5, 43), (5, 44), (5, 107), (5, 108), (5, 109), (5, 110), (5, 111), (5, 112), (5, 113), (5, 115), (0, 16), (5, 116), (5, 117), (5, 119), (0, 17), (5, 120), (5, 121), (5, 123)] rfl
set_option maxRecDepth 20000 in
theorem wsL_in_r17 : ∀ w ∈ wsL_law0_r17, w ∈ lw_tbl := goodIn_t wsL_law0_r17 [(0, 18), (5, 124), (5, 36), (5, 37), (5, 125), (5, 127), (0, 19), (5, 128), (5, 129), (5, 131), (0, 20), (5, 132), (5, 133), (5, 135), (0, 21), (5, 136), (5, 137), (5, 139), (0, 22), (5, 140), (5, 141), (5, 142), (5, 143), (5, 144)] rfl
set_option maxRecDepth 20000 in
theorem wsL_in_r18 : ∀ w ∈ wsL_law0_r18, w ∈ lw_tbl := goodIn_t wsL_law0_r18 [(5, 146), (0, 23), (5, 147), (5, 148), (5, 150), (0, 24), (5, 151), (5, 152), (5, 154), (0, 25), (5, 155), (5, 156), (5, 158), (0, 26), (5, 159), (5, 160), (5, 162), (0, 27), (5, 163), (5, 164), (5, 166), (0, 28), (5, 167), (5, 168)] rfl
set_option maxRecDepth 20000 in
theorem wsL_in_r19 : ∀ w ∈ wsL_law0_r19, w ∈ lw_tbl := goodIn_t wsL_law0_r19 [(5, 170), (0, 29), (5, 171), (5, 172), (5, 174), (0, 30), (5, 175), (5, 41), (5, 42), (5, 209), (5, 176), (5, 178), (0, 31), (5, 179), (5, 180), (5, 182), (0, 32), (5, 183), (5, 184), (5, 186), (0, 33), (5, 187), (5, 188), (5, 190)] rfl
set_option maxRecDepth 20000 in
theorem wsL_in_r20 : ∀ w ∈ wsL_law0_r20, w ∈ lw_tbl := goodIn_t wsL_law0_r20 [(0, 34), (5, 191), (5, 192), (5, 194), (0, 35), (5, 195), (5, 208), (5, 196), (5, 198), (0, 36), (5, 199), (5, 200), (5, 202), (0, 37), (5, 203), (5, 204), (5, 206), (0, 38), (5, 207), (5, 210), (5, 212), (0, 39), (5, 213), (5, 214)] rfl
set_option maxRecDepth 20000 in
theorem wsL_in_r21 : ∀ w ∈ wsL_law0_r21, w ∈ lw_tbl := goodIn_t wsL_law0_r21 [(5, 216), (0, 40), (5, 217), (5, 218), (5, 220), (0, 41), (5, 221), (5, 222), (5, 224), (0, 42), (5, 225), (3, 22), (3, 23), (3, 24), (3, 25), (1, 189), (1, 106), (1, 39), (1, 110), (1, 112), (1, 116), (1, 122), (1, 126), (1, 130)] rfl
set_option maxRecDepth 20000 in
theorem wsL_in_r22 : ∀ w ∈ wsL_law0_r22, w ∈ lw_tbl := goodIn_t wsL_law0_r22 [(1, 134), (1, 144), (1, 139), (1, 142), (3, 26), (3, 27), (3, 28), (3, 28), (5, 226), (5, 227), (5, 228), (5, 229), (3, 29), (3, 30), (3, 31), (3, 32), (1, 148), (1, 150), (1, 152), (1, 154), (5, 230), (5, 231), (5, 232), (5, 233)] rfl
set_option maxRecDepth 20000 in
theorem wsL_in_r23 : ∀ w ∈ wsL_law0_r23, w ∈ lw_tbl := goodIn_t wsL_law0_r23 [(3, 33), (3, 34), (3, 35), (3, 36), (1, 192), (1, 222), (1, 224), (3, 37), (3, 38), (3, 40), (0, 6), (3, 41), (3, 42), (5, 234), (5, 235), (5, 236), (5, 237), (5, 238), (6, 0), (0, 43), (6, 1), (3, 43), (3, 44), (3, 45)] rfl
set_option maxRecDepth 20000 in
theorem wsL_in_r24 : ∀ w ∈ wsL_law0_r24, w ∈ lw_tbl := goodIn_t wsL_law0_r24 [(3, 46), (1, 195), (3, 47), (3, 48), (6, 2), (6, 3), (6, 4), (6, 5), (3, 49), (3, 50), (3, 51), (3, 52), (3, 53), (6, 6), (6, 7), (6, 8), (6, 9), (6, 10), (6, 12), (0, 44), (6, 13), (3, 54), (3, 55), (3, 56)] rfl
set_option maxRecDepth 20000 in
theorem wsL_in_r25 : ∀ w ∈ wsL_law0_r25, w ∈ lw_tbl := goodIn_t wsL_law0_r25 [(3, 57), (3, 58), (3, 59), (3, 60), (3, 61), (3, 62), (3, 63), (3, 64), (3, 65), (3, 66), (3, 67), (1, 140), (6, 14), (6, 15), (6, 16), (6, 17), (6, 18), (6, 20), (0, 45), (6, 21), (3, 68), (3, 69), (3, 70), (3, 71)] rfl
set_option maxRecDepth 20000 in
theorem wsL_in_r26 : ∀ w ∈ wsL_law0_r26, w ∈ lw_tbl := goodIn_t wsL_law0_r26 [(3, 72), (3, 73), (3, 74), (3, 75), (6, 22), (6, 23), (6, 24), (6, 25), (6, 26), (6, 28), (0, 46), (6, 29), (6, 30), (6, 32), (0, 47), (6, 33), (6, 34), (6, 36), (0, 48), (6, 37), (3, 76), (3, 77), (3, 78), (3, 79)] rfl
set_option maxRecDepth 20000 in
theorem wsL_in_r27 : ∀ w ∈ wsL_law0_r27, w ∈ lw_tbl := goodIn_t wsL_law0_r27 [(1, 198), (1, 200), (6, 38), (6, 39), (6, 40), (6, 41), (3, 80), (3, 81), (3, 82), (3, 83), (3, 84), (3, 85), (3, 86), (3, 87), (1, 146), (3, 88), (3, 89), (3, 90), (3, 91), (3, 92), (6, 42), (6, 43), (6, 44), (6, 45)] rfl
set_option maxRecDepth 20000 in
theorem wsL_in_r28 : ∀ w ∈ wsL_law0_r28, w ∈ lw_tbl := goodIn_t wsL_law0_r28 [(6, 46), (6, 48), (0, 49), (6, 49), (3, 93), (3, 94), (3, 95), (3, 96), (3, 97), (3, 99), (0, 7), (3, 100), (3, 101), (3, 103), (0, 8), (3, 104), (3, 105), (3, 107), (0, 9), (3, 108), (6, 50), (6, 51), (6, 52), (6, 53)] rfl
set_option maxRecDepth 20000 in
theorem wsL_in_r29 : ∀ w ∈ wsL_law0_r29, w ∈ lw_tbl := goodIn_t wsL_law0_r29 [(6, 54), (6, 56), (0, 50), (6, 57), (3, 109), (3, 110), (3, 111), (3, 112), (6, 58), (6, 59), (6, 60), (6, 61), (3, 113), (3, 114), (3, 115), (3, 116), (3, 117), (6, 62), (6, 63), (6, 64), (6, 65), (3, 118), (3, 119), (3, 120)] rfl
set_option maxRecDepth 20000 in
theorem wsL_in_r30 : ∀ w ∈ wsL_law0_r30, w ∈ lw_tbl := goodIn_t wsL_law0_r30 [(3, 121), (3, 122), (3, 123), (3, 124), (3, 125), (1, 118), (1, 114), (6, 66), (6, 67), (6, 68), (6, 69), (6, 70), (6, 72), (0, 51), (6, 73), (3, 126), (3, 127), (3, 128), (3, 129), (3, 130), (6, 74), (6, 75), (6, 76), (6, 77)] rfl
set_option maxRecDepth 20000 in
theorem wsL_in_r31 : ∀ w ∈ wsL_law0_r31, w ∈ lw_tbl := goodIn_t wsL_law0_r31 [(3, 131), (3, 132), (3, 133), (3, 134), (6, 78), (6, 79), (6, 80), (6, 81), (3, 135), (3, 136), (3, 137), (3, 138), (6, 82), (6, 83), (6, 84), (6, 85), (3, 139), (3, 140), (3, 141), (3, 142), (3, 143), (6, 86), (6, 87), (6, 88)] rfl
set_option maxRecDepth 20000 in
theorem wsL_in_r32 : ∀ w ∈ wsL_law0_r32, w ∈ lw_tbl := goodIn_t wsL_law0_r32 [(6, 89), (6, 90), (6, 92), (0, 52), (6, 93), (3, 144), (3, 145), (3, 146), (3, 147), (3, 148), (6, 94), (6, 95), (6, 96), (6, 97), (3, 149), (3, 150), (3, 151), (3, 152), (3, 153), (3, 155), (0, 10), (3, 156), (3, 157), (3, 158)] rfl
set_option maxRecDepth 20000 in
theorem wsL_in_r33 : ∀ w ∈ wsL_law0_r33, w ∈ lw_tbl := goodIn_t wsL_law0_r33 [(3, 159), (3, 160), (1, 226), (3, 162), (3, 161), (6, 98), (6, 99), (6, 100), (6, 101), (6, 102), (6, 104), (0, 53), (6, 105), (6, 106), (6, 108), (0, 54), (6, 109), (6, 110), (3, 163), (3, 164), (3, 165), (3, 166), (3, 167), (3, 168)] rfl
set_option maxRecDepth 20000 in
theorem wsL_in_r34 : ∀ w ∈ wsL_law0_r34, w ∈ lw_tbl := goodIn_t wsL_law0_r34 [(3, 170), (0, 11), (3, 171), (6, 111), (6, 112), (6, 113), (6, 114), (6, 115), (6, 117), (0, 55), (6, 118), (3, 172), (3, 173), (3, 174), (3, 175), (3, 176), (3, 177), (3, 179), (0, 12), (3, 180), (3, 181), (3, 182), (1, 15), (3, 183)] rfl
set_option maxRecDepth 20000 in
theorem wsL_in_r35 : ∀ w ∈ wsL_law0_r35, w ∈ lw_tbl := goodIn_t wsL_law0_r35 [(3, 184), (3, 185), (3, 186), (3, 187), (3, 188), (3, 189), (3, 190), (3, 191), (3, 192), (6, 119), (6, 120), (6, 121), (6, 122), (6, 123), (6, 124), (6, 125), (6, 126), (3, 193), (3, 194), (3, 195), (3, 196), (6, 127), (6, 128), (6, 129)] rfl
set_option maxRecDepth 20000 in
theorem wsL_in_r36 : ∀ w ∈ wsL_law0_r36, w ∈ lw_tbl := goodIn_t wsL_law0_r36 [(6, 130), (3, 197), (3, 198), (3, 199), (3, 200), (3, 201), (3, 202), (3, 203), (3, 204), (6, 131), (6, 132), (6, 133), (6, 134), (6, 140), (6, 135), (6, 137), (0, 56), (6, 138), (6, 139), (3, 205), (3, 206), (3, 207), (3, 208), (3, 209)] rfl
set_option maxRecDepth 20000 in
theorem wsL_in_r37 : ∀ w ∈ wsL_law0_r37, w ∈ lw_tbl := goodIn_t wsL_law0_r37 [(3, 210), (3, 211), (3, 212), (3, 213), (6, 141), (6, 142), (6, 143), (6, 144), (6, 145), (6, 146), (6, 147), (3, 214), (3, 215), (3, 216), (3, 217), (6, 148), (6, 149), (6, 150), (6, 151), (3, 218), (3, 219), (3, 220), (3, 221), (6, 152)] rfl
set_option maxRecDepth 20000 in
theorem wsL_in_r38 : ∀ w ∈ wsL_law0_r38, w ∈ lw_tbl := goodIn_t wsL_law0_r38 [(6, 153), (6, 154), (6, 155), (3, 222), (3, 223), (3, 224), (3, 225), (2, 39), (3, 226), (3, 228), (0, 13), (3, 229), (3, 230), (3, 232), (0, 14), (3, 233), (3, 234), (3, 235), (3, 236), (3, 237), (3, 238), (3, 239), (1, 143), (6, 156)] rfl
set_option maxRecDepth 20000 in
theorem wsL_in_r39 : ∀ w ∈ wsL_law0_r39, w ∈ lw_tbl := goodIn_t wsL_law0_r39 [(6, 157), (6, 158), (6, 159), (5, 49), (6, 160), (6, 162), (0, 57), (6, 163), (6, 164), (6, 166), (0, 58), (6, 167), (6, 168), (6, 170), (0, 59), (6, 171), (6, 172), (6, 173), (6, 174), (4, 0), (4, 1), (4, 2), (4, 3), (2, 33)] rfl
set_option maxRecDepth 20000 in
theorem wsL_in_r40 : ∀ w ∈ wsL_law0_r40, w ∈ lw_tbl := goodIn_t wsL_law0_r40 [(6, 175), (6, 176), (6, 177), (6, 178), (5, 47), (4, 4), (4, 5), (4, 6), (4, 7), (6, 179), (6, 180), (6, 181), (6, 182), (4, 8), (4, 9), (4, 10), (4, 11), (4, 12), (4, 13), (4, 14), (4, 15), (4, 16), (6, 183), (6, 184)] rfl
set_option maxRecDepth 20000 in
theorem wsL_in_r41 : ∀ w ∈ wsL_law0_r41, w ∈ lw_tbl := goodIn_t wsL_law0_r41 [(6, 185), (6, 186), (6, 187), (6, 189), (0, 60), (6, 190), (4, 17), (4, 18), (4, 19), (4, 20), (4, 21), (4, 22), (4, 23), (4, 24), (4, 25), (4, 26), (4, 27), (2, 12), (2, 16), (4, 28), (4, 29), (1, 16), (4, 30), (6, 191)] rfl
set_option maxRecDepth 20000 in
theorem wsL_in_r42 : ∀ w ∈ wsL_law0_r42, w ∈ lw_tbl := goodIn_t wsL_law0_r42 [(6, 192), (6, 193), (6, 194), (6, 195), (6, 196), (6, 197), (4, 31), (4, 32), (4, 33), (4, 34), (2, 13), (2, 19), (2, 15), (4, 35), (4, 36), (4, 37), (4, 38), (4, 40), (4, 43), (4, 44), (4, 41), (4, 49), (4, 40), (4, 42)] rfl
set_option maxRecDepth 20000 in
theorem wsL_in_r43 : ∀ w ∈ wsL_law0_r43, w ∈ lw_tbl := goodIn_t wsL_law0_r43 [(4, 45), (4, 46), (4, 47), (4, 48), (6, 198), (6, 199), (6, 200), (6, 201), (6, 202), (6, 203), (6, 204), (4, 50), (4, 51), (4, 52), (4, 53), (6, 205), (6, 206), (6, 207), (6, 208), (4, 54), (4, 55), (4, 56), (4, 57), (2, 17)] rfl
set_option maxRecDepth 20000 in
theorem wsL_in_r44 : ∀ w ∈ wsL_law0_r44, w ∈ lw_tbl := goodIn_t wsL_law0_r44 [(4, 58), (4, 59), (4, 60), (4, 61), (4, 62), (4, 64), (4, 63), (1, 17), (6, 209), (6, 210), (6, 211), (6, 212), (4, 65), (4, 66), (4, 67), (4, 68), (4, 69), (4, 70), (4, 71), (4, 72), (1, 223), (6, 213), (6, 214), (6, 215)] rfl
set_option maxRecDepth 20000 in
theorem wsL_in_r45 : ∀ w ∈ wsL_law0_r45, w ∈ lw_tbl := goodIn_t wsL_law0_r45 [(6, 216), (4, 73), (4, 74), (4, 75), (4, 76), (4, 77), (4, 78), (4, 79), (4, 80), (1, 228), (4, 81), (6, 217), (6, 218), (6, 219), (6, 220), (4, 82), (4, 83), (4, 84), (4, 85), (4, 86), (4, 87), (4, 88), (4, 89), (4, 90)] rfl
set_option maxRecDepth 20000 in
theorem wsL_in_r46 : ∀ w ∈ wsL_law0_r46, w ∈ lw_tbl := goodIn_t wsL_law0_r46 [(4, 91), (4, 92), (4, 93), (6, 221), (6, 222), (6, 223), (6, 224), (5, 2), (5, 3), (1, 0), (5, 4), (5, 5), (5, 6), (5, 7), (5, 8), (5, 9), (5, 10), (4, 130), (1, 21), (4, 129), (1, 22), (6, 229), (6, 230), (6, 231)] rfl
set_option maxRecDepth 20000 in
theorem wsL_in_r47 : ∀ w ∈ wsL_law0_r47, w ∈ lw_tbl := goodIn_t wsL_law0_r47 [(6, 232), (5, 57), (6, 225), (6, 226), (6, 227), (6, 228), (4, 94), (4, 95), (4, 96), (4, 97), (1, 231), (4, 98), (6, 233), (6, 234), (6, 235), (6, 236), (4, 99), (4, 100), (4, 101), (4, 102), (4, 103), (4, 106), (4, 104), (4, 107)] rfl
set_option maxRecDepth 20000 in
theorem wsL_in_r48 : ∀ w ∈ wsL_law0_r48, w ∈ lw_tbl := goodIn_t wsL_law0_r48 [(4, 108), (4, 109), (4, 124), (4, 103), (4, 104), (4, 105), (4, 110), (4, 111), (4, 112), (4, 113), (4, 114), (4, 115), (4, 116), (4, 117), (4, 118), (4, 119), (7, 11), (4, 120), (4, 121), (4, 122), (4, 123), (7, 12), (1, 91), (6, 237)] rfl
set_option maxRecDepth 20000 in
theorem wsL_in_r49 : ∀ w ∈ wsL_law0_r49, w ∈ lw_tbl := goodIn_t wsL_law0_r49 [(6, 238), (6, 239), (7, 0), (7, 1), (7, 3), (0, 61), (7, 4), (4, 125), (4, 126), (4, 127), (4, 128), (4, 131), (4, 132), (4, 135), (4, 133), (4, 136), (4, 137), (4, 138), (4, 139), (4, 226), (4, 132), (4, 133), (4, 134), (4, 227)] rfl
set_option maxRecDepth 20000 in
theorem wsL_in_r50 : ∀ w ∈ wsL_law0_r50, w ∈ lw_tbl := goodIn_t wsL_law0_r50 [(4, 203), (4, 204), (4, 205), (4, 206), (4, 207), (4, 208), (4, 209), (4, 210), (4, 211), (1, 23), (7, 5), (7, 6), (7, 7), (7, 8)] rfl
set_option maxRecDepth 20000 in
theorem wsL_in_wsX110 : ∀ w ∈ wsX110, w ∈ lw_tbl := by decide +kernel
set_option maxRecDepth 20000 in
theorem wsL_in_wsX120 : ∀ w ∈ wsX120, w ∈ lw_tbl := by decide +kernel
set_option maxRecDepth 20000 in
theorem wsL_in_wsX10 : ∀ w ∈ wsX10, w ∈ lw_tbl := by decide +kernel
set_option maxRecDepth 20000 in
theorem wsL_in_wsX00 : ∀ w ∈ wsX00, w ∈ lw_tbl := by decide +kernel
set_option maxRecDepth 20000 in
theorem wsL_in_wsX40 : ∀ w ∈ wsX40, w ∈ lw_tbl := by decide +kernel
set_option maxRecDepth 20000 in
theorem wsL_in_wsX70 : ∀ w ∈ wsX70, w ∈ lw_tbl := by decide +kernel
set_option maxRecDepth 20000 in
theorem wsL_in_wsX20 : ∀ w ∈ wsX20, w ∈ lw_tbl := by decide +kernel
set_option maxRecDepth 20000 in
theorem wsL_in_wsX90 : ∀ w ∈ wsX90, w ∈ lw_tbl := by decide +kernel
set_option maxRecDepth 20000 in
theorem wsL_in_wsX30 : ∀ w ∈ wsX30, w ∈ lw_tbl := by decide +kernel
set_option maxRecDepth 20000 in
theorem wsL_in_wsX60 : ∀ w ∈ wsX60, w ∈ lw_tbl := by decide +kernel
set_option maxRecDepth 20000 in
theorem wsL_in_wsX100 : ∀ w ∈ wsX100, w ∈ lw_tbl := by decide +kernel
set_option maxRecDepth 20000 in
theorem wsL_in_wsX50 : ∀ w ∈ wsX50, w ∈ lw_tbl := by decide +kernel
theorem wsL_app {a b c : List Cond} (ha : ∀ w ∈ a, w ∈ c) (hb : ∀ w ∈ b, w ∈ c) : ∀ w ∈ a ++ b, w ∈ c := fun w h => (List.mem_append.mp h).elim (ha w) (hb w)
theorem wsL_law_in0 : ∀ w ∈ wsL_law0, w ∈ lw_tbl := (wsL_app (wsL_app (wsL_app (wsL_app (wsL_app (wsL_app (wsL_app (wsL_app (wsL_app (wsL_app (wsL_app (wsL_app (wsL_app (wsL_app wsL_in_r1 (wsL_app wsL_in_r2 (wsL_app wsL_in_r3 (wsL_app wsL_in_r4 (wsL_app wsL_in_r5 (wsL_app wsL_in_r6 (wsL_app wsL_in_r7 (wsL_app wsL_in_r8 (wsL_app wsL_in_r9 (wsL_app wsL_in_r10 (wsL_app wsL_in_r11 (wsL_app wsL_in_r12 (wsL_app wsL_in_r13 (wsL_app wsL_in_r14 (wsL_app wsL_in_r15 (wsL_app wsL_in_r16 (wsL_app wsL_in_r17 (wsL_app wsL_in_r18 (wsL_app wsL_in_r19 (wsL_app wsL_in_r20 (wsL_app wsL_in_r21 (wsL_app wsL_in_r22 (wsL_app wsL_in_r23 (wsL_app wsL_in_r24 (wsL_app wsL_in_r25 (wsL_app wsL_in_r26 (wsL_app wsL_in_r27 (wsL_app wsL_in_r28 (wsL_app wsL_in_r29 (wsL_app wsL_in_r30 (wsL_app wsL_in_r31 (wsL_app wsL_in_r32 (wsL_app wsL_in_r33 (wsL_app wsL_in_r34 (wsL_app wsL_in_r35 (wsL_app wsL_in_r36 (wsL_app wsL_in_r37 (wsL_app wsL_in_r38 (wsL_app wsL_in_r39 (wsL_app wsL_in_r40 (wsL_app wsL_in_r41 (wsL_app wsL_in_r42 (wsL_app wsL_in_r43 (wsL_app wsL_in_r44 (wsL_app wsL_in_r45 (wsL_app wsL_in_r46 (wsL_app wsL_in_r47 (wsL_app wsL_in_r48 (wsL_app wsL_in_r49 wsL_in_r50))))))))))))))))))))))))))))))))))))))))))))))))) wsL_in_wsX110) wsL_in_wsX120) wsL_in_wsX10) wsL_in_wsX00) wsL_in_wsX40) wsL_in_wsX70) wsL_in_wsX20) wsL_in_wsX90) wsL_in_wsX30) wsL_in_wsX60) wsL_in_wsX100) wsL_in_wsX50) (fun _ h => absurd h List.not_mem_nil))
theorem wsL_law_x0 : ∀ w ∈ (vx_atS RX11 377 "java/lang/IllegalArgumentException" ["java/lang/RuntimeException", "java/lang/Exception"]).filter goodWord, w ∈ lw_tbl := by decide +kernel
theorem wsL_law_x1 : ∀ w ∈ (vx_atS RX11 384 "java/lang/IllegalStateException" ["java/lang/RuntimeException", "java/lang/Exception"]).filter goodWord, w ∈ lw_tbl := by decide +kernel
theorem wsL_law_x2 : ∀ w ∈ (vx_at0 RX0 26 "java/lang/IllegalArgumentException" ["java/lang/RuntimeException", "java/lang/Exception"]).filter goodWord, w ∈ lw_tbl := by decide +kernel
theorem wsL_law_x3 : ∀ w ∈ (vx_at0 RX1 38 "java/lang/IllegalStateException" ["java/lang/RuntimeException", "java/lang/Exception"]).filter goodWord, w ∈ lw_tbl := by decide +kernel
theorem wsL_law_x4 : ∀ w ∈ (vx_at0 RX9 29 "java/lang/UnsupportedOperationException" ["java/lang/RuntimeException", "java/lang/Exception"]).filter goodWord, w ∈ lw_tbl := by decide +kernel
theorem wsL_law_in : ∀ w ∈ wsL_law, w ∈ lw_tbl := fun w h => (List.mem_append.mp h).elim (fun h => (List.mem_append.mp h).elim (fun h => (List.mem_append.mp h).elim (fun h => (List.mem_append.mp h).elim (fun h => (List.mem_append.mp h).elim (fun h => wsL_law_in0 w h) (fun h => wsL_law_x0 w h)) (fun h => wsL_law_x1 w h)) (fun h => wsL_law_x2 w h)) (fun h => wsL_law_x3 w h)) (fun h => wsL_law_x4 w h)
theorem inlX0 : ∀ w ∈ wsX00, w ∈ wsL_law := fun _ h => List.mem_append_left _ (List.mem_append_left _ (List.mem_append_left _ (List.mem_append_left _ (List.mem_append_left _ (List.mem_append_left _ (List.mem_append_left _ (List.mem_append_left _ (List.mem_append_left _ (List.mem_append_left _ (List.mem_append_left _ (List.mem_append_left _ (List.mem_append_left _ (List.mem_append_left _ (List.mem_append_right _ h))))))))))))))
theorem inlX1 : ∀ w ∈ wsX10, w ∈ wsL_law := fun _ h => List.mem_append_left _ (List.mem_append_left _ (List.mem_append_left _ (List.mem_append_left _ (List.mem_append_left _ (List.mem_append_left _ (List.mem_append_left _ (List.mem_append_left _ (List.mem_append_left _ (List.mem_append_left _ (List.mem_append_left _ (List.mem_append_left _ (List.mem_append_left _ (List.mem_append_left _ (List.mem_append_left _ (List.mem_append_right _ h)))))))))))))))
theorem inlX2 : ∀ w ∈ wsX20, w ∈ wsL_law := fun _ h => List.mem_append_left _ (List.mem_append_left _ (List.mem_append_left _ (List.mem_append_left _ (List.mem_append_left _ (List.mem_append_left _ (List.mem_append_left _ (List.mem_append_left _ (List.mem_append_left _ (List.mem_append_left _ (List.mem_append_left _ (List.mem_append_right _ h)))))))))))
theorem inlX3 : ∀ w ∈ wsX30, w ∈ wsL_law := fun _ h => List.mem_append_left _ (List.mem_append_left _ (List.mem_append_left _ (List.mem_append_left _ (List.mem_append_left _ (List.mem_append_left _ (List.mem_append_left _ (List.mem_append_left _ (List.mem_append_left _ (List.mem_append_right _ h)))))))))
theorem inlX4 : ∀ w ∈ wsX40, w ∈ wsL_law := fun _ h => List.mem_append_left _ (List.mem_append_left _ (List.mem_append_left _ (List.mem_append_left _ (List.mem_append_left _ (List.mem_append_left _ (List.mem_append_left _ (List.mem_append_left _ (List.mem_append_left _ (List.mem_append_left _ (List.mem_append_left _ (List.mem_append_left _ (List.mem_append_left _ (List.mem_append_right _ h)))))))))))))
theorem inlX5 : ∀ w ∈ wsX50, w ∈ wsL_law := fun _ h => List.mem_append_left _ (List.mem_append_left _ (List.mem_append_left _ (List.mem_append_left _ (List.mem_append_left _ (List.mem_append_left _ (List.mem_append_right _ h))))))
theorem inlX6 : ∀ w ∈ wsX60, w ∈ wsL_law := fun _ h => List.mem_append_left _ (List.mem_append_left _ (List.mem_append_left _ (List.mem_append_left _ (List.mem_append_left _ (List.mem_append_left _ (List.mem_append_left _ (List.mem_append_left _ (List.mem_append_right _ h))))))))
theorem inlX7 : ∀ w ∈ wsX70, w ∈ wsL_law := fun _ h => List.mem_append_left _ (List.mem_append_left _ (List.mem_append_left _ (List.mem_append_left _ (List.mem_append_left _ (List.mem_append_left _ (List.mem_append_left _ (List.mem_append_left _ (List.mem_append_left _ (List.mem_append_left _ (List.mem_append_left _ (List.mem_append_left _ (List.mem_append_right _ h))))))))))))
theorem inlX9 : ∀ w ∈ wsX90, w ∈ wsL_law := fun _ h => List.mem_append_left _ (List.mem_append_left _ (List.mem_append_left _ (List.mem_append_left _ (List.mem_append_left _ (List.mem_append_left _ (List.mem_append_left _ (List.mem_append_left _ (List.mem_append_left _ (List.mem_append_left _ (List.mem_append_right _ h))))))))))
theorem inlX10 : ∀ w ∈ wsX100, w ∈ wsL_law := fun _ h => List.mem_append_left _ (List.mem_append_left _ (List.mem_append_left _ (List.mem_append_left _ (List.mem_append_left _ (List.mem_append_left _ (List.mem_append_left _ (List.mem_append_right _ h)))))))
theorem inlX11 : ∀ w ∈ wsX110, w ∈ wsL_law := fun _ h => List.mem_append_left _ (List.mem_append_left _ (List.mem_append_left _ (List.mem_append_left _ (List.mem_append_left _ (List.mem_append_left _ (List.mem_append_left _ (List.mem_append_left _ (List.mem_append_left _ (List.mem_append_left _ (List.mem_append_left _ (List.mem_append_left _ (List.mem_append_left _ (List.mem_append_left _ (List.mem_append_left _ (List.mem_append_left _ (List.mem_append_left _ (List.mem_append_right _ h)))))))))))))))))
theorem inlX12 : ∀ w ∈ wsX120, w ∈ wsL_law := fun _ h => List.mem_append_left _ (List.mem_append_left _ (List.mem_append_left _ (List.mem_append_left _ (List.mem_append_left _ (List.mem_append_left _ (List.mem_append_left _ (List.mem_append_left _ (List.mem_append_left _ (List.mem_append_left _ (List.mem_append_left _ (List.mem_append_left _ (List.mem_append_left _ (List.mem_append_left _ (List.mem_append_left _ (List.mem_append_left _ (List.mem_append_right _ h))))))))))))))))

/-- the law's words in pieces -/
def lwCh : List (List Cond) := [wsL_law0_r1, wsL_law0_r2, wsL_law0_r3, wsL_law0_r4, wsL_law0_r5, wsL_law0_r6, wsL_law0_r7, wsL_law0_r8, wsL_law0_r9, wsL_law0_r10, wsL_law0_r11, wsL_law0_r12, wsL_law0_r13, wsL_law0_r14, wsL_law0_r15, wsL_law0_r16, wsL_law0_r17, wsL_law0_r18, wsL_law0_r19, wsL_law0_r20, wsL_law0_r21, wsL_law0_r22, wsL_law0_r23, wsL_law0_r24, wsL_law0_r25, wsL_law0_r26, wsL_law0_r27, wsL_law0_r28, wsL_law0_r29, wsL_law0_r30, wsL_law0_r31, wsL_law0_r32, wsL_law0_r33, wsL_law0_r34, wsL_law0_r35, wsL_law0_r36, wsL_law0_r37, wsL_law0_r38, wsL_law0_r39, wsL_law0_r40, wsL_law0_r41, wsL_law0_r42, wsL_law0_r43, wsL_law0_r44, wsL_law0_r45, wsL_law0_r46, wsL_law0_r47, wsL_law0_r48, wsL_law0_r49, wsL_law0_r50, wsX110, wsX120, wsX10, wsX00, wsX40, wsX70, wsX20, wsX90, wsX30, wsX60, wsX100, wsX50]
theorem lwCh_eq : wsL_law0 = lwCh.flatten := by simp only [wsL_law0, lwCh, List.flatten_cons, List.flatten_nil, List.append_assoc, List.append_nil]
theorem lwL_in0 : ∀ w ∈ wsL_law0, w ∈ wsL_law := fun _ h => List.mem_append_left _ (List.mem_append_left _ (List.mem_append_left _ (List.mem_append_left _ (List.mem_append_left _ h))))
theorem goodIn_c (ws : List Cond) (ps : List (Nat × Nat)) (hp : ws = ps.filterMap (fun q => (lwCh[q.1]?).bind (fun ch => ch[q.2]?))) (h : ws.all goodWord = true) : GoodIn wsL_law ws := by
  intro w hw
  have h1 := List.all_eq_true.mp h w hw
  rw [hp] at hw
  obtain ⟨q, -, hq⟩ := List.mem_filterMap.mp hw
  obtain ⟨ch, g1, g2⟩ := Option.bind_eq_some_iff.mp hq
  exact ⟨lwL_in0 w (by rw [lwCh_eq]; exact List.mem_flatten.mpr ⟨ch, List.mem_of_getElem? g1, List.mem_of_getElem? g2⟩), good_of_word h1⟩
