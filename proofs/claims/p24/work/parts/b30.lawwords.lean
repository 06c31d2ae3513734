theorem sub_r {big ws : List Cond} (ps : List Nat) (hp : ws = ps.filterMap (fun i => big[i]?)) : ∀ w ∈ ws, w ∈ big := by
  intro w hw
  rw [hp] at hw
  obtain ⟨i, -, hi⟩ := List.mem_filterMap.mp hw
  first | exact List.mem_of_getElem? hi | exact List.getElem?_mem hi
def lw_ch : Nat → List Cond := fun j => match j with
  | 0 => k2_sels lw_privs
  | 1 => tables_1_1
  | 2 => tables_1_2
  | 3 => tables_1_3
  | 4 => tables_1_4
  | 5 => tables_1_5
  | 6 => tables_1_6
  | _ => tables_1_7
theorem lw_ch_in {w : Cond} : ∀ j, w ∈ lw_ch j → w ∈ lw_tbl := by
  intro j h
  unfold lw_tbl tables_1
  match j, h with
  | 0, h => exact List.mem_append_left _ h
  | 1, h => exact List.mem_append_right _ (List.mem_append_left _ h)
  | 2, h => exact List.mem_append_right _ (List.mem_append_right _ (List.mem_append_left _ h))
  | 3, h => exact List.mem_append_right _ (List.mem_append_right _ (List.mem_append_right _ (List.mem_append_left _ h)))
  | 4, h => exact List.mem_append_right _ (List.mem_append_right _ (List.mem_append_right _ (List.mem_append_right _ (List.mem_append_left _ h))))
  | 5, h => exact List.mem_append_right _ (List.mem_append_right _ (List.mem_append_right _ (List.mem_append_right _ (List.mem_append_right _ (List.mem_append_left _ h)))))
  | 6, h => exact List.mem_append_right _ (List.mem_append_right _ (List.mem_append_right _ (List.mem_append_right _ (List.mem_append_right _ (List.mem_append_right _ (List.mem_append_left _ h))))))
  | j + 7, h => exact List.mem_append_right _ (List.mem_append_right _ (List.mem_append_right _ (List.mem_append_right _ (List.mem_append_right _ (List.mem_append_right _ (List.mem_append_right _ h))))))
theorem sub_t {ws : List Cond} (ps : List (Nat × Nat)) (hp : ws = ps.filterMap (fun q => (lw_ch q.1)[q.2]?)) : ∀ w ∈ ws, w ∈ lw_tbl := by
  intro w hw
  rw [hp] at hw
  obtain ⟨q, -, hq⟩ := List.mem_filterMap.mp hw
  first | exact lw_ch_in q.1 (List.mem_of_getElem? hq) | exact lw_ch_in q.1 (List.getElem?_mem hq)
set_option maxRecDepth 100000 in
theorem in_wsL_law0_r1 : ∀ w ∈ wsL_law0_r1, w ∈ lw_tbl := sub_t [(1, 23), (1, 24), (1, 1), (5, 94), (5, 95), (1, 14), (1, 128), (7, 197), (1, 25), (1, 26), (1, 27), (1, 28), (1, 29), (1, 30), (1, 31), (1, 32), (1, 2), (2, 120), (1, 129), (1, 130), (1, 7), (2, 121), (2, 122), (1, 211)] rfl
set_option maxRecDepth 100000 in
theorem in_wsL_law0_r2 : ∀ w ∈ wsL_law0_r2, w ∈ lw_tbl := sub_t [(1, 212), (1, 9), (2, 123), (2, 124), (1, 231), (1, 232), (1, 10), (2, 125), (2, 126), (2, 50), (2, 51), (1, 11), (2, 127), (2, 71), (2, 72), (1, 12), (2, 128), (2, 91), (2, 129), (2, 93), (1, 13), (1, 33), (1, 34), (1, 35)] rfl
set_option maxRecDepth 100000 in
theorem in_wsL_law0_r3 : ∀ w ∈ wsL_law0_r3, w ∈ lw_tbl := sub_t [(1, 36), (1, 127), (1, 93), (1, 94), (1, 38), (1, 39), (1, 40), (1, 3), (1, 41), (7, 212), (1, 42), (1, 43), (1, 44), (1, 45), (1, 46), (7, 213), (1, 48), (1, 49), (1, 50), (1, 51), (1, 52), (1, 53), (1, 54), (1, 55)] rfl
set_option maxRecDepth 100000 in
theorem in_wsL_law0_r4 : ∀ w ∈ wsL_law0_r4, w ∈ lw_tbl := sub_t [(1, 56), (1, 57), (1, 4), (1, 58), (1, 59), (1, 60), (1, 61), (1, 62), (1, 64), (1, 65), (1, 5), (1, 66), (1, 67), (1, 68), (1, 6), (1, 69), (1, 70), (1, 71), (1, 72), (1, 73), (1, 74), (1, 75), (1, 76), (1, 77)] rfl
set_option maxRecDepth 100000 in
theorem in_wsL_law0_r5 : ∀ w ∈ wsL_law0_r5, w ∈ lw_tbl := sub_t [(1, 78), (1, 79), (1, 80), (1, 82), (1, 84), (1, 86), (1, 87), (1, 88), (1, 89), (1, 90), (1, 91), (1, 92), (1, 132), (1, 133), (1, 134), (1, 158), (1, 157), (1, 159), (1, 162), (1, 164), (1, 166), (1, 169), (1, 135), (1, 136)] rfl
set_option maxRecDepth 100000 in
theorem in_wsL_law0_r6 : ∀ w ∈ wsL_law0_r6, w ∈ lw_tbl := sub_t [(1, 8), (1, 170), (1, 176), (1, 179), (1, 138), (1, 139), (1, 140), (1, 141), (1, 142), (1, 143), (1, 214), (1, 215), (1, 216), (1, 217), (1, 218), (1, 219), (1, 234), (1, 235), (1, 236), (1, 237), (2, 0), (2, 2), (2, 4), (2, 6)] rfl
set_option maxRecDepth 100000 in
theorem in_wsL_law0_r7 : ∀ w ∈ wsL_law0_r7, w ∈ lw_tbl := sub_t [(2, 8), (2, 10), (2, 20), (2, 53), (2, 54), (2, 55), (2, 56), (2, 57), (2, 70), (2, 58), (2, 73), (2, 74), (2, 75), (2, 76), (2, 77), (2, 80), (2, 95), (2, 96), (2, 97), (2, 98), (2, 104), (2, 100), (2, 106), (2, 102)] rfl
set_option maxRecDepth 100000 in
theorem in_wsL_law0_r8 : ∀ w ∈ wsL_law0_r8, w ∈ lw_tbl := sub_t [(2, 108), (5, 96), (5, 97), (5, 98), (5, 99), (5, 114), (5, 122), (5, 123), (5, 124), (5, 125), (5, 126), (5, 127), (5, 128), (5, 129), (5, 130), (5, 131), (5, 134), (5, 135), (5, 136), (5, 137), (5, 138), (5, 139), (5, 140), (5, 141)] rfl
set_option maxRecDepth 100000 in
theorem in_wsL_law0_r9 : ∀ w ∈ wsL_law0_r9, w ∈ lw_tbl := sub_t [(5, 142), (5, 143), (5, 144), (5, 145), (5, 147), (5, 148), (5, 149), (5, 150), (5, 151), (5, 152), (5, 153), (5, 154), (5, 155), (5, 156), (5, 157), (5, 158), (5, 159), (5, 160), (5, 162), (5, 166), (5, 167), (5, 168), (5, 100), (5, 102)] rfl
set_option maxRecDepth 100000 in
theorem in_wsL_law0_r10 : ∀ w ∈ wsL_law0_r10, w ∈ lw_tbl := sub_t [(0, 27), (5, 103), (5, 104), (5, 106), (0, 28), (5, 107), (5, 108), (5, 110), (0, 29), (5, 111), (2, 154), (2, 155), (2, 156), (2, 157), (1, 95), (2, 158), (2, 159), (2, 160), (2, 161), (2, 162), (1, 96), (6, 47), (6, 48), (6, 49)] rfl
set_option maxRecDepth 100000 in
theorem in_wsL_law0_r11 : ∀ w ∈ wsL_law0_r11, w ∈ lw_tbl := sub_t [(6, 50), (5, 112), (6, 51), (5, 113), (2, 163), (2, 164), (2, 165), (2, 166), (1, 106), (2, 167), (2, 168), (2, 169), (2, 170), (1, 97), (1, 107), (2, 171), (2, 172), (2, 173), (2, 174), (1, 98), (1, 100), (1, 99), (2, 175), (2, 177)] rfl
set_option maxRecDepth 100000 in
theorem in_wsL_law0_r12 : ∀ w ∈ wsL_law0_r12, w ∈ lw_tbl := sub_t [(0, 0), (2, 178), (1, 104), (2, 179), (2, 180), (2, 181), (2, 182), (2, 184), (0, 1), (2, 185), (2, 187), (2, 188), (2, 189), (2, 190), (2, 191), (2, 192), (2, 193), (2, 194), (2, 195), (2, 196), (2, 197), (2, 198), (2, 202), (2, 203)] rfl
set_option maxRecDepth 100000 in
theorem in_wsL_law0_r13 : ∀ w ∈ wsL_law0_r13, w ∈ lw_tbl := sub_t [(1, 15), (2, 204), (2, 205), (2, 206), (2, 207), (2, 199), (2, 200), (2, 201), (2, 208), (2, 209), (2, 210), (2, 211), (2, 212), (2, 213), (2, 214), (2, 215), (2, 216), (2, 217), (2, 218), (2, 219), (2, 220), (2, 221), (2, 222), (2, 223)] rfl
set_option maxRecDepth 100000 in
theorem in_wsL_law0_r14 : ∀ w ∈ wsL_law0_r14, w ∈ lw_tbl := sub_t [(2, 224), (2, 225), (2, 226), (2, 227), (2, 228), (2, 229), (2, 230), (2, 231), (2, 232), (2, 233), (2, 234), (2, 235), (2, 236), (1, 16), (2, 237), (2, 238), (2, 239), (3, 0), (3, 1), (3, 2), (3, 3), (3, 4), (3, 5), (3, 6)] rfl
set_option maxRecDepth 100000 in
theorem in_wsL_law0_r15 : ∀ w ∈ wsL_law0_r15, w ∈ lw_tbl := sub_t [(3, 7), (3, 8), (3, 9), (3, 10), (3, 11), (3, 12), (3, 13), (1, 172), (1, 175), (1, 182), (1, 183), (3, 14), (3, 15), (3, 16), (3, 17), (1, 144), (3, 18), (3, 19), (3, 20), (3, 21), (3, 22), (3, 23), (3, 24), (3, 25)] rfl
set_option maxRecDepth 100000 in
theorem in_wsL_law0_r16 : ∀ w ∈ wsL_law0_r16, w ∈ lw_tbl := sub_t [(3, 26), (3, 28), (0, 2), (3, 29), (1, 103), (3, 30), (3, 31), (3, 32), (3, 33), (3, 34), (3, 35), (3, 36), (3, 37), (3, 38), (3, 39), (3, 40), (3, 41), (3, 42), (3, 43), (3, 44), (3, 45), (3, 46), (3, 47), (3, 48)] rfl
set_option maxRecDepth 100000 in
theorem in_wsL_law0_r17 : ∀ w ∈ wsL_law0_r17, w ∈ lw_tbl := sub_t [(3, 49), (3, 50), (3, 51), (3, 52), (3, 53), (3, 54), (3, 55), (3, 56), (3, 57), (3, 58), (3, 59), (3, 60), (3, 61), (3, 62), (3, 64), (3, 65), (3, 66), (3, 68), (0, 3), (3, 69), (3, 70), (3, 72), (0, 4), (3, 73)] rfl
set_option maxRecDepth 100000 in
theorem in_wsL_law0_r18 : ∀ w ∈ wsL_law0_r18, w ∈ lw_tbl := sub_t [(3, 74), (3, 76), (0, 5), (3, 77), (1, 102), (3, 78), (3, 79), (3, 80), (3, 81), (3, 82), (3, 83), (3, 84), (3, 85), (3, 86), (3, 87), (3, 88), (3, 89), (3, 90), (3, 91), (3, 92), (3, 93), (3, 95), (0, 6), (3, 114)] rfl
set_option maxRecDepth 100000 in
theorem in_wsL_law0_r19 : ∀ w ∈ wsL_law0_r19, w ∈ lw_tbl := sub_t [(3, 115), (3, 116), (3, 99), (3, 100), (3, 101), (3, 102), (3, 103), (3, 117), (3, 118), (3, 119), (3, 108), (3, 104), (3, 106), (0, 7), (3, 107), (3, 96), (1, 101), (3, 97), (3, 98), (3, 109), (3, 110), (3, 111), (3, 112), (3, 113)] rfl
set_option maxRecDepth 100000 in
theorem in_wsL_law0_r20 : ∀ w ∈ wsL_law0_r20, w ∈ lw_tbl := sub_t [(3, 120), (3, 121), (3, 122), (3, 123), (3, 124), (3, 125), (3, 127), (0, 8), (3, 128), (2, 110), (3, 129), (3, 130), (3, 131), (3, 132), (2, 14), (2, 18), (3, 133), (3, 135), (0, 9), (3, 136), (2, 16), (2, 12), (1, 173), (1, 163)] rfl
set_option maxRecDepth 100000 in
theorem in_wsL_law0_r21 : ∀ w ∈ wsL_law0_r21, w ∈ lw_tbl := sub_t [(1, 165), (3, 137), (3, 138), (3, 139), (3, 140), (1, 220), (3, 141), (3, 142), (3, 143), (3, 144), (2, 59), (3, 145), (3, 146), (3, 147), (3, 148), (2, 82), (6, 52), (6, 53), (6, 54), (6, 55), (5, 121), (5, 161), (6, 56), (6, 58)] rfl
set_option maxRecDepth 100000 in
theorem in_wsL_law0_r22 : ∀ w ∈ wsL_law0_r22, w ∈ lw_tbl := sub_t [(0, 30), (6, 59), (5, 133), (5, 132), (5, 118), (6, 74), (6, 94), (6, 95), (6, 96), (6, 97), (6, 60), (6, 62), (0, 31), (6, 63), (5, 115), (5, 116), (6, 64), (6, 66), (0, 32), (6, 67), (5, 117), (5, 119), (5, 120), (6, 72)] rfl
set_option maxRecDepth 100000 in
theorem in_wsL_law0_r23 : ∀ w ∈ wsL_law0_r23, w ∈ lw_tbl := sub_t [(6, 73), (6, 68), (6, 70), (0, 33), (6, 71), (6, 75), (6, 77), (0, 34), (6, 78), (6, 79), (6, 81), (0, 35), (6, 82), (6, 102), (6, 103), (6, 104), (6, 105), (6, 91), (5, 146), (6, 92), (6, 93), (6, 83), (6, 85), (0, 36)] rfl
set_option maxRecDepth 100000 in
theorem in_wsL_law0_r24 : ∀ w ∈ wsL_law0_r24, w ∈ lw_tbl := sub_t [(6, 86), (6, 87), (6, 89), (0, 37), (6, 90), (6, 98), (6, 99), (6, 100), (6, 101), (6, 106), (6, 107), (6, 108), (6, 109), (6, 111), (0, 38), (6, 112), (6, 113), (6, 115), (0, 39), (6, 116), (6, 117), (6, 119), (0, 40), (6, 120)] rfl
set_option maxRecDepth 100000 in
theorem in_wsL_law0_r25 : ∀ w ∈ wsL_law0_r25, w ∈ lw_tbl := sub_t [(6, 121), (6, 122), (6, 123), (6, 124), (6, 126), (0, 41), (6, 127), (6, 128), (6, 130), (0, 42), (6, 131), (6, 132), (6, 134), (0, 43), (6, 135), (6, 136), (6, 138), (0, 44), (6, 139), (6, 140), (6, 142), (0, 45), (6, 143), (6, 144)] rfl
set_option maxRecDepth 100000 in
theorem in_wsL_law0_r26 : ∀ w ∈ wsL_law0_r26, w ∈ lw_tbl := sub_t [(6, 146), (0, 46), (6, 147), (6, 148), (6, 150), (0, 47), (6, 151), (6, 152), (6, 153), (6, 154), (6, 155), (6, 156), (6, 158), (0, 48), (6, 159), (6, 160), (6, 162), (0, 49), (6, 163), (6, 164), (6, 165), (6, 166), (3, 149), (3, 150)] rfl
set_option maxRecDepth 100000 in
theorem in_wsL_law0_r27 : ∀ w ∈ wsL_law0_r27, w ∈ lw_tbl := sub_t [(3, 151), (3, 152), (3, 153), (3, 154), (3, 155), (3, 156), (3, 157), (3, 158), (3, 159), (3, 161), (0, 10), (3, 162), (3, 163), (3, 164), (3, 165), (3, 166), (3, 167), (3, 168), (1, 105), (3, 169), (3, 170), (3, 171), (3, 173), (0, 11)] rfl
set_option maxRecDepth 100000 in
theorem in_wsL_law0_r28 : ∀ w ∈ wsL_law0_r28, w ∈ lw_tbl := sub_t [(3, 174), (3, 175), (3, 176), (6, 167), (6, 168), (6, 169), (6, 170), (6, 171), (6, 173), (0, 50), (6, 174), (6, 175), (6, 177), (0, 51), (6, 178), (6, 179), (6, 181), (0, 52), (6, 182), (3, 177), (3, 178), (3, 179), (3, 180), (1, 160)] rfl
set_option maxRecDepth 100000 in
theorem in_wsL_law0_r29 : ∀ w ∈ wsL_law0_r29, w ∈ lw_tbl := sub_t [(1, 239), (2, 1), (1, 167), (2, 7), (2, 3), (2, 5), (2, 11), (3, 181), (3, 183), (0, 12), (3, 184), (1, 174), (6, 183), (6, 184), (6, 185), (6, 186), (6, 187), (6, 189), (0, 53), (6, 190), (6, 191), (6, 193), (0, 54), (6, 194)] rfl
set_option maxRecDepth 100000 in
theorem in_wsL_law0_r30 : ∀ w ∈ wsL_law0_r30, w ∈ lw_tbl := sub_t [(6, 195), (3, 185), (3, 186), (3, 187), (3, 188), (3, 189), (3, 191), (0, 13), (3, 192), (3, 193), (3, 194), (3, 195), (3, 196), (3, 197), (3, 198), (3, 199), (3, 200), (3, 201), (2, 81), (3, 202), (3, 203), (3, 204), (3, 205), (3, 206)] rfl
set_option maxRecDepth 100000 in
theorem in_wsL_law0_r31 : ∀ w ∈ wsL_law0_r31, w ∈ lw_tbl := sub_t [(3, 208), (3, 207), (1, 17), (3, 209), (3, 210), (3, 211), (3, 212), (3, 214), (3, 213), (6, 196), (6, 197), (6, 198), (6, 199), (6, 200), (6, 202), (0, 55), (6, 203), (6, 204), (6, 206), (0, 56), (6, 207), (6, 208), (6, 210), (0, 57)] rfl
set_option maxRecDepth 100000 in
theorem in_wsL_law0_r32 : ∀ w ∈ wsL_law0_r32, w ∈ lw_tbl := sub_t [(6, 211), (6, 212), (6, 213), (6, 214), (6, 215), (6, 217), (0, 58), (6, 218), (3, 215), (3, 216), (3, 217), (3, 218), (3, 219), (3, 220), (3, 221), (3, 222), (6, 219), (6, 220), (6, 221), (6, 222), (6, 223), (6, 225), (0, 59), (6, 226)] rfl
set_option maxRecDepth 100000 in
theorem in_wsL_law0_r33 : ∀ w ∈ wsL_law0_r33, w ∈ lw_tbl := sub_t [(3, 223), (3, 224), (3, 225), (3, 226), (3, 227), (3, 228), (3, 229), (3, 230), (3, 231), (3, 232), (3, 233), (3, 234), (3, 235), (6, 227), (6, 228), (6, 229), (6, 230), (6, 231), (6, 233), (0, 60), (6, 234), (3, 236), (3, 237), (3, 238)] rfl
set_option maxRecDepth 100000 in
theorem in_wsL_law0_r34 : ∀ w ∈ wsL_law0_r34, w ∈ lw_tbl := sub_t [(3, 239), (4, 0), (4, 1), (4, 2), (4, 3), (4, 4), (4, 5), (4, 6), (4, 7), (4, 8), (4, 9), (4, 10), (4, 11), (4, 12), (4, 13), (4, 14), (4, 15), (2, 22), (1, 177), (4, 24), (4, 16), (4, 17), (4, 18), (4, 19)] rfl
set_option maxRecDepth 100000 in
theorem in_wsL_law0_r35 : ∀ w ∈ wsL_law0_r35, w ∈ lw_tbl := sub_t [(1, 161), (4, 20), (4, 22), (0, 14), (4, 23), (4, 25), (4, 27), (0, 15), (4, 28), (4, 29), (4, 30), (4, 31), (4, 32), (4, 33), (4, 35), (0, 16), (4, 36), (1, 180), (1, 171), (1, 168), (4, 37), (4, 38), (4, 39), (4, 40)] rfl
set_option maxRecDepth 100000 in
theorem in_wsL_law0_r36 : ∀ w ∈ wsL_law0_r36, w ∈ lw_tbl := sub_t [(1, 145), (4, 52), (4, 53), (4, 41), (4, 43), (0, 17), (4, 44), (4, 45), (4, 47), (0, 18), (4, 48), (4, 49), (4, 50), (4, 51), (6, 235), (6, 236), (6, 237), (6, 238), (6, 239), (7, 1), (0, 61), (7, 2), (5, 163), (7, 3)] rfl
set_option maxRecDepth 100000 in
theorem in_wsL_law0_r37 : ∀ w ∈ wsL_law0_r37, w ∈ lw_tbl := sub_t [(7, 5), (0, 62), (7, 6), (7, 7), (7, 8), (7, 9), (7, 10), (7, 12), (0, 63), (7, 13), (7, 18), (7, 14), (7, 16), (0, 64), (7, 17), (7, 19), (7, 21), (0, 65), (7, 22), (7, 23), (7, 25), (0, 66), (7, 26), (7, 27)] rfl
set_option maxRecDepth 100000 in
theorem in_wsL_law0_r38 : ∀ w ∈ wsL_law0_r38, w ∈ lw_tbl := sub_t [(7, 29), (0, 67), (7, 30), (7, 31), (7, 33), (0, 68), (7, 34), (7, 35), (7, 37), (0, 69), (7, 38), (7, 39), (7, 41), (0, 70), (7, 42), (7, 43), (7, 45), (0, 71), (7, 46), (7, 47), (7, 49), (0, 72), (7, 50), (7, 51)] rfl
set_option maxRecDepth 100000 in
theorem in_wsL_law0_r39 : ∀ w ∈ wsL_law0_r39, w ∈ lw_tbl := sub_t [(7, 52), (7, 53), (4, 54), (4, 55), (4, 56), (4, 57), (4, 58), (4, 59), (4, 60), (4, 61), (7, 54), (7, 55), (7, 56), (7, 57), (4, 62), (4, 63), (4, 64), (4, 65), (1, 221), (2, 15), (2, 19), (4, 66), (4, 67), (4, 68)] rfl
set_option maxRecDepth 100000 in
theorem in_wsL_law0_r40 : ∀ w ∈ wsL_law0_r40, w ∈ lw_tbl := sub_t [(4, 69), (4, 70), (4, 71), (4, 72), (4, 73), (7, 58), (7, 59), (7, 60), (7, 61), (7, 62), (7, 64), (0, 73), (7, 65), (4, 74), (4, 75), (4, 76), (4, 77), (4, 78), (4, 79), (4, 80), (4, 81), (4, 82), (7, 66), (7, 67)] rfl
set_option maxRecDepth 100000 in
theorem in_wsL_law0_r41 : ∀ w ∈ wsL_law0_r41, w ∈ lw_tbl := sub_t [(7, 68), (7, 69), (7, 70), (7, 72), (0, 74), (7, 73), (5, 164), (5, 165), (4, 83), (4, 84), (4, 85), (4, 86), (4, 87), (4, 89), (0, 19), (4, 90), (2, 21), (7, 74), (7, 75), (7, 76), (7, 77), (4, 91), (4, 92), (4, 93)] rfl
set_option maxRecDepth 100000 in
theorem in_wsL_law0_r42 : ∀ w ∈ wsL_law0_r42, w ∈ lw_tbl := sub_t [(4, 94), (2, 13), (4, 95), (4, 96), (4, 97), (4, 98), (4, 99), (7, 78), (7, 79), (7, 80), (7, 81), (7, 82), (7, 84), (0, 75), (7, 85), (4, 100), (4, 101), (4, 102), (4, 103), (4, 104), (4, 106), (0, 20), (4, 107), (7, 90)] rfl
set_option maxRecDepth 100000 in
theorem in_wsL_law0_r43 : ∀ w ∈ wsL_law0_r43, w ∈ lw_tbl := sub_t [(7, 91), (7, 92), (7, 93), (4, 108), (4, 109), (4, 110), (4, 111), (7, 94), (7, 95), (7, 96), (7, 97), (4, 112), (4, 113), (4, 114), (4, 115), (7, 98), (7, 99), (7, 100), (7, 101), (4, 116), (4, 117), (4, 118), (4, 119), (7, 102)] rfl
set_option maxRecDepth 100000 in
theorem in_wsL_law0_r44 : ∀ w ∈ wsL_law0_r44, w ∈ lw_tbl := sub_t [(7, 103), (7, 104), (7, 105), (4, 120), (4, 121), (4, 122), (4, 123), (4, 124), (4, 126), (0, 21), (4, 127), (7, 106), (7, 107), (7, 108), (7, 109), (4, 128), (4, 129), (4, 130), (4, 131), (7, 110), (7, 111), (7, 112), (7, 113), (4, 132)] rfl
set_option maxRecDepth 100000 in
theorem in_wsL_law0_r45 : ∀ w ∈ wsL_law0_r45, w ∈ lw_tbl := sub_t [(4, 133), (4, 134), (4, 135), (7, 114), (7, 115), (7, 116), (7, 117), (4, 136), (4, 137), (4, 138), (4, 139), (4, 140), (4, 141), (4, 142), (4, 143), (7, 118), (7, 119), (7, 120), (7, 121), (4, 144), (4, 145), (4, 146), (4, 147), (2, 9)] rfl
set_option maxRecDepth 100000 in
theorem in_wsL_law0_r46 : ∀ w ∈ wsL_law0_r46, w ∈ lw_tbl := sub_t [(4, 148), (4, 149), (4, 150), (4, 151), (7, 86), (7, 87), (7, 88), (7, 89), (4, 152), (4, 153), (4, 154), (4, 155), (7, 122), (7, 123), (7, 124), (7, 125), (4, 156), (4, 157), (4, 158), (4, 159), (1, 178), (4, 160), (7, 126), (7, 127)] rfl
set_option maxRecDepth 100000 in
theorem in_wsL_law0_r47 : ∀ w ∈ wsL_law0_r47, w ∈ lw_tbl := sub_t [(7, 128), (7, 129), (4, 161), (4, 162), (4, 163), (4, 164), (4, 165), (4, 166), (7, 130), (7, 131), (7, 132), (7, 133), (4, 167), (4, 168), (4, 169), (4, 170), (4, 171), (4, 172), (4, 173), (4, 174), (7, 134), (7, 135), (7, 136), (7, 137)] rfl
set_option maxRecDepth 100000 in
theorem in_wsL_law0_r48 : ∀ w ∈ wsL_law0_r48, w ∈ lw_tbl := sub_t [(4, 175), (4, 176), (4, 177), (4, 178), (4, 179), (4, 181), (0, 22), (4, 182), (4, 183), (4, 184), (4, 185), (4, 186), (4, 187), (4, 188), (4, 189), (4, 190), (4, 191), (1, 238), (7, 138), (7, 139), (7, 140), (7, 141), (7, 142), (7, 144)] rfl
set_option maxRecDepth 100000 in
theorem in_wsL_law0_r49 : ∀ w ∈ wsL_law0_r49, w ∈ lw_tbl := sub_t [(0, 76), (7, 145), (7, 146), (7, 148), (0, 77), (7, 149), (4, 192), (4, 193), (4, 194), (4, 195), (4, 196), (4, 197), (1, 18), (4, 198), (4, 199), (4, 200), (4, 201), (4, 202), (4, 203), (4, 204), (4, 205), (7, 150), (7, 151), (7, 152)] rfl
set_option maxRecDepth 100000 in
theorem in_wsL_law0_r50 : ∀ w ∈ wsL_law0_r50, w ∈ lw_tbl := sub_t [(7, 153), (7, 154), (4, 206), (4, 207), (4, 208), (4, 209), (4, 210), (4, 212), (0, 23), (4, 213), (4, 214), (4, 215), (4, 216), (4, 217), (7, 155), (7, 156), (7, 157), (7, 158), (7, 159), (7, 160), (5, 14), (5, 15), (1, 0), (5, 16)] rfl
set_option maxRecDepth 100000 in
theorem in_wsL_law0_r51 : ∀ w ∈ wsL_law0_r51, w ∈ lw_tbl := sub_t [(5, 17), (5, 18), (5, 19), (5, 20), (5, 21), (5, 22), (1, 22), (5, 87), (5, 88), (5, 89), (5, 90), (5, 91), (5, 92), (7, 161), (7, 162), (7, 163), (7, 164), (7, 165), (7, 166), (7, 167), (4, 218), (4, 219), (4, 220), (4, 221)] rfl
set_option maxRecDepth 100000 in
theorem in_wsL_law0_r52 : ∀ w ∈ wsL_law0_r52, w ∈ lw_tbl := sub_t [(4, 222), (2, 130), (4, 223), (4, 225), (0, 24), (4, 226), (4, 227), (4, 229), (0, 25), (4, 230), (4, 231), (4, 232), (4, 233), (4, 234), (7, 168), (7, 169), (7, 170), (7, 171), (7, 172), (5, 169), (7, 173), (7, 175), (0, 78), (7, 176)] rfl
set_option maxRecDepth 100000 in
theorem in_wsL_law0_r53 : ∀ w ∈ wsL_law0_r53, w ∈ lw_tbl := sub_t [(7, 177), (7, 179), (0, 79), (7, 180), (7, 181), (7, 182), (7, 183), (7, 184), (4, 235), (4, 236), (4, 237), (4, 238), (2, 105), (2, 107), (2, 109), (4, 239), (5, 0), (5, 1), (5, 2), (5, 3), (5, 4), (5, 5), (5, 6), (5, 7)] rfl
set_option maxRecDepth 100000 in
theorem in_wsL_law0_r54 : ∀ w ∈ wsL_law0_r54, w ∈ lw_tbl := sub_t [(5, 8), (7, 185), (7, 186), (7, 187), (7, 188), (7, 189), (7, 191), (0, 80), (7, 192), (5, 9), (5, 10), (5, 11), (5, 12), (1, 181), (2, 17), (2, 60), (2, 83), (5, 13), (7, 193), (7, 194), (7, 195), (7, 196)] rfl
set_option maxRecDepth 100000 in
theorem inX0 : ∀ w ∈ wsX00, w ∈ lw_tbl := sub_t [(1, 146), (1, 148), (1, 150), (1, 152), (1, 154)] rfl
set_option maxRecDepth 100000 in
theorem inX1 : ∀ w ∈ wsX10, w ∈ lw_tbl := sub_t [(1, 222), (1, 224), (1, 226), (1, 228)] rfl
set_option maxRecDepth 100000 in
theorem inX2 : ∀ w ∈ wsX20, w ∈ lw_tbl := sub_t [(2, 111), (2, 113), (2, 115), (2, 117)] rfl
set_option maxRecDepth 100000 in
theorem inX3 : ∀ w ∈ wsX30, w ∈ lw_tbl := sub_t [(2, 84), (2, 86), (2, 88)] rfl
set_option maxRecDepth 100000 in
theorem inX4 : ∀ w ∈ wsX40, w ∈ lw_tbl := sub_t [(2, 23), (2, 25), (2, 27), (2, 29), (2, 31), (2, 33), (2, 35), (2, 37), (2, 39), (2, 41), (2, 43), (2, 45), (2, 47)] rfl
set_option maxRecDepth 100000 in
theorem inX5 : ∀ w ∈ wsX50, w ∈ lw_tbl := sub_t [(2, 61), (2, 63), (2, 65), (2, 67)] rfl
set_option maxRecDepth 100000 in
theorem inX6 : ∀ w ∈ wsX60, w ∈ lw_tbl := sub_t [(1, 108), (1, 110), (1, 112), (1, 114), (1, 116), (1, 118), (1, 120), (1, 122), (1, 124)] rfl
set_option maxRecDepth 100000 in
theorem inX7 : ∀ w ∈ wsX70, w ∈ lw_tbl := sub_t [(1, 184), (1, 186), (1, 188), (1, 190), (1, 192), (1, 194), (1, 196), (1, 198), (1, 200), (1, 202), (1, 204), (1, 206), (1, 208)] rfl
set_option maxRecDepth 100000 in
theorem inX8 : ∀ w ∈ wsX80, w ∈ lw_tbl := sub_t [(2, 131), (2, 133), (2, 135), (2, 137), (2, 139), (2, 141), (2, 143), (2, 145), (2, 147), (2, 149), (2, 151)] rfl
set_option maxRecDepth 100000 in
theorem inX9 : ∀ w ∈ wsX90, w ∈ lw_tbl := sub_t [(5, 170), (5, 172), (5, 174), (5, 176), (5, 178), (5, 180), (5, 182), (5, 184), (5, 186), (5, 188), (5, 190), (5, 192), (5, 194), (5, 196), (5, 198), (5, 200), (5, 202), (5, 204), (5, 206), (5, 208), (5, 210), (5, 212), (5, 214), (5, 216), (5, 218), (5, 220), (5, 222), (5, 224), (5, 226), (5, 228), (5, 230), (5, 232), (5, 234), (5, 236), (5, 238), (6, 0), (6, 2), (6, 4), (6, 6), (6, 8), (6, 10), (6, 12), (6, 14), (6, 16), (6, 18), (6, 20), (6, 22), (6, 24), (6, 26), (6, 28), (6, 30), (6, 32), (6, 34), (6, 36), (6, 38), (6, 40), (6, 42), (6, 44)] rfl
set_option maxRecDepth 100000 in
theorem wsL_law_in0 : ∀ w ∈ wsL_law0, w ∈ lw_tbl := (List.forall_mem_append.mpr ⟨(List.forall_mem_append.mpr ⟨(List.forall_mem_append.mpr ⟨(List.forall_mem_append.mpr ⟨(List.forall_mem_append.mpr ⟨(List.forall_mem_append.mpr ⟨(List.forall_mem_append.mpr ⟨(List.forall_mem_append.mpr ⟨(List.forall_mem_append.mpr ⟨(List.forall_mem_append.mpr ⟨(List.forall_mem_append.mpr ⟨(List.forall_mem_append.mpr ⟨in_wsL_law0_r1, List.forall_mem_append.mpr ⟨in_wsL_law0_r2, List.forall_mem_append.mpr ⟨in_wsL_law0_r3, List.forall_mem_append.mpr ⟨in_wsL_law0_r4, List.forall_mem_append.mpr ⟨in_wsL_law0_r5, List.forall_mem_append.mpr ⟨in_wsL_law0_r6, List.forall_mem_append.mpr ⟨in_wsL_law0_r7, List.forall_mem_append.mpr ⟨in_wsL_law0_r8, List.forall_mem_append.mpr ⟨in_wsL_law0_r9, List.forall_mem_append.mpr ⟨in_wsL_law0_r10, List.forall_mem_append.mpr ⟨in_wsL_law0_r11, List.forall_mem_append.mpr ⟨in_wsL_law0_r12, List.forall_mem_append.mpr ⟨in_wsL_law0_r13, List.forall_mem_append.mpr ⟨in_wsL_law0_r14, List.forall_mem_append.mpr ⟨in_wsL_law0_r15, List.forall_mem_append.mpr ⟨in_wsL_law0_r16, List.forall_mem_append.mpr ⟨in_wsL_law0_r17, List.forall_mem_append.mpr ⟨in_wsL_law0_r18, List.forall_mem_append.mpr ⟨in_wsL_law0_r19, List.forall_mem_append.mpr ⟨in_wsL_law0_r20, List.forall_mem_append.mpr ⟨in_wsL_law0_r21, List.forall_mem_append.mpr ⟨in_wsL_law0_r22, List.forall_mem_append.mpr ⟨in_wsL_law0_r23, List.forall_mem_append.mpr ⟨in_wsL_law0_r24, List.forall_mem_append.mpr ⟨in_wsL_law0_r25, List.forall_mem_append.mpr ⟨in_wsL_law0_r26, List.forall_mem_append.mpr ⟨in_wsL_law0_r27, List.forall_mem_append.mpr ⟨in_wsL_law0_r28, List.forall_mem_append.mpr ⟨in_wsL_law0_r29, List.forall_mem_append.mpr ⟨in_wsL_law0_r30, List.forall_mem_append.mpr ⟨in_wsL_law0_r31, List.forall_mem_append.mpr ⟨in_wsL_law0_r32, List.forall_mem_append.mpr ⟨in_wsL_law0_r33, List.forall_mem_append.mpr ⟨in_wsL_law0_r34, List.forall_mem_append.mpr ⟨in_wsL_law0_r35, List.forall_mem_append.mpr ⟨in_wsL_law0_r36, List.forall_mem_append.mpr ⟨in_wsL_law0_r37, List.forall_mem_append.mpr ⟨in_wsL_law0_r38, List.forall_mem_append.mpr ⟨in_wsL_law0_r39, List.forall_mem_append.mpr ⟨in_wsL_law0_r40, List.forall_mem_append.mpr ⟨in_wsL_law0_r41, List.forall_mem_append.mpr ⟨in_wsL_law0_r42, List.forall_mem_append.mpr ⟨in_wsL_law0_r43, List.forall_mem_append.mpr ⟨in_wsL_law0_r44, List.forall_mem_append.mpr ⟨in_wsL_law0_r45, List.forall_mem_append.mpr ⟨in_wsL_law0_r46, List.forall_mem_append.mpr ⟨in_wsL_law0_r47, List.forall_mem_append.mpr ⟨in_wsL_law0_r48, List.forall_mem_append.mpr ⟨in_wsL_law0_r49, List.forall_mem_append.mpr ⟨in_wsL_law0_r50, List.forall_mem_append.mpr ⟨in_wsL_law0_r51, List.forall_mem_append.mpr ⟨in_wsL_law0_r52, List.forall_mem_append.mpr ⟨in_wsL_law0_r53, in_wsL_law0_r54⟩⟩⟩⟩⟩⟩⟩⟩⟩⟩⟩⟩⟩⟩⟩⟩⟩⟩⟩⟩⟩⟩⟩⟩⟩⟩⟩⟩⟩⟩⟩⟩⟩⟩⟩⟩⟩⟩⟩⟩⟩⟩⟩⟩⟩⟩⟩⟩⟩⟩⟩⟩⟩), inX8⟩), inX9⟩), inX6⟩), inX7⟩), inX1⟩), inX4⟩), inX5⟩), inX3⟩), inX2⟩), inX0⟩), fun _ h => absurd h List.not_mem_nil⟩)
