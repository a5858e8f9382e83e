/-! every word of ours stands in the tables -/
def xw_ch (c : Nat) : List Cond := match c with
  | 0 => k2_sels lw_privs
  | 1 => tables_1_1
  | 2 => tables_1_2
  | 3 => tables_1_3
  | 4 => tables_1_4
  | 5 => tables_1_5
  | 6 => tables_1_6
  | 7 => tables_1_7
  | _ => []
def xw_ix0 : List (Nat × Nat) := [(1, 30), (1, 33), (1, 35), (2, 36), (1, 47), (1, 49), (2, 37), (1, 102), (1, 104), (2, 38), (1, 120), (1, 122), (2, 39), (1, 156), (1, 158), (2, 40), (1, 225), (1, 227), (1, 231), (2, 41), (2, 189), (2, 231), (2, 177), (3, 17), (3, 92), (4, 36), (2, 154), (5, 30), (5, 36), (5, 40), (5, 52), (5, 53), (5, 63), (5, 69), (5, 82), (2, 59), (5, 94), (5, 98), (5, 108), (5, 114), (5, 126), (5, 130), (5, 134), (5, 135), (5, 136), (5, 140), (5, 141), (5, 145), (5, 157), (5, 159), (5, 160), (5, 168), (5, 170), (5, 171), (5, 182), (5, 184), (5, 185), (5, 196), (5, 201), (1, 38), (1, 39), (1, 40), (2, 166), (5, 118), (1, 52), (1, 53), (1, 83), (1, 55), (1, 57), (1, 84), (1, 69), (1, 86), (1, 87), (1, 85), (3, 71), (3, 75), (2, 78), (1, 88), (2, 125), (3, 117), (3, 118), (3, 122), (3, 123), (2, 130), (3, 233), (3, 234), (5, 21), (2, 134), (2, 138), (2, 142), (2, 146), (2, 150), (1, 60), (1, 61), (1, 62), (2, 86), (4, 51), (4, 61), (4, 45), (4, 47), (1, 72), (1, 73), (1, 74), (1, 75), (3, 49), (1, 107), (1, 108), (1, 110), (1, 111), (1, 112), (3, 140), (3, 143), (3, 144), (3, 145), (5, 34), (5, 35), (1, 125), (1, 126), (1, 127), (1, 131), (1, 128), (1, 129), (1, 130), (1, 132), (3, 21), (3, 50), (3, 59), (3, 88), (2, 162), (2, 169), (1, 134), (1, 135), (1, 136), (1, 133), (3, 25), (3, 37), (3, 41), (3, 45), (3, 32), (3, 29), (3, 36), (3, 54), (3, 58), (3, 63), (3, 79), (3, 83), (3, 87), (3, 67), (2, 158), (1, 161), (1, 162), (1, 164), (1, 204), (1, 179), (1, 181), (1, 205), (1, 208), (1, 203), (1, 206), (1, 207), (4, 132), (2, 70), (4, 235), (1, 209), (2, 74), (5, 73), (2, 121), (2, 126), (4, 149), (4, 128), (4, 136), (4, 140), (4, 231), (5, 0), (5, 6), (5, 10), (2, 63), (2, 82), (2, 90), (2, 94), (2, 98), (2, 102), (2, 109), (2, 113), (1, 167), (1, 169), (1, 170), (1, 168), (1, 171), (2, 117), (5, 205), (2, 120), (4, 154), (4, 157), (4, 158), (4, 161), (4, 160), (4, 159), (4, 165), (4, 166), (4, 167), (1, 184), (1, 186), (1, 185), (1, 187), (1, 188), (1, 189), (1, 190), (2, 106), (2, 67), (4, 176), (4, 177), (4, 184), (4, 185), (4, 181), (4, 197), (4, 182), (4, 183), (4, 189), (4, 201), (4, 193), (4, 206), (4, 210), (4, 218), (4, 219), (4, 223), (1, 234), (2, 20), (2, 21), (2, 22), (2, 23), (1, 235), (1, 237), (2, 24), (3, 96), (3, 100), (3, 104), (3, 108), (3, 124), (3, 128), (3, 132), (3, 204), (3, 208), (3, 213), (3, 212), (3, 217), (3, 220), (3, 224), (3, 238), (3, 112), (3, 113), (3, 228), (3, 229), (3, 136), (3, 149), (3, 153), (3, 176), (3, 196), (3, 200), (4, 2), (4, 6), (4, 18), (4, 23), (4, 27), (4, 35), (4, 40), (4, 41), (4, 100), (4, 116), (4, 124), (4, 141), (4, 145), (4, 111), (4, 150), (4, 168), (4, 172), (4, 202), (4, 214), (4, 227), (5, 17), (4, 120), (4, 105), (4, 104), (4, 106), (4, 110), (4, 115), (2, 0), (2, 1), (2, 2), (2, 3), (2, 4), (2, 5), (2, 6), (3, 157), (3, 162), (3, 161), (3, 163), (3, 166), (3, 170), (3, 173), (3, 184), (3, 192), (3, 180), (3, 188), (4, 10), (4, 14), (4, 22), (4, 31), (5, 4), (5, 5), (5, 211), (5, 216), (5, 218), (5, 220), (5, 221), (5, 222), (5, 226), (5, 227), (5, 229), (5, 233), (5, 236), (5, 237), (5, 238), (5, 239), (6, 0), (6, 1), (6, 2), (6, 3), (6, 5), (5, 212), (5, 217), (5, 213), (5, 214), (5, 219), (6, 83), (6, 87), (5, 223), (7, 56), (5, 225), (5, 228), (5, 224), (6, 95), (6, 116), (6, 108), (6, 104), (5, 232), (5, 234), (6, 228), (6, 112), (6, 232), (6, 172), (5, 231), (6, 224), (7, 0), (6, 4), (6, 136), (6, 140), (6, 144), (6, 148), (6, 152), (6, 188), (6, 156), (6, 184), (6, 192), (6, 180), (6, 132), (6, 196), (6, 200), (6, 204), (6, 208), (6, 160), (7, 4), (7, 20), (7, 28), (7, 32), (7, 44), (5, 235), (6, 236), (6, 216), (6, 220), (7, 8), (7, 12), (7, 16), (7, 24), (7, 36), (7, 40), (6, 100), (6, 168), (6, 176), (6, 212), (6, 124), (6, 128), (5, 230), (6, 120), (6, 164), (5, 215), (6, 96), (6, 91), (7, 48), (7, 52)]
def xw_ix1 : List (Nat × Nat) := [(7, 60), (7, 64), (7, 72), (2, 185), (1, 25), (2, 184), (5, 25), (5, 48), (5, 47), (5, 77), (5, 90), (5, 89), (5, 122), (5, 153), (5, 164), (5, 178), (5, 192), (1, 27), (5, 206), (5, 208), (2, 181), (6, 79), (6, 75), (5, 22), (7, 68), (5, 44), (7, 76), (5, 74), (7, 80), (2, 55), (7, 84), (2, 173), (7, 88), (5, 86), (7, 92), (5, 119), (7, 96), (5, 150), (7, 100), (5, 161), (7, 104), (5, 175), (7, 108), (5, 189), (7, 112), (1, 28), (1, 1), (1, 36), (1, 2), (1, 50), (1, 3), (1, 58), (1, 4), (1, 70), (1, 5), (1, 105), (1, 6), (1, 123), (1, 7), (1, 159), (1, 8), (1, 165), (1, 9), (1, 182), (1, 10), (1, 228), (1, 229), (1, 7), (1, 232), (1, 11), (1, 238), (1, 12), (2, 56), (2, 57), (1, 1), (2, 60), (2, 61), (1, 8), (2, 64), (2, 65), (1, 10), (2, 68), (1, 10), (2, 71), (2, 72), (1, 9), (2, 75), (2, 76), (1, 3), (2, 79), (2, 80), (1, 4), (2, 83), (2, 84), (1, 4), (2, 87), (2, 88), (1, 4), (2, 91), (2, 92), (1, 4), (2, 95), (2, 96), (1, 10), (2, 99), (2, 100), (1, 10), (2, 103), (2, 104), (1, 10), (2, 107), (1, 10), (2, 110), (2, 111), (1, 10), (2, 114), (2, 115), (1, 9), (2, 118), (1, 9), (2, 122), (2, 123), (1, 3), (2, 127), (2, 128), (1, 3), (2, 131), (2, 132), (1, 4), (2, 135), (2, 136), (1, 4), (2, 139), (2, 140), (1, 5), (2, 143), (2, 144), (1, 5), (2, 147), (2, 148), (1, 5), (2, 151), (2, 152), (1, 4), (2, 155), (2, 156), (1, 7), (2, 159), (2, 160), (1, 3), (2, 163), (2, 164), (1, 2), (2, 167), (1, 18), (2, 171), (0, 0), (1, 7), (2, 174), (2, 175), (1, 1), (2, 178), (2, 179), (1, 2), (2, 186), (2, 187), (1, 1), (3, 18), (3, 19), (1, 7), (3, 23), (0, 2), (1, 7), (3, 27), (0, 3), (1, 7), (3, 30), (1, 5), (3, 34), (0, 4), (1, 7), (3, 38), (3, 39), (1, 5), (3, 42), (3, 43), (1, 5), (3, 46), (3, 47), (1, 5), (3, 52), (0, 5), (1, 7), (3, 55), (3, 56), (1, 3), (3, 61), (0, 6), (1, 7), (3, 65), (0, 7), (1, 7), (3, 68), (3, 69), (1, 3), (3, 72), (3, 73), (1, 5), (3, 76), (3, 77), (1, 3), (3, 80), (3, 81), (1, 5), (3, 84), (3, 85), (1, 6), (3, 90), (0, 8), (1, 7), (3, 93), (3, 94), (1, 11), (3, 97), (3, 98), (1, 8), (3, 101), (3, 102), (1, 5), (3, 105), (3, 106), (1, 5), (3, 110), (0, 9), (1, 11), (3, 114), (3, 115), (1, 3), (3, 119), (3, 120), (1, 4), (3, 125), (3, 126), (1, 5), (3, 129), (3, 130), (1, 5), (3, 134), (0, 10), (1, 11), (3, 137), (3, 138), (1, 6), (3, 141), (1, 6), (3, 146), (3, 147), (1, 5), (3, 150), (3, 151), (1, 6), (3, 154), (3, 155), (1, 12), (3, 159), (0, 11), (1, 12), (3, 164), (1, 18), (3, 168), (0, 12), (1, 12), (3, 171), (1, 12), (3, 174), (1, 12), (3, 177), (3, 178), (1, 12), (3, 181), (3, 182), (1, 12), (3, 185), (3, 186), (1, 12), (3, 189), (3, 190), (1, 12), (3, 193), (3, 194), (1, 12), (3, 197), (3, 198), (1, 8), (3, 201), (3, 202), (1, 6), (3, 206), (0, 13), (1, 11), (3, 210), (0, 14), (1, 11), (3, 214), (3, 215), (1, 8), (3, 218), (1, 11), (3, 221), (3, 222), (1, 8), (3, 226), (0, 15), (1, 11), (3, 230), (3, 231), (1, 3), (3, 235), (3, 236), (1, 5), (4, 0), (0, 16), (1, 11), (4, 3), (4, 4), (1, 12), (4, 7), (4, 8), (1, 12), (4, 11), (4, 12), (1, 12), (4, 15), (4, 16), (1, 12), (4, 19), (4, 20), (1, 12), (4, 24), (4, 25), (1, 12), (4, 28), (4, 29), (1, 12), (4, 32), (4, 33), (1, 12), (4, 37), (4, 38), (1, 11), (4, 42), (4, 43), (1, 4), (4, 48), (4, 49), (1, 4), (4, 102), (0, 17), (1, 11), (4, 107), (4, 108), (1, 12), (4, 112), (4, 113), (1, 8), (4, 118), (0, 18), (1, 11), (4, 121), (4, 122), (1, 4), (4, 125), (4, 126), (1, 8), (4, 129), (4, 130), (1, 8), (4, 133), (4, 134), (1, 9), (4, 137), (4, 138), (1, 9), (4, 143), (0, 19), (1, 11), (4, 146), (4, 147), (1, 8), (4, 151), (4, 152), (1, 9), (4, 155), (1, 9), (4, 163), (0, 20), (1, 9), (4, 169), (4, 170), (1, 8)]
def xw_ix2 : List (Nat × Nat) := [(4, 173), (4, 174), (1, 10), (4, 179), (0, 21), (1, 10), (4, 187), (0, 22), (1, 10), (4, 191), (0, 23), (1, 10), (4, 195), (0, 24), (1, 10), (4, 199), (0, 25), (1, 10), (4, 203), (4, 204), (1, 10), (4, 208), (0, 26), (1, 10), (4, 212), (0, 27), (1, 10), (4, 215), (4, 216), (1, 10), (4, 221), (0, 28), (1, 10), (4, 225), (0, 29), (1, 10), (4, 228), (4, 229), (1, 8), (4, 232), (4, 233), (1, 8), (4, 236), (4, 237), (1, 9), (5, 1), (5, 2), (1, 12), (5, 8), (0, 30), (1, 8), (5, 11), (5, 12), (1, 9), (5, 18), (5, 19), (1, 3), (5, 26), (5, 27), (1, 1), (5, 31), (5, 32), (1, 6), (5, 37), (5, 38), (1, 8), (5, 41), (5, 42), (1, 7), (5, 49), (5, 50), (1, 1), (5, 70), (5, 71), (1, 8), (5, 78), (5, 79), (1, 1), (5, 83), (5, 84), (1, 8), (5, 91), (5, 92), (1, 1), (5, 95), (5, 96), (1, 2), (5, 115), (5, 116), (1, 2), (5, 123), (5, 124), (1, 1), (5, 127), (5, 128), (1, 7), (5, 131), (5, 132), (1, 8), (5, 137), (5, 138), (1, 8), (5, 142), (5, 143), (1, 6), (5, 146), (5, 147), (1, 3), (5, 154), (5, 155), (1, 1), (5, 165), (5, 166), (1, 1), (5, 172), (5, 173), (1, 10), (5, 179), (5, 180), (1, 1), (5, 186), (5, 187), (1, 9), (5, 193), (5, 194), (1, 1), (5, 197), (5, 198), (1, 9), (5, 202), (5, 203), (1, 9), (5, 209), (1, 13), (6, 76), (6, 77), (1, 13), (6, 80), (6, 81), (1, 13), (6, 85), (0, 31), (1, 13), (6, 89), (0, 32), (1, 13), (6, 93), (0, 33), (1, 13), (6, 98), (0, 34), (1, 13), (6, 102), (0, 35), (1, 13), (6, 106), (0, 36), (1, 13), (6, 110), (0, 37), (1, 13), (6, 114), (0, 38), (1, 13), (6, 118), (0, 39), (1, 13), (6, 122), (0, 40), (1, 13), (6, 126), (0, 41), (1, 13), (6, 130), (0, 42), (1, 13), (6, 134), (0, 43), (1, 13), (6, 138), (0, 44), (1, 13), (6, 142), (0, 45), (1, 13), (6, 146), (0, 46), (1, 13), (6, 150), (0, 47), (1, 13), (6, 154), (0, 48), (1, 13), (6, 158), (0, 49), (1, 13), (6, 162), (0, 50), (1, 13), (6, 166), (0, 51), (1, 13), (6, 170), (0, 52), (1, 13), (6, 174), (0, 53), (1, 13), (6, 178), (0, 54), (1, 13), (6, 182), (0, 55), (1, 13), (6, 186), (0, 56), (1, 13), (6, 190), (0, 57), (1, 13), (6, 194), (0, 58), (1, 13), (6, 198), (0, 59), (1, 13), (6, 202), (0, 60), (1, 13), (6, 206), (0, 61), (1, 13), (6, 210), (0, 62), (1, 13), (6, 214), (0, 63), (1, 13), (6, 218), (0, 64), (1, 13), (6, 222), (0, 65), (1, 13), (6, 226), (0, 66), (1, 13), (6, 230), (0, 67), (1, 13), (6, 234), (0, 68), (1, 13), (6, 238), (0, 69), (1, 13), (7, 2), (0, 70), (1, 13), (7, 6), (0, 71), (1, 13), (7, 10), (0, 72), (1, 13), (7, 14), (0, 73), (1, 13), (7, 18), (0, 74), (1, 13), (7, 22), (0, 75), (1, 13), (7, 26), (0, 76), (1, 13), (7, 30), (0, 77), (1, 13), (7, 34), (0, 78), (1, 13), (7, 38), (0, 79), (1, 13), (7, 42), (0, 80), (1, 13), (7, 46), (0, 81), (1, 13), (7, 50), (0, 82), (1, 13), (7, 54), (0, 83), (1, 13), (7, 58), (0, 84), (1, 13), (7, 62), (0, 85), (1, 13), (7, 66), (0, 86), (1, 13), (7, 69), (7, 70), (1, 13), (7, 74), (0, 87), (1, 13), (7, 77), (7, 78), (1, 13), (7, 81), (7, 82), (1, 13), (7, 85), (7, 86), (1, 13), (7, 89), (7, 90), (1, 13), (7, 93), (7, 94), (1, 13), (7, 97), (7, 98), (1, 13), (7, 101), (7, 102), (1, 13), (7, 105), (7, 106), (1, 13), (7, 109), (7, 110), (1, 13), (7, 113), (7, 114), (1, 13), (2, 42), (2, 44), (2, 46), (2, 48), (2, 50), (2, 52), (1, 26), (1, 1), (1, 41), (1, 43), (1, 34), (1, 2), (1, 89), (1, 91), (1, 93), (1, 95), (1, 97), (1, 99), (1, 48), (1, 3), (1, 63), (1, 65), (1, 56), (1, 4), (1, 76), (1, 78), (1, 80), (1, 68), (1, 5), (1, 113), (1, 115), (1, 117), (1, 103), (1, 6), (1, 137), (1, 139), (1, 141), (1, 143), (1, 145), (1, 147), (1, 149), (1, 151), (1, 153), (1, 121), (1, 7), (1, 210), (1, 212), (1, 214), (1, 216), (1, 218), (1, 220), (1, 222), (1, 157), (1, 8), (1, 172), (1, 174)]
def xw_ix3 : List (Nat × Nat) := [(1, 176), (1, 163), (1, 9), (1, 191), (1, 193), (1, 195), (1, 197), (1, 199), (1, 180), (1, 10), (2, 25), (2, 27), (2, 29), (2, 31), (2, 33), (1, 226), (1, 11), (2, 7), (2, 9), (2, 11), (2, 13), (2, 15), (2, 17), (1, 236), (1, 12), (6, 6), (6, 8), (6, 10), (6, 12), (6, 14), (6, 16), (6, 18), (6, 20), (6, 22), (6, 24), (6, 26), (6, 28), (6, 30), (6, 32), (6, 34), (6, 36), (6, 38), (6, 40), (6, 42), (6, 44), (6, 46), (6, 48), (6, 50), (6, 52), (6, 54), (6, 56), (6, 58), (6, 60), (6, 62), (6, 64), (6, 66), (6, 68), (6, 70), (6, 72), (5, 207), (1, 13), (1, 31), (1, 32), (1, 46), (7, 116), (1, 202), (1, 54), (1, 109)]
def xw_in (q : (Nat × Nat) × Cond) : Bool := decide ((xw_ch q.1.1)[q.1.2]? = some q.2)
def xm_V : List Cond := xm_lks.flatMap (fun t => t.map (fun q => q.2)) ++ ((List.range xm_nM).flatMap (fun j => (xm_mw j).tail) ++ ((List.range xm_cl.length).flatMap xm_cw ++ xm_xw))
set_option maxRecDepth 200000 in
theorem xw_k0 : (xw_ix0.zip ((xm_V.drop 0).take 400)).all xw_in = true := by decide +kernel
set_option maxRecDepth 200000 in
theorem xw_k1 : (xw_ix1.zip ((xm_V.drop 400).take 400)).all xw_in = true := by decide +kernel
set_option maxRecDepth 200000 in
theorem xw_k2 : (xw_ix2.zip ((xm_V.drop 800).take 400)).all xw_in = true := by decide +kernel
set_option maxRecDepth 200000 in
theorem xw_k3 : (xw_ix3.zip ((xm_V.drop 1200).take 400)).all xw_in = true := by decide +kernel
set_option maxRecDepth 200000 in
theorem xw_l0 : xw_ix0.length = 400 := by decide +kernel
set_option maxRecDepth 200000 in
theorem xw_l1 : xw_ix1.length = 400 := by decide +kernel
set_option maxRecDepth 200000 in
theorem xw_l2 : xw_ix2.length = 400 := by decide +kernel
set_option maxRecDepth 200000 in
theorem xw_l3 : xw_ix3.length = 68 := by decide +kernel
set_option maxRecDepth 200000 in
theorem xw_len : xm_V.length = 1268 := by decide +kernel
theorem xw_mem {w : Cond} {c i : Nat} (h : (xw_ch c)[i]? = some w) : w ∈ lw_tbl := by
  have h1 : w ∈ xw_ch c := List.mem_of_getElem? h
  unfold lw_tbl tables_1
  simp only [List.mem_append]
  unfold xw_ch at h1
  split at h1
  · exact Or.inl h1
  · exact Or.inr (Or.inl h1)
  · exact Or.inr (Or.inr (Or.inl h1))
  · exact Or.inr (Or.inr (Or.inr (Or.inl h1)))
  · exact Or.inr (Or.inr (Or.inr (Or.inr (Or.inl h1))))
  · exact Or.inr (Or.inr (Or.inr (Or.inr (Or.inr (Or.inl h1)))))
  · exact Or.inr (Or.inr (Or.inr (Or.inr (Or.inr (Or.inr (Or.inl h1))))))
  · exact Or.inr (Or.inr (Or.inr (Or.inr (Or.inr (Or.inr (Or.inr (h1)))))))
  · cases h1
theorem xw_piece {ixs : List (Nat × Nat)} {ws : List Cond} (hl : ixs.length = ws.length) (h : (ixs.zip ws).all xw_in = true) : ∀ w ∈ ws, w ∈ lw_tbl := by
  intro w hw
  obtain ⟨i, hi, rfl⟩ := List.getElem_of_mem hw
  have hi2 : i < ixs.length := by omega
  have hz : (ixs[i], ws[i]) ∈ ixs.zip ws := by
    have h3 : i < (ixs.zip ws).length := by rw [List.length_zip]; omega
    have h4 := List.getElem_mem h3
    rwa [List.getElem_zip] at h4
  have h5 := List.all_eq_true.mp h _ hz
  exact xw_mem (of_decide_eq_true h5)
theorem xm_V_in : ∀ w ∈ xm_V, w ∈ lw_tbl := by
  intro w hw
  obtain ⟨i, hi, rfl⟩ := List.getElem_of_mem hw
  have hl := xw_len
  have key : ∀ (n : Nat) (ixs : List (Nat × Nat)), (ixs.zip ((xm_V.drop (n * 400)).take 400)).all xw_in = true → ixs.length = ((xm_V.drop (n * 400)).take 400).length → n * 400 ≤ i → i < n * 400 + 400 → xm_V[i] ∈ lw_tbl := by
    intro n ixs h1 h2 h3 h4
    refine xw_piece h2 h1 _ ?_
    refine List.mem_of_getElem? (i := i - n * 400) ?_
    rw [List.getElem?_take, if_pos (by omega), List.getElem?_drop, show n * 400 + (i - n * 400) = i by omega]
    exact List.getElem?_eq_getElem hi
  have hi0 : i < 1268 := by omega
  rcases Nat.lt_or_ge i 400 with h | h
  · exact key 0 xw_ix0 xw_k0 (by rw [List.length_take, List.length_drop, hl, xw_l0]; rfl) (by omega) (by omega)
  rcases Nat.lt_or_ge i 800 with h | h
  · exact key 1 xw_ix1 xw_k1 (by rw [List.length_take, List.length_drop, hl, xw_l1]; rfl) (by omega) (by omega)
  rcases Nat.lt_or_ge i 1200 with h | h
  · exact key 2 xw_ix2 xw_k2 (by rw [List.length_take, List.length_drop, hl, xw_l2]; rfl) (by omega) (by omega)
  exact key 3 xw_ix3 xw_k3 (by rw [List.length_take, List.length_drop, hl, xw_l3]; rfl) (by omega) (by omega)
def xc_P (j : Nat) : Prop := Cond.code (xm_nm j) (xm_by j) (xm_ml j) (xm_rt j) ∈ lw_tbl
theorem xc0 : xc_P 0 := xw_mem (c := 1) (i := 29) rfl
theorem xc1 : xc_P 1 := xw_mem (c := 1) (i := 37) rfl
theorem xc2 : xc_P 2 := xw_mem (c := 1) (i := 51) rfl
theorem xc3 : xc_P 3 := xw_mem (c := 1) (i := 59) rfl
theorem xc4 : xc_P 4 := xw_mem (c := 1) (i := 71) rfl
theorem xc5 : xc_P 5 := xw_mem (c := 1) (i := 106) rfl
theorem xc6 : xc_P 6 := xw_mem (c := 1) (i := 124) rfl
theorem xc7 : xc_P 7 := xw_mem (c := 1) (i := 160) rfl
theorem xc8 : xc_P 8 := xw_mem (c := 1) (i := 166) rfl
theorem xc9 : xc_P 9 := xw_mem (c := 1) (i := 183) rfl
theorem xc10 : xc_P 10 := xw_mem (c := 1) (i := 230) rfl
theorem xc11 : xc_P 11 := xw_mem (c := 1) (i := 233) rfl
theorem xc12 : xc_P 12 := xw_mem (c := 1) (i := 239) rfl
theorem xc13 : xc_P 13 := xw_mem (c := 2) (i := 58) rfl
theorem xc14 : xc_P 14 := xw_mem (c := 2) (i := 62) rfl
theorem xc15 : xc_P 15 := xw_mem (c := 2) (i := 66) rfl
theorem xc16 : xc_P 16 := xw_mem (c := 2) (i := 69) rfl
theorem xc17 : xc_P 17 := xw_mem (c := 2) (i := 73) rfl
theorem xc18 : xc_P 18 := xw_mem (c := 2) (i := 77) rfl
theorem xc19 : xc_P 19 := xw_mem (c := 2) (i := 81) rfl
theorem xc20 : xc_P 20 := xw_mem (c := 2) (i := 85) rfl
theorem xc21 : xc_P 21 := xw_mem (c := 2) (i := 89) rfl
theorem xc22 : xc_P 22 := xw_mem (c := 2) (i := 93) rfl
theorem xc23 : xc_P 23 := xw_mem (c := 2) (i := 97) rfl
theorem xc24 : xc_P 24 := xw_mem (c := 2) (i := 101) rfl
theorem xc25 : xc_P 25 := xw_mem (c := 2) (i := 105) rfl
theorem xc26 : xc_P 26 := xw_mem (c := 2) (i := 108) rfl
theorem xc27 : xc_P 27 := xw_mem (c := 2) (i := 112) rfl
theorem xc28 : xc_P 28 := xw_mem (c := 2) (i := 116) rfl
theorem xc29 : xc_P 29 := xw_mem (c := 2) (i := 119) rfl
theorem xc30 : xc_P 30 := xw_mem (c := 2) (i := 124) rfl
theorem xc31 : xc_P 31 := xw_mem (c := 2) (i := 129) rfl
theorem xc32 : xc_P 32 := xw_mem (c := 2) (i := 133) rfl
theorem xc33 : xc_P 33 := xw_mem (c := 2) (i := 137) rfl
theorem xc34 : xc_P 34 := xw_mem (c := 2) (i := 141) rfl
theorem xc35 : xc_P 35 := xw_mem (c := 2) (i := 145) rfl
theorem xc36 : xc_P 36 := xw_mem (c := 2) (i := 149) rfl
theorem xc37 : xc_P 37 := xw_mem (c := 2) (i := 153) rfl
theorem xc38 : xc_P 38 := xw_mem (c := 2) (i := 157) rfl
theorem xc39 : xc_P 39 := xw_mem (c := 2) (i := 161) rfl
theorem xc40 : xc_P 40 := xw_mem (c := 2) (i := 165) rfl
theorem xc41 : xc_P 41 := xw_mem (c := 2) (i := 168) rfl
theorem xc42 : xc_P 42 := xw_mem (c := 2) (i := 172) rfl
theorem xc43 : xc_P 43 := xw_mem (c := 2) (i := 176) rfl
theorem xc44 : xc_P 44 := xw_mem (c := 2) (i := 180) rfl
theorem xc45 : xc_P 45 := xw_mem (c := 2) (i := 188) rfl
theorem xc46 : xc_P 46 := xw_mem (c := 3) (i := 20) rfl
theorem xc47 : xc_P 47 := xw_mem (c := 3) (i := 24) rfl
theorem xc48 : xc_P 48 := xw_mem (c := 3) (i := 28) rfl
theorem xc49 : xc_P 49 := xw_mem (c := 3) (i := 31) rfl
theorem xc50 : xc_P 50 := xw_mem (c := 3) (i := 35) rfl
theorem xc51 : xc_P 51 := xw_mem (c := 3) (i := 40) rfl
theorem xc52 : xc_P 52 := xw_mem (c := 3) (i := 44) rfl
theorem xc53 : xc_P 53 := xw_mem (c := 3) (i := 48) rfl
theorem xc54 : xc_P 54 := xw_mem (c := 3) (i := 53) rfl
theorem xc55 : xc_P 55 := xw_mem (c := 3) (i := 57) rfl
theorem xc56 : xc_P 56 := xw_mem (c := 3) (i := 62) rfl
theorem xc57 : xc_P 57 := xw_mem (c := 3) (i := 66) rfl
theorem xc58 : xc_P 58 := xw_mem (c := 3) (i := 70) rfl
theorem xc59 : xc_P 59 := xw_mem (c := 3) (i := 74) rfl
theorem xc60 : xc_P 60 := xw_mem (c := 3) (i := 78) rfl
theorem xc61 : xc_P 61 := xw_mem (c := 3) (i := 82) rfl
theorem xc62 : xc_P 62 := xw_mem (c := 3) (i := 86) rfl
theorem xc63 : xc_P 63 := xw_mem (c := 3) (i := 91) rfl
theorem xc64 : xc_P 64 := xw_mem (c := 3) (i := 95) rfl
theorem xc65 : xc_P 65 := xw_mem (c := 3) (i := 99) rfl
theorem xc66 : xc_P 66 := xw_mem (c := 3) (i := 103) rfl
theorem xc67 : xc_P 67 := xw_mem (c := 3) (i := 107) rfl
theorem xc68 : xc_P 68 := xw_mem (c := 3) (i := 111) rfl
theorem xc69 : xc_P 69 := xw_mem (c := 3) (i := 116) rfl
theorem xc70 : xc_P 70 := xw_mem (c := 3) (i := 121) rfl
theorem xc71 : xc_P 71 := xw_mem (c := 3) (i := 127) rfl
theorem xc72 : xc_P 72 := xw_mem (c := 3) (i := 131) rfl
theorem xc73 : xc_P 73 := xw_mem (c := 3) (i := 135) rfl
theorem xc74 : xc_P 74 := xw_mem (c := 3) (i := 139) rfl
theorem xc75 : xc_P 75 := xw_mem (c := 3) (i := 142) rfl
theorem xc76 : xc_P 76 := xw_mem (c := 3) (i := 148) rfl
theorem xc77 : xc_P 77 := xw_mem (c := 3) (i := 152) rfl
theorem xc78 : xc_P 78 := xw_mem (c := 3) (i := 156) rfl
theorem xc79 : xc_P 79 := xw_mem (c := 3) (i := 160) rfl
theorem xc80 : xc_P 80 := xw_mem (c := 3) (i := 165) rfl
theorem xc81 : xc_P 81 := xw_mem (c := 3) (i := 169) rfl
theorem xc82 : xc_P 82 := xw_mem (c := 3) (i := 172) rfl
theorem xc83 : xc_P 83 := xw_mem (c := 3) (i := 175) rfl
theorem xc84 : xc_P 84 := xw_mem (c := 3) (i := 179) rfl
theorem xc85 : xc_P 85 := xw_mem (c := 3) (i := 183) rfl
theorem xc86 : xc_P 86 := xw_mem (c := 3) (i := 187) rfl
theorem xc87 : xc_P 87 := xw_mem (c := 3) (i := 191) rfl
theorem xc88 : xc_P 88 := xw_mem (c := 3) (i := 195) rfl
theorem xc89 : xc_P 89 := xw_mem (c := 3) (i := 199) rfl
theorem xc90 : xc_P 90 := xw_mem (c := 3) (i := 203) rfl
theorem xc91 : xc_P 91 := xw_mem (c := 3) (i := 207) rfl
theorem xc92 : xc_P 92 := xw_mem (c := 3) (i := 211) rfl
theorem xc93 : xc_P 93 := xw_mem (c := 3) (i := 216) rfl
theorem xc94 : xc_P 94 := xw_mem (c := 3) (i := 219) rfl
theorem xc95 : xc_P 95 := xw_mem (c := 3) (i := 223) rfl
theorem xc96 : xc_P 96 := xw_mem (c := 3) (i := 227) rfl
theorem xc97 : xc_P 97 := xw_mem (c := 3) (i := 232) rfl
theorem xc98 : xc_P 98 := xw_mem (c := 3) (i := 237) rfl
theorem xc99 : xc_P 99 := xw_mem (c := 4) (i := 1) rfl
theorem xc100 : xc_P 100 := xw_mem (c := 4) (i := 5) rfl
theorem xc101 : xc_P 101 := xw_mem (c := 4) (i := 9) rfl
theorem xc102 : xc_P 102 := xw_mem (c := 4) (i := 13) rfl
theorem xc103 : xc_P 103 := xw_mem (c := 4) (i := 17) rfl
theorem xc104 : xc_P 104 := xw_mem (c := 4) (i := 21) rfl
theorem xc105 : xc_P 105 := xw_mem (c := 4) (i := 26) rfl
theorem xc106 : xc_P 106 := xw_mem (c := 4) (i := 30) rfl
theorem xc107 : xc_P 107 := xw_mem (c := 4) (i := 34) rfl
theorem xc108 : xc_P 108 := xw_mem (c := 4) (i := 39) rfl
theorem xc109 : xc_P 109 := xw_mem (c := 4) (i := 44) rfl
theorem xc110 : xc_P 110 := xw_mem (c := 4) (i := 50) rfl
theorem xc111 : xc_P 111 := xw_mem (c := 4) (i := 103) rfl
theorem xc112 : xc_P 112 := xw_mem (c := 4) (i := 109) rfl
theorem xc113 : xc_P 113 := xw_mem (c := 4) (i := 114) rfl
theorem xc114 : xc_P 114 := xw_mem (c := 4) (i := 119) rfl
theorem xc115 : xc_P 115 := xw_mem (c := 4) (i := 123) rfl
theorem xc116 : xc_P 116 := xw_mem (c := 4) (i := 127) rfl
theorem xc117 : xc_P 117 := xw_mem (c := 4) (i := 131) rfl
theorem xc118 : xc_P 118 := xw_mem (c := 4) (i := 135) rfl
theorem xc119 : xc_P 119 := xw_mem (c := 4) (i := 139) rfl
theorem xc120 : xc_P 120 := xw_mem (c := 4) (i := 144) rfl
theorem xc121 : xc_P 121 := xw_mem (c := 4) (i := 148) rfl
theorem xc122 : xc_P 122 := xw_mem (c := 4) (i := 153) rfl
theorem xc123 : xc_P 123 := xw_mem (c := 4) (i := 156) rfl
theorem xc124 : xc_P 124 := xw_mem (c := 4) (i := 164) rfl
theorem xc125 : xc_P 125 := xw_mem (c := 4) (i := 171) rfl
theorem xc126 : xc_P 126 := xw_mem (c := 4) (i := 175) rfl
theorem xc127 : xc_P 127 := xw_mem (c := 4) (i := 180) rfl
theorem xc128 : xc_P 128 := xw_mem (c := 4) (i := 188) rfl
theorem xc129 : xc_P 129 := xw_mem (c := 4) (i := 192) rfl
theorem xc130 : xc_P 130 := xw_mem (c := 4) (i := 196) rfl
theorem xc131 : xc_P 131 := xw_mem (c := 4) (i := 200) rfl
theorem xc132 : xc_P 132 := xw_mem (c := 4) (i := 205) rfl
theorem xc133 : xc_P 133 := xw_mem (c := 4) (i := 209) rfl
theorem xc134 : xc_P 134 := xw_mem (c := 4) (i := 213) rfl
theorem xc135 : xc_P 135 := xw_mem (c := 4) (i := 217) rfl
theorem xc136 : xc_P 136 := xw_mem (c := 4) (i := 222) rfl
theorem xc137 : xc_P 137 := xw_mem (c := 4) (i := 226) rfl
theorem xc138 : xc_P 138 := xw_mem (c := 4) (i := 230) rfl
theorem xc139 : xc_P 139 := xw_mem (c := 4) (i := 234) rfl
theorem xc140 : xc_P 140 := xw_mem (c := 4) (i := 238) rfl
theorem xc141 : xc_P 141 := xw_mem (c := 5) (i := 3) rfl
theorem xc142 : xc_P 142 := xw_mem (c := 5) (i := 9) rfl
theorem xc143 : xc_P 143 := xw_mem (c := 5) (i := 13) rfl
theorem xc144 : xc_P 144 := xw_mem (c := 5) (i := 20) rfl
theorem xc145 : xc_P 145 := xw_mem (c := 5) (i := 28) rfl
theorem xc146 : xc_P 146 := xw_mem (c := 5) (i := 33) rfl
theorem xc147 : xc_P 147 := xw_mem (c := 5) (i := 39) rfl
theorem xc148 : xc_P 148 := xw_mem (c := 5) (i := 43) rfl
theorem xc149 : xc_P 149 := xw_mem (c := 5) (i := 51) rfl
theorem xc150 : xc_P 150 := xw_mem (c := 5) (i := 72) rfl
theorem xc151 : xc_P 151 := xw_mem (c := 5) (i := 80) rfl
theorem xc152 : xc_P 152 := xw_mem (c := 5) (i := 85) rfl
theorem xc153 : xc_P 153 := xw_mem (c := 5) (i := 93) rfl
theorem xc154 : xc_P 154 := xw_mem (c := 5) (i := 97) rfl
theorem xc155 : xc_P 155 := xw_mem (c := 5) (i := 117) rfl
theorem xc156 : xc_P 156 := xw_mem (c := 5) (i := 125) rfl
theorem xc157 : xc_P 157 := xw_mem (c := 5) (i := 129) rfl
theorem xc158 : xc_P 158 := xw_mem (c := 5) (i := 133) rfl
theorem xc159 : xc_P 159 := xw_mem (c := 5) (i := 139) rfl
theorem xc160 : xc_P 160 := xw_mem (c := 5) (i := 144) rfl
theorem xc161 : xc_P 161 := xw_mem (c := 5) (i := 148) rfl
theorem xc162 : xc_P 162 := xw_mem (c := 5) (i := 156) rfl
theorem xc163 : xc_P 163 := xw_mem (c := 5) (i := 167) rfl
theorem xc164 : xc_P 164 := xw_mem (c := 5) (i := 174) rfl
theorem xc165 : xc_P 165 := xw_mem (c := 5) (i := 181) rfl
theorem xc166 : xc_P 166 := xw_mem (c := 5) (i := 188) rfl
theorem xc167 : xc_P 167 := xw_mem (c := 5) (i := 195) rfl
theorem xc168 : xc_P 168 := xw_mem (c := 5) (i := 199) rfl
theorem xc169 : xc_P 169 := xw_mem (c := 5) (i := 204) rfl
theorem xc170 : xc_P 170 := xw_mem (c := 5) (i := 210) rfl
theorem xc171 : xc_P 171 := xw_mem (c := 6) (i := 78) rfl
theorem xc172 : xc_P 172 := xw_mem (c := 6) (i := 82) rfl
theorem xc173 : xc_P 173 := xw_mem (c := 6) (i := 86) rfl
theorem xc174 : xc_P 174 := xw_mem (c := 6) (i := 90) rfl
theorem xc175 : xc_P 175 := xw_mem (c := 6) (i := 94) rfl
theorem xc176 : xc_P 176 := xw_mem (c := 6) (i := 99) rfl
theorem xc177 : xc_P 177 := xw_mem (c := 6) (i := 103) rfl
theorem xc178 : xc_P 178 := xw_mem (c := 6) (i := 107) rfl
theorem xc179 : xc_P 179 := xw_mem (c := 6) (i := 111) rfl
theorem xc180 : xc_P 180 := xw_mem (c := 6) (i := 115) rfl
theorem xc181 : xc_P 181 := xw_mem (c := 6) (i := 119) rfl
theorem xc182 : xc_P 182 := xw_mem (c := 6) (i := 123) rfl
theorem xc183 : xc_P 183 := xw_mem (c := 6) (i := 127) rfl
theorem xc184 : xc_P 184 := xw_mem (c := 6) (i := 131) rfl
theorem xc185 : xc_P 185 := xw_mem (c := 6) (i := 135) rfl
theorem xc186 : xc_P 186 := xw_mem (c := 6) (i := 139) rfl
theorem xc187 : xc_P 187 := xw_mem (c := 6) (i := 143) rfl
theorem xc188 : xc_P 188 := xw_mem (c := 6) (i := 147) rfl
theorem xc189 : xc_P 189 := xw_mem (c := 6) (i := 151) rfl
theorem xc190 : xc_P 190 := xw_mem (c := 6) (i := 155) rfl
theorem xc191 : xc_P 191 := xw_mem (c := 6) (i := 159) rfl
theorem xc192 : xc_P 192 := xw_mem (c := 6) (i := 163) rfl
theorem xc193 : xc_P 193 := xw_mem (c := 6) (i := 167) rfl
theorem xc194 : xc_P 194 := xw_mem (c := 6) (i := 171) rfl
theorem xc195 : xc_P 195 := xw_mem (c := 6) (i := 175) rfl
theorem xc196 : xc_P 196 := xw_mem (c := 6) (i := 179) rfl
theorem xc197 : xc_P 197 := xw_mem (c := 6) (i := 183) rfl
theorem xc198 : xc_P 198 := xw_mem (c := 6) (i := 187) rfl
theorem xc199 : xc_P 199 := xw_mem (c := 6) (i := 191) rfl
theorem xc200 : xc_P 200 := xw_mem (c := 6) (i := 195) rfl
theorem xc201 : xc_P 201 := xw_mem (c := 6) (i := 199) rfl
theorem xc202 : xc_P 202 := xw_mem (c := 6) (i := 203) rfl
theorem xc203 : xc_P 203 := xw_mem (c := 6) (i := 207) rfl
theorem xc204 : xc_P 204 := xw_mem (c := 6) (i := 211) rfl
theorem xc205 : xc_P 205 := xw_mem (c := 6) (i := 215) rfl
theorem xc206 : xc_P 206 := xw_mem (c := 6) (i := 219) rfl
theorem xc207 : xc_P 207 := xw_mem (c := 6) (i := 223) rfl
theorem xc208 : xc_P 208 := xw_mem (c := 6) (i := 227) rfl
theorem xc209 : xc_P 209 := xw_mem (c := 6) (i := 231) rfl
theorem xc210 : xc_P 210 := xw_mem (c := 6) (i := 235) rfl
theorem xc211 : xc_P 211 := xw_mem (c := 6) (i := 239) rfl
theorem xc212 : xc_P 212 := xw_mem (c := 7) (i := 3) rfl
theorem xc213 : xc_P 213 := xw_mem (c := 7) (i := 7) rfl
theorem xc214 : xc_P 214 := xw_mem (c := 7) (i := 11) rfl
theorem xc215 : xc_P 215 := xw_mem (c := 7) (i := 15) rfl
theorem xc216 : xc_P 216 := xw_mem (c := 7) (i := 19) rfl
theorem xc217 : xc_P 217 := xw_mem (c := 7) (i := 23) rfl
theorem xc218 : xc_P 218 := xw_mem (c := 7) (i := 27) rfl
theorem xc219 : xc_P 219 := xw_mem (c := 7) (i := 31) rfl
theorem xc220 : xc_P 220 := xw_mem (c := 7) (i := 35) rfl
theorem xc221 : xc_P 221 := xw_mem (c := 7) (i := 39) rfl
theorem xc222 : xc_P 222 := xw_mem (c := 7) (i := 43) rfl
theorem xc223 : xc_P 223 := xw_mem (c := 7) (i := 47) rfl
theorem xc224 : xc_P 224 := xw_mem (c := 7) (i := 51) rfl
theorem xc225 : xc_P 225 := xw_mem (c := 7) (i := 55) rfl
theorem xc226 : xc_P 226 := xw_mem (c := 7) (i := 59) rfl
theorem xc227 : xc_P 227 := xw_mem (c := 7) (i := 63) rfl
theorem xc228 : xc_P 228 := xw_mem (c := 7) (i := 67) rfl
theorem xc229 : xc_P 229 := xw_mem (c := 7) (i := 71) rfl
theorem xc230 : xc_P 230 := xw_mem (c := 7) (i := 75) rfl
theorem xc231 : xc_P 231 := xw_mem (c := 7) (i := 79) rfl
theorem xc232 : xc_P 232 := xw_mem (c := 7) (i := 83) rfl
theorem xc233 : xc_P 233 := xw_mem (c := 7) (i := 87) rfl
theorem xc234 : xc_P 234 := xw_mem (c := 7) (i := 91) rfl
theorem xc235 : xc_P 235 := xw_mem (c := 7) (i := 95) rfl
theorem xc236 : xc_P 236 := xw_mem (c := 7) (i := 99) rfl
theorem xc237 : xc_P 237 := xw_mem (c := 7) (i := 103) rfl
theorem xc238 : xc_P 238 := xw_mem (c := 7) (i := 107) rfl
theorem xc239 : xc_P 239 := xw_mem (c := 7) (i := 111) rfl
theorem xc240 : xc_P 240 := xw_mem (c := 7) (i := 115) rfl
theorem xc_all (j : Nat) (hj : j < 241) : xc_P j := by
  rcases Nat.lt_or_ge j 120 with h120 | h120
  · rcases Nat.lt_or_ge j 60 with h60 | h60
    · rcases Nat.lt_or_ge j 30 with h30 | h30
      · rcases Nat.lt_or_ge j 15 with h15 | h15
        · rcases Nat.lt_or_ge j 7 with h7 | h7
          · rcases Nat.lt_or_ge j 3 with h3 | h3
            · rcases Nat.lt_or_ge j 1 with h1 | h1
              · obtain rfl : j = 0 := by omega
                exact xc0
              · rcases Nat.lt_or_ge j 2 with h2 | h2
                · obtain rfl : j = 1 := by omega
                  exact xc1
                · obtain rfl : j = 2 := by omega
                  exact xc2
            · rcases Nat.lt_or_ge j 5 with h5 | h5
              · rcases Nat.lt_or_ge j 4 with h4 | h4
                · obtain rfl : j = 3 := by omega
                  exact xc3
                · obtain rfl : j = 4 := by omega
                  exact xc4
              · rcases Nat.lt_or_ge j 6 with h6 | h6
                · obtain rfl : j = 5 := by omega
                  exact xc5
                · obtain rfl : j = 6 := by omega
                  exact xc6
          · rcases Nat.lt_or_ge j 11 with h11 | h11
            · rcases Nat.lt_or_ge j 9 with h9 | h9
              · rcases Nat.lt_or_ge j 8 with h8 | h8
                · obtain rfl : j = 7 := by omega
                  exact xc7
                · obtain rfl : j = 8 := by omega
                  exact xc8
              · rcases Nat.lt_or_ge j 10 with h10 | h10
                · obtain rfl : j = 9 := by omega
                  exact xc9
                · obtain rfl : j = 10 := by omega
                  exact xc10
            · rcases Nat.lt_or_ge j 13 with h13 | h13
              · rcases Nat.lt_or_ge j 12 with h12 | h12
                · obtain rfl : j = 11 := by omega
                  exact xc11
                · obtain rfl : j = 12 := by omega
                  exact xc12
              · rcases Nat.lt_or_ge j 14 with h14 | h14
                · obtain rfl : j = 13 := by omega
                  exact xc13
                · obtain rfl : j = 14 := by omega
                  exact xc14
        · rcases Nat.lt_or_ge j 22 with h22 | h22
          · rcases Nat.lt_or_ge j 18 with h18 | h18
            · rcases Nat.lt_or_ge j 16 with h16 | h16
              · obtain rfl : j = 15 := by omega
                exact xc15
              · rcases Nat.lt_or_ge j 17 with h17 | h17
                · obtain rfl : j = 16 := by omega
                  exact xc16
                · obtain rfl : j = 17 := by omega
                  exact xc17
            · rcases Nat.lt_or_ge j 20 with h20 | h20
              · rcases Nat.lt_or_ge j 19 with h19 | h19
                · obtain rfl : j = 18 := by omega
                  exact xc18
                · obtain rfl : j = 19 := by omega
                  exact xc19
              · rcases Nat.lt_or_ge j 21 with h21 | h21
                · obtain rfl : j = 20 := by omega
                  exact xc20
                · obtain rfl : j = 21 := by omega
                  exact xc21
          · rcases Nat.lt_or_ge j 26 with h26 | h26
            · rcases Nat.lt_or_ge j 24 with h24 | h24
              · rcases Nat.lt_or_ge j 23 with h23 | h23
                · obtain rfl : j = 22 := by omega
                  exact xc22
                · obtain rfl : j = 23 := by omega
                  exact xc23
              · rcases Nat.lt_or_ge j 25 with h25 | h25
                · obtain rfl : j = 24 := by omega
                  exact xc24
                · obtain rfl : j = 25 := by omega
                  exact xc25
            · rcases Nat.lt_or_ge j 28 with h28 | h28
              · rcases Nat.lt_or_ge j 27 with h27 | h27
                · obtain rfl : j = 26 := by omega
                  exact xc26
                · obtain rfl : j = 27 := by omega
                  exact xc27
              · rcases Nat.lt_or_ge j 29 with h29 | h29
                · obtain rfl : j = 28 := by omega
                  exact xc28
                · obtain rfl : j = 29 := by omega
                  exact xc29
      · rcases Nat.lt_or_ge j 45 with h45 | h45
        · rcases Nat.lt_or_ge j 37 with h37 | h37
          · rcases Nat.lt_or_ge j 33 with h33 | h33
            · rcases Nat.lt_or_ge j 31 with h31 | h31
              · obtain rfl : j = 30 := by omega
                exact xc30
              · rcases Nat.lt_or_ge j 32 with h32 | h32
                · obtain rfl : j = 31 := by omega
                  exact xc31
                · obtain rfl : j = 32 := by omega
                  exact xc32
            · rcases Nat.lt_or_ge j 35 with h35 | h35
              · rcases Nat.lt_or_ge j 34 with h34 | h34
                · obtain rfl : j = 33 := by omega
                  exact xc33
                · obtain rfl : j = 34 := by omega
                  exact xc34
              · rcases Nat.lt_or_ge j 36 with h36 | h36
                · obtain rfl : j = 35 := by omega
                  exact xc35
                · obtain rfl : j = 36 := by omega
                  exact xc36
          · rcases Nat.lt_or_ge j 41 with h41 | h41
            · rcases Nat.lt_or_ge j 39 with h39 | h39
              · rcases Nat.lt_or_ge j 38 with h38 | h38
                · obtain rfl : j = 37 := by omega
                  exact xc37
                · obtain rfl : j = 38 := by omega
                  exact xc38
              · rcases Nat.lt_or_ge j 40 with h40 | h40
                · obtain rfl : j = 39 := by omega
                  exact xc39
                · obtain rfl : j = 40 := by omega
                  exact xc40
            · rcases Nat.lt_or_ge j 43 with h43 | h43
              · rcases Nat.lt_or_ge j 42 with h42 | h42
                · obtain rfl : j = 41 := by omega
                  exact xc41
                · obtain rfl : j = 42 := by omega
                  exact xc42
              · rcases Nat.lt_or_ge j 44 with h44 | h44
                · obtain rfl : j = 43 := by omega
                  exact xc43
                · obtain rfl : j = 44 := by omega
                  exact xc44
        · rcases Nat.lt_or_ge j 52 with h52 | h52
          · rcases Nat.lt_or_ge j 48 with h48 | h48
            · rcases Nat.lt_or_ge j 46 with h46 | h46
              · obtain rfl : j = 45 := by omega
                exact xc45
              · rcases Nat.lt_or_ge j 47 with h47 | h47
                · obtain rfl : j = 46 := by omega
                  exact xc46
                · obtain rfl : j = 47 := by omega
                  exact xc47
            · rcases Nat.lt_or_ge j 50 with h50 | h50
              · rcases Nat.lt_or_ge j 49 with h49 | h49
                · obtain rfl : j = 48 := by omega
                  exact xc48
                · obtain rfl : j = 49 := by omega
                  exact xc49
              · rcases Nat.lt_or_ge j 51 with h51 | h51
                · obtain rfl : j = 50 := by omega
                  exact xc50
                · obtain rfl : j = 51 := by omega
                  exact xc51
          · rcases Nat.lt_or_ge j 56 with h56 | h56
            · rcases Nat.lt_or_ge j 54 with h54 | h54
              · rcases Nat.lt_or_ge j 53 with h53 | h53
                · obtain rfl : j = 52 := by omega
                  exact xc52
                · obtain rfl : j = 53 := by omega
                  exact xc53
              · rcases Nat.lt_or_ge j 55 with h55 | h55
                · obtain rfl : j = 54 := by omega
                  exact xc54
                · obtain rfl : j = 55 := by omega
                  exact xc55
            · rcases Nat.lt_or_ge j 58 with h58 | h58
              · rcases Nat.lt_or_ge j 57 with h57 | h57
                · obtain rfl : j = 56 := by omega
                  exact xc56
                · obtain rfl : j = 57 := by omega
                  exact xc57
              · rcases Nat.lt_or_ge j 59 with h59 | h59
                · obtain rfl : j = 58 := by omega
                  exact xc58
                · obtain rfl : j = 59 := by omega
                  exact xc59
    · rcases Nat.lt_or_ge j 90 with h90 | h90
      · rcases Nat.lt_or_ge j 75 with h75 | h75
        · rcases Nat.lt_or_ge j 67 with h67 | h67
          · rcases Nat.lt_or_ge j 63 with h63 | h63
            · rcases Nat.lt_or_ge j 61 with h61 | h61
              · obtain rfl : j = 60 := by omega
                exact xc60
              · rcases Nat.lt_or_ge j 62 with h62 | h62
                · obtain rfl : j = 61 := by omega
                  exact xc61
                · obtain rfl : j = 62 := by omega
                  exact xc62
            · rcases Nat.lt_or_ge j 65 with h65 | h65
              · rcases Nat.lt_or_ge j 64 with h64 | h64
                · obtain rfl : j = 63 := by omega
                  exact xc63
                · obtain rfl : j = 64 := by omega
                  exact xc64
              · rcases Nat.lt_or_ge j 66 with h66 | h66
                · obtain rfl : j = 65 := by omega
                  exact xc65
                · obtain rfl : j = 66 := by omega
                  exact xc66
          · rcases Nat.lt_or_ge j 71 with h71 | h71
            · rcases Nat.lt_or_ge j 69 with h69 | h69
              · rcases Nat.lt_or_ge j 68 with h68 | h68
                · obtain rfl : j = 67 := by omega
                  exact xc67
                · obtain rfl : j = 68 := by omega
                  exact xc68
              · rcases Nat.lt_or_ge j 70 with h70 | h70
                · obtain rfl : j = 69 := by omega
                  exact xc69
                · obtain rfl : j = 70 := by omega
                  exact xc70
            · rcases Nat.lt_or_ge j 73 with h73 | h73
              · rcases Nat.lt_or_ge j 72 with h72 | h72
                · obtain rfl : j = 71 := by omega
                  exact xc71
                · obtain rfl : j = 72 := by omega
                  exact xc72
              · rcases Nat.lt_or_ge j 74 with h74 | h74
                · obtain rfl : j = 73 := by omega
                  exact xc73
                · obtain rfl : j = 74 := by omega
                  exact xc74
        · rcases Nat.lt_or_ge j 82 with h82 | h82
          · rcases Nat.lt_or_ge j 78 with h78 | h78
            · rcases Nat.lt_or_ge j 76 with h76 | h76
              · obtain rfl : j = 75 := by omega
                exact xc75
              · rcases Nat.lt_or_ge j 77 with h77 | h77
                · obtain rfl : j = 76 := by omega
                  exact xc76
                · obtain rfl : j = 77 := by omega
                  exact xc77
            · rcases Nat.lt_or_ge j 80 with h80 | h80
              · rcases Nat.lt_or_ge j 79 with h79 | h79
                · obtain rfl : j = 78 := by omega
                  exact xc78
                · obtain rfl : j = 79 := by omega
                  exact xc79
              · rcases Nat.lt_or_ge j 81 with h81 | h81
                · obtain rfl : j = 80 := by omega
                  exact xc80
                · obtain rfl : j = 81 := by omega
                  exact xc81
          · rcases Nat.lt_or_ge j 86 with h86 | h86
            · rcases Nat.lt_or_ge j 84 with h84 | h84
              · rcases Nat.lt_or_ge j 83 with h83 | h83
                · obtain rfl : j = 82 := by omega
                  exact xc82
                · obtain rfl : j = 83 := by omega
                  exact xc83
              · rcases Nat.lt_or_ge j 85 with h85 | h85
                · obtain rfl : j = 84 := by omega
                  exact xc84
                · obtain rfl : j = 85 := by omega
                  exact xc85
            · rcases Nat.lt_or_ge j 88 with h88 | h88
              · rcases Nat.lt_or_ge j 87 with h87 | h87
                · obtain rfl : j = 86 := by omega
                  exact xc86
                · obtain rfl : j = 87 := by omega
                  exact xc87
              · rcases Nat.lt_or_ge j 89 with h89 | h89
                · obtain rfl : j = 88 := by omega
                  exact xc88
                · obtain rfl : j = 89 := by omega
                  exact xc89
      · rcases Nat.lt_or_ge j 105 with h105 | h105
        · rcases Nat.lt_or_ge j 97 with h97 | h97
          · rcases Nat.lt_or_ge j 93 with h93 | h93
            · rcases Nat.lt_or_ge j 91 with h91 | h91
              · obtain rfl : j = 90 := by omega
                exact xc90
              · rcases Nat.lt_or_ge j 92 with h92 | h92
                · obtain rfl : j = 91 := by omega
                  exact xc91
                · obtain rfl : j = 92 := by omega
                  exact xc92
            · rcases Nat.lt_or_ge j 95 with h95 | h95
              · rcases Nat.lt_or_ge j 94 with h94 | h94
                · obtain rfl : j = 93 := by omega
                  exact xc93
                · obtain rfl : j = 94 := by omega
                  exact xc94
              · rcases Nat.lt_or_ge j 96 with h96 | h96
                · obtain rfl : j = 95 := by omega
                  exact xc95
                · obtain rfl : j = 96 := by omega
                  exact xc96
          · rcases Nat.lt_or_ge j 101 with h101 | h101
            · rcases Nat.lt_or_ge j 99 with h99 | h99
              · rcases Nat.lt_or_ge j 98 with h98 | h98
                · obtain rfl : j = 97 := by omega
                  exact xc97
                · obtain rfl : j = 98 := by omega
                  exact xc98
              · rcases Nat.lt_or_ge j 100 with h100 | h100
                · obtain rfl : j = 99 := by omega
                  exact xc99
                · obtain rfl : j = 100 := by omega
                  exact xc100
            · rcases Nat.lt_or_ge j 103 with h103 | h103
              · rcases Nat.lt_or_ge j 102 with h102 | h102
                · obtain rfl : j = 101 := by omega
                  exact xc101
                · obtain rfl : j = 102 := by omega
                  exact xc102
              · rcases Nat.lt_or_ge j 104 with h104 | h104
                · obtain rfl : j = 103 := by omega
                  exact xc103
                · obtain rfl : j = 104 := by omega
                  exact xc104
        · rcases Nat.lt_or_ge j 112 with h112 | h112
          · rcases Nat.lt_or_ge j 108 with h108 | h108
            · rcases Nat.lt_or_ge j 106 with h106 | h106
              · obtain rfl : j = 105 := by omega
                exact xc105
              · rcases Nat.lt_or_ge j 107 with h107 | h107
                · obtain rfl : j = 106 := by omega
                  exact xc106
                · obtain rfl : j = 107 := by omega
                  exact xc107
            · rcases Nat.lt_or_ge j 110 with h110 | h110
              · rcases Nat.lt_or_ge j 109 with h109 | h109
                · obtain rfl : j = 108 := by omega
                  exact xc108
                · obtain rfl : j = 109 := by omega
                  exact xc109
              · rcases Nat.lt_or_ge j 111 with h111 | h111
                · obtain rfl : j = 110 := by omega
                  exact xc110
                · obtain rfl : j = 111 := by omega
                  exact xc111
          · rcases Nat.lt_or_ge j 116 with h116 | h116
            · rcases Nat.lt_or_ge j 114 with h114 | h114
              · rcases Nat.lt_or_ge j 113 with h113 | h113
                · obtain rfl : j = 112 := by omega
                  exact xc112
                · obtain rfl : j = 113 := by omega
                  exact xc113
              · rcases Nat.lt_or_ge j 115 with h115 | h115
                · obtain rfl : j = 114 := by omega
                  exact xc114
                · obtain rfl : j = 115 := by omega
                  exact xc115
            · rcases Nat.lt_or_ge j 118 with h118 | h118
              · rcases Nat.lt_or_ge j 117 with h117 | h117
                · obtain rfl : j = 116 := by omega
                  exact xc116
                · obtain rfl : j = 117 := by omega
                  exact xc117
              · rcases Nat.lt_or_ge j 119 with h119 | h119
                · obtain rfl : j = 118 := by omega
                  exact xc118
                · obtain rfl : j = 119 := by omega
                  exact xc119
  · rcases Nat.lt_or_ge j 180 with h180 | h180
    · rcases Nat.lt_or_ge j 150 with h150 | h150
      · rcases Nat.lt_or_ge j 135 with h135 | h135
        · rcases Nat.lt_or_ge j 127 with h127 | h127
          · rcases Nat.lt_or_ge j 123 with h123 | h123
            · rcases Nat.lt_or_ge j 121 with h121 | h121
              · obtain rfl : j = 120 := by omega
                exact xc120
              · rcases Nat.lt_or_ge j 122 with h122 | h122
                · obtain rfl : j = 121 := by omega
                  exact xc121
                · obtain rfl : j = 122 := by omega
                  exact xc122
            · rcases Nat.lt_or_ge j 125 with h125 | h125
              · rcases Nat.lt_or_ge j 124 with h124 | h124
                · obtain rfl : j = 123 := by omega
                  exact xc123
                · obtain rfl : j = 124 := by omega
                  exact xc124
              · rcases Nat.lt_or_ge j 126 with h126 | h126
                · obtain rfl : j = 125 := by omega
                  exact xc125
                · obtain rfl : j = 126 := by omega
                  exact xc126
          · rcases Nat.lt_or_ge j 131 with h131 | h131
            · rcases Nat.lt_or_ge j 129 with h129 | h129
              · rcases Nat.lt_or_ge j 128 with h128 | h128
                · obtain rfl : j = 127 := by omega
                  exact xc127
                · obtain rfl : j = 128 := by omega
                  exact xc128
              · rcases Nat.lt_or_ge j 130 with h130 | h130
                · obtain rfl : j = 129 := by omega
                  exact xc129
                · obtain rfl : j = 130 := by omega
                  exact xc130
            · rcases Nat.lt_or_ge j 133 with h133 | h133
              · rcases Nat.lt_or_ge j 132 with h132 | h132
                · obtain rfl : j = 131 := by omega
                  exact xc131
                · obtain rfl : j = 132 := by omega
                  exact xc132
              · rcases Nat.lt_or_ge j 134 with h134 | h134
                · obtain rfl : j = 133 := by omega
                  exact xc133
                · obtain rfl : j = 134 := by omega
                  exact xc134
        · rcases Nat.lt_or_ge j 142 with h142 | h142
          · rcases Nat.lt_or_ge j 138 with h138 | h138
            · rcases Nat.lt_or_ge j 136 with h136 | h136
              · obtain rfl : j = 135 := by omega
                exact xc135
              · rcases Nat.lt_or_ge j 137 with h137 | h137
                · obtain rfl : j = 136 := by omega
                  exact xc136
                · obtain rfl : j = 137 := by omega
                  exact xc137
            · rcases Nat.lt_or_ge j 140 with h140 | h140
              · rcases Nat.lt_or_ge j 139 with h139 | h139
                · obtain rfl : j = 138 := by omega
                  exact xc138
                · obtain rfl : j = 139 := by omega
                  exact xc139
              · rcases Nat.lt_or_ge j 141 with h141 | h141
                · obtain rfl : j = 140 := by omega
                  exact xc140
                · obtain rfl : j = 141 := by omega
                  exact xc141
          · rcases Nat.lt_or_ge j 146 with h146 | h146
            · rcases Nat.lt_or_ge j 144 with h144 | h144
              · rcases Nat.lt_or_ge j 143 with h143 | h143
                · obtain rfl : j = 142 := by omega
                  exact xc142
                · obtain rfl : j = 143 := by omega
                  exact xc143
              · rcases Nat.lt_or_ge j 145 with h145 | h145
                · obtain rfl : j = 144 := by omega
                  exact xc144
                · obtain rfl : j = 145 := by omega
                  exact xc145
            · rcases Nat.lt_or_ge j 148 with h148 | h148
              · rcases Nat.lt_or_ge j 147 with h147 | h147
                · obtain rfl : j = 146 := by omega
                  exact xc146
                · obtain rfl : j = 147 := by omega
                  exact xc147
              · rcases Nat.lt_or_ge j 149 with h149 | h149
                · obtain rfl : j = 148 := by omega
                  exact xc148
                · obtain rfl : j = 149 := by omega
                  exact xc149
      · rcases Nat.lt_or_ge j 165 with h165 | h165
        · rcases Nat.lt_or_ge j 157 with h157 | h157
          · rcases Nat.lt_or_ge j 153 with h153 | h153
            · rcases Nat.lt_or_ge j 151 with h151 | h151
              · obtain rfl : j = 150 := by omega
                exact xc150
              · rcases Nat.lt_or_ge j 152 with h152 | h152
                · obtain rfl : j = 151 := by omega
                  exact xc151
                · obtain rfl : j = 152 := by omega
                  exact xc152
            · rcases Nat.lt_or_ge j 155 with h155 | h155
              · rcases Nat.lt_or_ge j 154 with h154 | h154
                · obtain rfl : j = 153 := by omega
                  exact xc153
                · obtain rfl : j = 154 := by omega
                  exact xc154
              · rcases Nat.lt_or_ge j 156 with h156 | h156
                · obtain rfl : j = 155 := by omega
                  exact xc155
                · obtain rfl : j = 156 := by omega
                  exact xc156
          · rcases Nat.lt_or_ge j 161 with h161 | h161
            · rcases Nat.lt_or_ge j 159 with h159 | h159
              · rcases Nat.lt_or_ge j 158 with h158 | h158
                · obtain rfl : j = 157 := by omega
                  exact xc157
                · obtain rfl : j = 158 := by omega
                  exact xc158
              · rcases Nat.lt_or_ge j 160 with h160 | h160
                · obtain rfl : j = 159 := by omega
                  exact xc159
                · obtain rfl : j = 160 := by omega
                  exact xc160
            · rcases Nat.lt_or_ge j 163 with h163 | h163
              · rcases Nat.lt_or_ge j 162 with h162 | h162
                · obtain rfl : j = 161 := by omega
                  exact xc161
                · obtain rfl : j = 162 := by omega
                  exact xc162
              · rcases Nat.lt_or_ge j 164 with h164 | h164
                · obtain rfl : j = 163 := by omega
                  exact xc163
                · obtain rfl : j = 164 := by omega
                  exact xc164
        · rcases Nat.lt_or_ge j 172 with h172 | h172
          · rcases Nat.lt_or_ge j 168 with h168 | h168
            · rcases Nat.lt_or_ge j 166 with h166 | h166
              · obtain rfl : j = 165 := by omega
                exact xc165
              · rcases Nat.lt_or_ge j 167 with h167 | h167
                · obtain rfl : j = 166 := by omega
                  exact xc166
                · obtain rfl : j = 167 := by omega
                  exact xc167
            · rcases Nat.lt_or_ge j 170 with h170 | h170
              · rcases Nat.lt_or_ge j 169 with h169 | h169
                · obtain rfl : j = 168 := by omega
                  exact xc168
                · obtain rfl : j = 169 := by omega
                  exact xc169
              · rcases Nat.lt_or_ge j 171 with h171 | h171
                · obtain rfl : j = 170 := by omega
                  exact xc170
                · obtain rfl : j = 171 := by omega
                  exact xc171
          · rcases Nat.lt_or_ge j 176 with h176 | h176
            · rcases Nat.lt_or_ge j 174 with h174 | h174
              · rcases Nat.lt_or_ge j 173 with h173 | h173
                · obtain rfl : j = 172 := by omega
                  exact xc172
                · obtain rfl : j = 173 := by omega
                  exact xc173
              · rcases Nat.lt_or_ge j 175 with h175 | h175
                · obtain rfl : j = 174 := by omega
                  exact xc174
                · obtain rfl : j = 175 := by omega
                  exact xc175
            · rcases Nat.lt_or_ge j 178 with h178 | h178
              · rcases Nat.lt_or_ge j 177 with h177 | h177
                · obtain rfl : j = 176 := by omega
                  exact xc176
                · obtain rfl : j = 177 := by omega
                  exact xc177
              · rcases Nat.lt_or_ge j 179 with h179 | h179
                · obtain rfl : j = 178 := by omega
                  exact xc178
                · obtain rfl : j = 179 := by omega
                  exact xc179
    · rcases Nat.lt_or_ge j 210 with h210 | h210
      · rcases Nat.lt_or_ge j 195 with h195 | h195
        · rcases Nat.lt_or_ge j 187 with h187 | h187
          · rcases Nat.lt_or_ge j 183 with h183 | h183
            · rcases Nat.lt_or_ge j 181 with h181 | h181
              · obtain rfl : j = 180 := by omega
                exact xc180
              · rcases Nat.lt_or_ge j 182 with h182 | h182
                · obtain rfl : j = 181 := by omega
                  exact xc181
                · obtain rfl : j = 182 := by omega
                  exact xc182
            · rcases Nat.lt_or_ge j 185 with h185 | h185
              · rcases Nat.lt_or_ge j 184 with h184 | h184
                · obtain rfl : j = 183 := by omega
                  exact xc183
                · obtain rfl : j = 184 := by omega
                  exact xc184
              · rcases Nat.lt_or_ge j 186 with h186 | h186
                · obtain rfl : j = 185 := by omega
                  exact xc185
                · obtain rfl : j = 186 := by omega
                  exact xc186
          · rcases Nat.lt_or_ge j 191 with h191 | h191
            · rcases Nat.lt_or_ge j 189 with h189 | h189
              · rcases Nat.lt_or_ge j 188 with h188 | h188
                · obtain rfl : j = 187 := by omega
                  exact xc187
                · obtain rfl : j = 188 := by omega
                  exact xc188
              · rcases Nat.lt_or_ge j 190 with h190 | h190
                · obtain rfl : j = 189 := by omega
                  exact xc189
                · obtain rfl : j = 190 := by omega
                  exact xc190
            · rcases Nat.lt_or_ge j 193 with h193 | h193
              · rcases Nat.lt_or_ge j 192 with h192 | h192
                · obtain rfl : j = 191 := by omega
                  exact xc191
                · obtain rfl : j = 192 := by omega
                  exact xc192
              · rcases Nat.lt_or_ge j 194 with h194 | h194
                · obtain rfl : j = 193 := by omega
                  exact xc193
                · obtain rfl : j = 194 := by omega
                  exact xc194
        · rcases Nat.lt_or_ge j 202 with h202 | h202
          · rcases Nat.lt_or_ge j 198 with h198 | h198
            · rcases Nat.lt_or_ge j 196 with h196 | h196
              · obtain rfl : j = 195 := by omega
                exact xc195
              · rcases Nat.lt_or_ge j 197 with h197 | h197
                · obtain rfl : j = 196 := by omega
                  exact xc196
                · obtain rfl : j = 197 := by omega
                  exact xc197
            · rcases Nat.lt_or_ge j 200 with h200 | h200
              · rcases Nat.lt_or_ge j 199 with h199 | h199
                · obtain rfl : j = 198 := by omega
                  exact xc198
                · obtain rfl : j = 199 := by omega
                  exact xc199
              · rcases Nat.lt_or_ge j 201 with h201 | h201
                · obtain rfl : j = 200 := by omega
                  exact xc200
                · obtain rfl : j = 201 := by omega
                  exact xc201
          · rcases Nat.lt_or_ge j 206 with h206 | h206
            · rcases Nat.lt_or_ge j 204 with h204 | h204
              · rcases Nat.lt_or_ge j 203 with h203 | h203
                · obtain rfl : j = 202 := by omega
                  exact xc202
                · obtain rfl : j = 203 := by omega
                  exact xc203
              · rcases Nat.lt_or_ge j 205 with h205 | h205
                · obtain rfl : j = 204 := by omega
                  exact xc204
                · obtain rfl : j = 205 := by omega
                  exact xc205
            · rcases Nat.lt_or_ge j 208 with h208 | h208
              · rcases Nat.lt_or_ge j 207 with h207 | h207
                · obtain rfl : j = 206 := by omega
                  exact xc206
                · obtain rfl : j = 207 := by omega
                  exact xc207
              · rcases Nat.lt_or_ge j 209 with h209 | h209
                · obtain rfl : j = 208 := by omega
                  exact xc208
                · obtain rfl : j = 209 := by omega
                  exact xc209
      · rcases Nat.lt_or_ge j 225 with h225 | h225
        · rcases Nat.lt_or_ge j 217 with h217 | h217
          · rcases Nat.lt_or_ge j 213 with h213 | h213
            · rcases Nat.lt_or_ge j 211 with h211 | h211
              · obtain rfl : j = 210 := by omega
                exact xc210
              · rcases Nat.lt_or_ge j 212 with h212 | h212
                · obtain rfl : j = 211 := by omega
                  exact xc211
                · obtain rfl : j = 212 := by omega
                  exact xc212
            · rcases Nat.lt_or_ge j 215 with h215 | h215
              · rcases Nat.lt_or_ge j 214 with h214 | h214
                · obtain rfl : j = 213 := by omega
                  exact xc213
                · obtain rfl : j = 214 := by omega
                  exact xc214
              · rcases Nat.lt_or_ge j 216 with h216 | h216
                · obtain rfl : j = 215 := by omega
                  exact xc215
                · obtain rfl : j = 216 := by omega
                  exact xc216
          · rcases Nat.lt_or_ge j 221 with h221 | h221
            · rcases Nat.lt_or_ge j 219 with h219 | h219
              · rcases Nat.lt_or_ge j 218 with h218 | h218
                · obtain rfl : j = 217 := by omega
                  exact xc217
                · obtain rfl : j = 218 := by omega
                  exact xc218
              · rcases Nat.lt_or_ge j 220 with h220 | h220
                · obtain rfl : j = 219 := by omega
                  exact xc219
                · obtain rfl : j = 220 := by omega
                  exact xc220
            · rcases Nat.lt_or_ge j 223 with h223 | h223
              · rcases Nat.lt_or_ge j 222 with h222 | h222
                · obtain rfl : j = 221 := by omega
                  exact xc221
                · obtain rfl : j = 222 := by omega
                  exact xc222
              · rcases Nat.lt_or_ge j 224 with h224 | h224
                · obtain rfl : j = 223 := by omega
                  exact xc223
                · obtain rfl : j = 224 := by omega
                  exact xc224
        · rcases Nat.lt_or_ge j 233 with h233 | h233
          · rcases Nat.lt_or_ge j 229 with h229 | h229
            · rcases Nat.lt_or_ge j 227 with h227 | h227
              · rcases Nat.lt_or_ge j 226 with h226 | h226
                · obtain rfl : j = 225 := by omega
                  exact xc225
                · obtain rfl : j = 226 := by omega
                  exact xc226
              · rcases Nat.lt_or_ge j 228 with h228 | h228
                · obtain rfl : j = 227 := by omega
                  exact xc227
                · obtain rfl : j = 228 := by omega
                  exact xc228
            · rcases Nat.lt_or_ge j 231 with h231 | h231
              · rcases Nat.lt_or_ge j 230 with h230 | h230
                · obtain rfl : j = 229 := by omega
                  exact xc229
                · obtain rfl : j = 230 := by omega
                  exact xc230
              · rcases Nat.lt_or_ge j 232 with h232 | h232
                · obtain rfl : j = 231 := by omega
                  exact xc231
                · obtain rfl : j = 232 := by omega
                  exact xc232
          · rcases Nat.lt_or_ge j 237 with h237 | h237
            · rcases Nat.lt_or_ge j 235 with h235 | h235
              · rcases Nat.lt_or_ge j 234 with h234 | h234
                · obtain rfl : j = 233 := by omega
                  exact xc233
                · obtain rfl : j = 234 := by omega
                  exact xc234
              · rcases Nat.lt_or_ge j 236 with h236 | h236
                · obtain rfl : j = 235 := by omega
                  exact xc235
                · obtain rfl : j = 236 := by omega
                  exact xc236
            · rcases Nat.lt_or_ge j 239 with h239 | h239
              · rcases Nat.lt_or_ge j 238 with h238 | h238
                · obtain rfl : j = 237 := by omega
                  exact xc237
                · obtain rfl : j = 238 := by omega
                  exact xc238
              · rcases Nat.lt_or_ge j 240 with h240 | h240
                · obtain rfl : j = 239 := by omega
                  exact xc239
                · obtain rfl : j = 240 := by omega
                  exact xc240
set_option maxRecDepth 200000 in
theorem xc_kd : ∀ j, j < xm_nM → 241 ≤ j → xm_mw j = [] := by decide +kernel
theorem xm_W_in : ∀ w ∈ xm_W, w ∈ lw_tbl := by
  intro w hw
  rcases List.mem_append.mp hw with h | h
  · exact xm_V_in w (List.mem_append_left _ h)
  rcases List.mem_append.mp h with h | h
  · obtain ⟨j, hj, hwj⟩ := List.mem_flatMap.mp h
    have hjn : j < xm_nM := List.mem_range.mp hj
    rcases Nat.lt_or_ge j 241 with h1 | h1
    · have h2 : w = Cond.code (xm_nm j) (xm_by j) (xm_ml j) (xm_rt j) ∨ w ∈ (xm_mw j).tail := by
        unfold xm_mw at hwj ⊢
        split at hwj
        · exact List.mem_cons.mp hwj
        · exact List.mem_cons.mp hwj
        · exact List.mem_cons.mp hwj
        · cases hwj
      rcases h2 with rfl | h2
      · exact xc_all j h1
      · exact xm_V_in w (List.mem_append_right _ (List.mem_append_left _ (List.mem_flatMap.mpr ⟨j, hj, h2⟩)))
    · rw [xc_kd j hjn h1] at hwj
      cases hwj
  · exact xm_V_in w (List.mem_append_right _ (List.mem_append_right _ h))
