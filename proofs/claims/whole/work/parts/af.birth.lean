/-! the birth of the two objects: every shape is a piece of px_W0, every memory a piece of one log -/
def lkS (M : Nat → Nat → Int) (e : Nat × Nat × Nat × Int) : Nat → Nat → Int := match e.1 with
  | 0 => px_up M e.2.1 e.2.2.1 e.2.2.2
  | 1 => px_cl M e.2.1 (fun _ => e.2.2.2)
  | _ => px_cl M e.2.1 (fun j => if px_ty e.2.2.1 j = 2 then -1 else 0)
def LG : List (Nat × Nat × Nat × Int) := [(2, 0, 8, 0), (2, 1, 5, 0), (1, 2, 0, 0), (0, 1, 0, 2), (0, 0, 0, 1), (2, 3, 0, 0), (2, 4, 1, 0), (1, 5, 0, 0), (0, 4, 0, 5), (1, 6, 0, 0), (0, 4, 1, 6), (1, 7, 0, 0), (0, 4, 2, 7), (0, 4, 3, 0), (0, 4, 4, 0), (0, 3, 0, 4), (1, 8, 0, 0), (0, 3, 1, 8), (1, 9, 0, 0), (0, 3, 2, 9), (1, 10, 0, 0), (0, 3, 3, 10), (1, 11, 0, -1), (0, 3, 4, 11), (1, 12, 0, 0), (0, 3, 5, 12), (0, 3, 6, 0), (0, 3, 7, 0), (0, 3, 8, 0), (0, 3, 9, 0), (0, 3, 10, -1), (0, 3, 11, 3), (0, 3, 12, 0), (1, 13, 0, 0), (0, 3, 13, 13), (0, 3, 14, 1), (0, 0, 1, 3), (2, 14, 0, 0), (2, 15, 1, 0), (1, 16, 0, 0), (0, 15, 0, 16), (1, 17, 0, 0), (0, 15, 1, 17), (1, 18, 0, 0), (0, 15, 2, 18), (0, 15, 3, 0), (0, 15, 4, 0), (0, 14, 0, 15), (1, 19, 0, 0), (0, 14, 1, 19), (1, 20, 0, 0), (0, 14, 2, 20), (1, 21, 0, 0), (0, 14, 3, 21), (1, 22, 0, -1), (0, 14, 4, 22), (1, 23, 0, 0), (0, 14, 5, 23), (0, 14, 6, 0), (0, 14, 7, 0), (0, 14, 8, 0), (0, 14, 9, 0), (0, 14, 10, -1), (0, 14, 11, 3), (0, 14, 12, 0), (1, 24, 0, 0), (0, 14, 13, 24), (0, 14, 14, 1), (0, 0, 2, 14), (1, 25, 0, -1), (0, 0, 3, 25), (1, 26, 0, 0), (0, 0, 4, 26), (2, 27, 7, 0), (1, 28, 0, -1), (0, 27, 0, 28), (1, 29, 0, 0), (0, 27, 1, 29), (0, 27, 2, 0), (0, 27, 3, 0), (2, 30, 1, 0), (1, 31, 0, 0), (0, 30, 0, 31), (1, 32, 0, 0), (0, 30, 1, 32), (1, 33, 0, 0), (0, 30, 2, 33), (0, 30, 3, 0), (0, 30, 4, 0), (0, 28, 0, 30), (2, 34, 1, 0), (1, 35, 0, 0), (0, 34, 0, 35), (1, 36, 0, 0), (0, 34, 1, 36), (1, 37, 0, 0), (0, 34, 2, 37), (0, 34, 3, 0), (0, 34, 4, 0), (0, 28, 1, 34), (2, 38, 1, 0), (1, 39, 0, 0), (0, 38, 0, 39), (1, 40, 0, 0), (0, 38, 1, 40), (1, 41, 0, 0), (0, 38, 2, 41), (0, 38, 3, 0), (0, 38, 4, 0), (0, 28, 2, 38), (2, 42, 1, 0), (1, 43, 0, 0), (0, 42, 0, 43), (1, 44, 0, 0), (0, 42, 1, 44), (1, 45, 0, 0), (0, 42, 2, 45), (0, 42, 3, 0), (0, 42, 4, 0), (0, 28, 3, 42), (2, 46, 1, 0), (1, 47, 0, 0), (0, 46, 0, 47), (1, 48, 0, 0), (0, 46, 1, 48), (1, 49, 0, 0), (0, 46, 2, 49), (0, 46, 3, 0), (0, 46, 4, 0), (0, 28, 4, 46), (2, 50, 1, 0), (1, 51, 0, 0), (0, 50, 0, 51), (1, 52, 0, 0), (0, 50, 1, 52), (1, 53, 0, 0), (0, 50, 2, 53), (0, 50, 3, 0), (0, 50, 4, 0), (0, 28, 5, 50), (2, 54, 1, 0), (1, 55, 0, 0), (0, 54, 0, 55), (1, 56, 0, 0), (0, 54, 1, 56), (1, 57, 0, 0), (0, 54, 2, 57), (0, 54, 3, 0), (0, 54, 4, 0), (0, 28, 6, 54), (2, 58, 1, 0), (1, 59, 0, 0), (0, 58, 0, 59), (1, 60, 0, 0), (0, 58, 1, 60), (1, 61, 0, 0), (0, 58, 2, 61), (0, 58, 3, 0), (0, 58, 4, 0), (0, 28, 7, 58), (2, 62, 1, 0), (1, 63, 0, 0), (0, 62, 0, 63), (1, 64, 0, 0), (0, 62, 1, 64), (1, 65, 0, 0), (0, 62, 2, 65), (0, 62, 3, 0), (0, 62, 4, 0), (0, 28, 8, 62), (2, 66, 1, 0), (1, 67, 0, 0), (0, 66, 0, 67), (1, 68, 0, 0), (0, 66, 1, 68), (1, 69, 0, 0), (0, 66, 2, 69), (0, 66, 3, 0), (0, 66, 4, 0), (0, 28, 9, 66), (2, 70, 1, 0), (1, 71, 0, 0), (0, 70, 0, 71), (1, 72, 0, 0), (0, 70, 1, 72), (1, 73, 0, 0), (0, 70, 2, 73), (0, 70, 3, 0), (0, 70, 4, 0), (0, 28, 10, 70), (2, 74, 1, 0), (1, 75, 0, 0), (0, 74, 0, 75), (1, 76, 0, 0), (0, 74, 1, 76), (1, 77, 0, 0), (0, 74, 2, 77), (0, 74, 3, 0), (0, 74, 4, 0), (0, 28, 11, 74), (2, 78, 1, 0), (1, 79, 0, 0), (0, 78, 0, 79), (1, 80, 0, 0), (0, 78, 1, 80), (1, 81, 0, 0), (0, 78, 2, 81), (0, 78, 3, 0), (0, 78, 4, 0), (0, 28, 12, 78), (2, 82, 1, 0), (1, 83, 0, 0), (0, 82, 0, 83), (1, 84, 0, 0), (0, 82, 1, 84), (1, 85, 0, 0), (0, 82, 2, 85), (0, 82, 3, 0), (0, 82, 4, 0), (0, 28, 13, 82), (2, 86, 1, 0), (1, 87, 0, 0), (0, 86, 0, 87), (1, 88, 0, 0), (0, 86, 1, 88), (1, 89, 0, 0), (0, 86, 2, 89), (0, 86, 3, 0), (0, 86, 4, 0), (0, 28, 14, 86), (2, 90, 1, 0), (1, 91, 0, 0), (0, 90, 0, 91), (1, 92, 0, 0), (0, 90, 1, 92), (1, 93, 0, 0), (0, 90, 2, 93), (0, 90, 3, 0), (0, 90, 4, 0), (0, 28, 15, 90), (2, 94, 1, 0), (1, 95, 0, 0), (0, 94, 0, 95), (1, 96, 0, 0), (0, 94, 1, 96), (1, 97, 0, 0), (0, 94, 2, 97), (0, 94, 3, 0), (0, 94, 4, 0), (0, 28, 16, 94), (0, 0, 5, 27), (2, 98, 4, 0), (0, 98, 0, -1), (2, 99, 1, 0), (1, 100, 0, 0), (0, 99, 0, 100), (1, 101, 0, 0), (0, 99, 1, 101), (1, 102, 0, 0), (0, 99, 2, 102), (0, 99, 3, 0), (0, 99, 4, 0), (0, 98, 4, 99), (2, 103, 7, 0), (1, 104, 0, -1), (0, 103, 0, 104), (1, 105, 0, 0), (0, 103, 1, 105), (0, 103, 2, 0), (0, 103, 3, 0), (2, 106, 1, 0), (1, 107, 0, 0), (0, 106, 0, 107), (1, 108, 0, 0), (0, 106, 1, 108), (1, 109, 0, 0), (0, 106, 2, 109), (0, 106, 3, 0), (0, 106, 4, 0), (0, 104, 0, 106), (2, 110, 1, 0), (1, 111, 0, 0), (0, 110, 0, 111), (1, 112, 0, 0), (0, 110, 1, 112), (1, 113, 0, 0), (0, 110, 2, 113), (0, 110, 3, 0), (0, 110, 4, 0), (0, 104, 1, 110), (2, 114, 1, 0), (1, 115, 0, 0), (0, 114, 0, 115), (1, 116, 0, 0), (0, 114, 1, 116), (1, 117, 0, 0), (0, 114, 2, 117), (0, 114, 3, 0), (0, 114, 4, 0), (0, 104, 2, 114), (2, 118, 1, 0), (1, 119, 0, 0), (0, 118, 0, 119), (1, 120, 0, 0), (0, 118, 1, 120), (1, 121, 0, 0), (0, 118, 2, 121), (0, 118, 3, 0), (0, 118, 4, 0), (0, 104, 3, 118), (2, 122, 1, 0), (1, 123, 0, 0), (0, 122, 0, 123), (1, 124, 0, 0), (0, 122, 1, 124), (1, 125, 0, 0), (0, 122, 2, 125), (0, 122, 3, 0), (0, 122, 4, 0), (0, 104, 4, 122), (2, 126, 1, 0), (1, 127, 0, 0), (0, 126, 0, 127), (1, 128, 0, 0), (0, 126, 1, 128), (1, 129, 0, 0), (0, 126, 2, 129), (0, 126, 3, 0), (0, 126, 4, 0), (0, 104, 5, 126), (2, 130, 1, 0), (1, 131, 0, 0), (0, 130, 0, 131), (1, 132, 0, 0), (0, 130, 1, 132), (1, 133, 0, 0), (0, 130, 2, 133), (0, 130, 3, 0), (0, 130, 4, 0), (0, 104, 6, 130), (2, 134, 1, 0), (1, 135, 0, 0), (0, 134, 0, 135), (1, 136, 0, 0), (0, 134, 1, 136), (1, 137, 0, 0), (0, 134, 2, 137), (0, 134, 3, 0), (0, 134, 4, 0), (0, 104, 7, 134), (2, 138, 1, 0), (1, 139, 0, 0), (0, 138, 0, 139), (1, 140, 0, 0), (0, 138, 1, 140), (1, 141, 0, 0), (0, 138, 2, 141), (0, 138, 3, 0), (0, 138, 4, 0), (0, 104, 8, 138), (2, 142, 1, 0), (1, 143, 0, 0), (0, 142, 0, 143), (1, 144, 0, 0), (0, 142, 1, 144), (1, 145, 0, 0), (0, 142, 2, 145), (0, 142, 3, 0), (0, 142, 4, 0), (0, 104, 9, 142), (2, 146, 1, 0), (1, 147, 0, 0), (0, 146, 0, 147), (1, 148, 0, 0), (0, 146, 1, 148), (1, 149, 0, 0), (0, 146, 2, 149), (0, 146, 3, 0), (0, 146, 4, 0), (0, 104, 10, 146), (2, 150, 1, 0), (1, 151, 0, 0), (0, 150, 0, 151), (1, 152, 0, 0), (0, 150, 1, 152), (1, 153, 0, 0), (0, 150, 2, 153), (0, 150, 3, 0), (0, 150, 4, 0), (0, 104, 11, 150), (2, 154, 1, 0), (1, 155, 0, 0), (0, 154, 0, 155), (1, 156, 0, 0), (0, 154, 1, 156), (1, 157, 0, 0), (0, 154, 2, 157), (0, 154, 3, 0), (0, 154, 4, 0), (0, 104, 12, 154), (2, 158, 1, 0), (1, 159, 0, 0), (0, 158, 0, 159), (1, 160, 0, 0), (0, 158, 1, 160), (1, 161, 0, 0), (0, 158, 2, 161), (0, 158, 3, 0), (0, 158, 4, 0), (0, 104, 13, 158), (2, 162, 1, 0), (1, 163, 0, 0), (0, 162, 0, 163), (1, 164, 0, 0), (0, 162, 1, 164), (1, 165, 0, 0), (0, 162, 2, 165), (0, 162, 3, 0), (0, 162, 4, 0), (0, 104, 14, 162), (2, 166, 1, 0), (1, 167, 0, 0), (0, 166, 0, 167), (1, 168, 0, 0), (0, 166, 1, 168), (1, 169, 0, 0), (0, 166, 2, 169), (0, 166, 3, 0), (0, 166, 4, 0), (0, 104, 15, 166), (2, 170, 1, 0), (1, 171, 0, 0), (0, 170, 0, 171), (1, 172, 0, 0), (0, 170, 1, 172), (1, 173, 0, 0), (0, 170, 2, 173), (0, 170, 3, 0), (0, 170, 4, 0), (0, 104, 16, 170), (0, 98, 5, 103), (1, 174, 0, 0), (0, 98, 6, 174), (0, 98, 7, 0), (0, 98, 8, -1), (0, 98, 1, 3), (0, 98, 2, 27), (0, 98, 3, 1), (0, 0, 6, 98), (2, 175, 2, 0), (1, 176, 0, 0), (0, 175, 0, 176), (0, 175, 1, 0), (0, 175, 2, 0), (1, 177, 0, 0), (0, 175, 5, 177), (1, 178, 0, 0), (0, 175, 6, 178), (1, 179, 0, 0), (0, 175, 7, 179), (1, 180, 0, 0), (0, 175, 8, 180), (1, 181, 0, 0), (0, 175, 9, 181), (1, 182, 0, 0), (0, 175, 10, 182), (1, 183, 0, 0), (0, 175, 11, 183), (1, 184, 0, 0), (0, 175, 12, 184), (1, 185, 0, 0), (0, 175, 13, 185), (1, 186, 0, 0), (0, 175, 14, 186), (1, 187, 0, 0), (0, 175, 15, 187), (0, 175, 16, 0), (0, 175, 17, 0), (0, 175, 18, 0), (0, 175, 3, 3), (2, 188, 0, 0), (2, 189, 1, 0), (1, 190, 0, 0), (0, 189, 0, 190), (1, 191, 0, 0), (0, 189, 1, 191), (1, 192, 0, 0), (0, 189, 2, 192), (0, 189, 3, 0), (0, 189, 4, 0), (0, 188, 0, 189), (1, 193, 0, 0), (0, 188, 1, 193), (1, 194, 0, 0), (0, 188, 2, 194), (1, 195, 0, 0), (0, 188, 3, 195), (1, 196, 0, -1), (0, 188, 4, 196), (1, 197, 0, 0), (0, 188, 5, 197), (0, 188, 6, 0), (0, 188, 7, 0), (0, 188, 8, 0), (0, 188, 9, 0), (0, 188, 10, -1), (0, 188, 11, 3), (0, 188, 12, 0), (1, 198, 0, 0), (0, 188, 13, 198), (0, 188, 14, 1), (0, 175, 4, 188), (0, 0, 7, 175), (1, 199, 0, 0), (0, 0, 8, 199), (2, 200, 3, 0), (2, 201, 6, 0), (0, 201, 3, 0), (0, 201, 4, 0), (0, 201, 5, 0), (1, 202, 0, 0), (0, 201, 0, 202), (1, 203, 0, 0), (0, 201, 1, 203), (1, 204, 0, 0), (0, 201, 2, 204), (0, 200, 0, 201), (0, 200, 1, -1), (0, 200, 3, 0), (0, 200, 4, 0), (0, 200, 5, 0), (0, 200, 6, 0), (0, 200, 7, 0), (0, 200, 8, 0), (0, 200, 9, 0), (0, 200, 2, 199), (0, 0, 9, 200), (1, 205, 0, 0), (0, 0, 10, 205), (0, 0, 11, 0), (0, 0, 12, 0), (0, 0, 13, 0), (0, 0, 14, 0), (2, 206, 0, 0), (2, 207, 1, 0), (1, 208, 0, 0), (0, 207, 0, 208), (1, 209, 0, 0), (0, 207, 1, 209), (1, 210, 0, 0), (0, 207, 2, 210), (0, 207, 3, 0), (0, 207, 4, 0), (0, 206, 0, 207), (1, 211, 0, 0), (0, 206, 1, 211), (1, 212, 0, 0), (0, 206, 2, 212), (1, 213, 0, 0), (0, 206, 3, 213), (1, 214, 0, -1), (0, 206, 4, 214), (1, 215, 0, 0), (0, 206, 5, 215), (0, 206, 6, 0), (0, 206, 7, 0), (0, 206, 8, 0), (0, 206, 9, 0), (0, 206, 10, -1), (0, 206, 11, 3), (0, 206, 12, 0), (1, 216, 0, 0), (0, 206, 13, 216), (0, 206, 14, 1), (0, 25, 0, 206), (2, 217, 0, 0), (2, 218, 1, 0), (1, 219, 0, 0), (0, 218, 0, 219), (1, 220, 0, 0), (0, 218, 1, 220), (1, 221, 0, 0), (0, 218, 2, 221), (0, 218, 3, 0), (0, 218, 4, 0), (0, 217, 0, 218), (1, 222, 0, 0), (0, 217, 1, 222), (1, 223, 0, 0), (0, 217, 2, 223), (1, 224, 0, 0), (0, 217, 3, 224), (1, 225, 0, -1), (0, 217, 4, 225), (1, 226, 0, 0), (0, 217, 5, 226), (0, 217, 6, 0), (0, 217, 7, 0), (0, 217, 8, 0), (0, 217, 9, 0), (0, 217, 10, -1), (0, 217, 11, 3), (0, 217, 12, 0), (1, 227, 0, 0), (0, 217, 13, 227), (0, 217, 14, 1), (0, 25, 1, 217), (2, 228, 9, 0), (1, 229, 0, 0), (0, 228, 2, 229), (1, 230, 0, 0), (0, 228, 3, 230), (1, 231, 0, 0), (0, 228, 4, 231), (1, 232, 0, 0), (0, 228, 5, 232), (1, 233, 0, 0), (0, 228, 6, 233), (1, 234, 0, 0), (0, 228, 7, 234), (1, 235, 0, 0), (0, 228, 9, 235), (1, 236, 0, 0), (0, 228, 10, 236), (1, 237, 0, 0), (0, 228, 12, 237), (0, 228, 18, -1), (1, 238, 0, 0), (0, 228, 22, 238), (1, 239, 0, 0), (0, 228, 24, 239), (1, 240, 0, 0), (0, 228, 25, 240), (1, 241, 0, 0), (0, 228, 27, 241), (1, 242, 0, 0), (0, 228, 28, 242), (1, 243, 0, 0), (0, 243, 0, 769604), (0, 243, 1, 8869), (0, 243, 2, 6801509), (0, 243, 3, 56377), (0, 243, 4, 18935), (0, 243, 5, 116807086), (0, 243, 6, 18596), (0, 243, 7, 78501), (0, 243, 8, 7935150), (0, 243, 9, 654625076), (0, 243, 10, 278194), (0, 243, 11, 441828), (0, 228, 31, 243), (1, 244, 0, 0), (0, 244, 0, 278194), (0, 244, 1, 146885), (0, 244, 2, 404362868), (0, 244, 3, 559300916), (0, 244, 4, 2491499), (0, 244, 5, 18596), (0, 244, 6, 78501), (0, 244, 7, 7935150), (0, 244, 8, 654625076), (0, 228, 32, 244), (1, 245, 0, 0), (0, 245, 0, 658548179), (0, 245, 1, 146611), (0, 245, 2, 79727987), (0, 245, 3, 67155), (0, 228, 33, 245), (1, 246, 0, 0), (0, 228, 35, 246), (1, 247, 0, 0), (0, 228, 36, 247), (1, 248, 0, 0), (0, 228, 37, 248), (1, 249, 0, 0), (0, 228, 41, 249), (1, 250, 0, 0), (0, 228, 42, 250), (1, 251, 0, 0), (0, 228, 43, 251), (1, 252, 0, 0), (0, 228, 44, 252), (1, 253, 0, 0), (0, 228, 45, 253), (1, 254, 0, 0), (0, 228, 46, 254), (1, 255, 0, 0), (0, 228, 47, 255), (1, 256, 0, 0), (0, 228, 48, 256), (1, 257, 0, 0), (0, 228, 49, 257), (1, 258, 0, 0), (0, 228, 50, 258), (1, 259, 0, 0), (0, 228, 51, 259), (1, 260, 0, 0), (0, 228, 52, 260), (1, 261, 0, 0), (0, 261, 0, 641271301), (0, 261, 1, 19764), (0, 261, 2, 555910248), (0, 261, 3, 755083), (0, 261, 4, 525939), (0, 228, 53, 261), (1, 262, 0, 0), (0, 228, 54, 262), (0, 228, 57, -1), (1, 263, 0, 0), (0, 228, 60, 263), (0, 228, 61, -1), (0, 230, 4, -1), (0, 230, 6, 3)]
def bS (c : Nat) : List (Nat × Nat) := px_W0.take c
def bM (i : Nat) : Nat → Nat → Int := (LG.take i).foldl lkS (fun _ _ => 0)
theorem bz_s {c a : Nat} {x : Nat × Nat} (h : (px_W0.take c)[a]? = some x) : (bS c)[a]? = some x := h
theorem bM_s {i : Nat} {e : Nat × Nat × Nat × Int} (h : LG[i]? = some e) : bM (i + 1) = lkS (bM i) e := by
  unfold bM
  rw [List.take_add_one, h, List.foldl_append]
  rfl
theorem bz_u {i i2 a j : Nat} {x : Int} (h : LG[i]? = some (0, a, j, x)) (e : i + 1 = i2) : px_up (bM i) a j x = bM i2 := by rw [← e]; exact (bM_s h).symm
theorem bz_c {i i2 a : Nat} {x : Int} (h : LG[i]? = some (1, a, 0, x)) (e : i + 1 = i2) : px_cl (bM i) a (fun _ => x) = bM i2 := by rw [← e]; exact (bM_s h).symm
theorem bz_o {i i2 a kd : Nat} (h : LG[i]? = some (2, a, kd, 0)) (e : i + 1 = i2) : px_cl (bM i) a (fun j => if px_ty kd j = 2 then -1 else 0) = bM i2 := by rw [← e]; exact (bM_s h).symm
theorem bz_l {c : Nat} (h : c ≤ 264) : (bS c).length = c := by unfold bS; rw [List.length_take, px_W0_len]; omega
theorem bz_n {c c2 : Nat} {x : Nat × Nat} (h : px_W0[c]? = some x) (e : c + 1 = c2) : bS c ++ [x] = bS c2 := by rw [← e]; unfold bS; rw [List.take_add_one, h]; rfl
theorem bk_2_2_2_e {xs : Nat → Int} {L d : Nat} {Q : Option Value → px_H → Prop} (hd : 0 ≤ d) (G : Q none (bS 3, bM 4)) : px_R xs L d 2 (0, [.ref 1], [], (bS 2, bM 2)) Q := by
  refine rr_aload_n pf_2_0 rfl ?_
  refine rr_objI pf_2_1 po_2 pc_5_3 (by decide) ?_
  refine rr_aload_n pf_2_4 rfl ?_
  refine rr_bipush pf_2_5 (by decide) ?_
  refine rr_newa 10 pf_2_7 (by simp) (by decide) (fun M2 e => ?_)
  rw [bz_l (by decide : 2 ≤ 264)] at e ⊢
  rw [e.trans (bz_c (by decide +kernel) (rfl : 2 + 1 = 3))]
  rw [bz_n (by decide +kernel) (rfl : 2 + 1 = 3)]
  refine rr_putR pf_2_9 po_2 pg_5_9 (Or.inr ⟨by decide +kernel, rfl⟩) rfl (bz_s (x := (5, 1)) (by decide +kernel)) (by decide) (fun M2 e => ?_)
  rw [e.trans (bz_u (by decide +kernel) (rfl : 3 + 1 = 4))]
  exact rr_vret pf_2_12 pt_2 G
theorem bC_2_2_2 {xs : Nat → Int} {L d : Nat} (hd : 1 ≤ d) : px_Cl xs L d 2 [.ref 1] (bS 2, bM 2) none (bS 3, bM 4) := by
  obtain ⟨d, rfl⟩ : ∃ e, d = e + 1 := ⟨d - 1, by omega⟩
  refine px_Cl_intro (Nat.le_of_ble_eq_true rfl) ?_
  show px_R xs L d 2 (0, [.ref 1], [], (bS 2, bM 2)) _
  exact bk_2_2_2_e (by omega) ⟨rfl, rfl⟩
theorem bk_4_5_7_e {xs : Nat → Int} {L d : Nat} {Q : Option Value → px_H → Prop} (hd : 0 ≤ d) (G : Q none (bS 8, bM 15)) : px_R xs L d 4 (0, [.ref 4], [], (bS 5, bM 7)) Q := by
  refine rr_aload_n pf_4_0 rfl ?_
  refine rr_objI pf_4_1 po_4 pc_1_3 (by decide) ?_
  refine rr_aload_n pf_4_4 rfl ?_
  refine rr_bipush pf_4_5 (by decide) ?_
  refine rr_newa 10 pf_4_7 (by simp) (by decide) (fun M2 e => ?_)
  rw [bz_l (by decide : 5 ≤ 264)] at e ⊢
  rw [e.trans (bz_c (by decide +kernel) (rfl : 7 + 1 = 8))]
  rw [bz_n (by decide +kernel) (rfl : 5 + 1 = 6)]
  refine rr_putR pf_4_9 po_4 pg_1_9 (Or.inr ⟨by decide +kernel, rfl⟩) rfl (bz_s (x := (1, 5)) (by decide +kernel)) (by decide) (fun M2 e => ?_)
  rw [e.trans (bz_u (by decide +kernel) (rfl : 8 + 1 = 9))]
  refine rr_aload_n pf_4_12 rfl ?_
  refine rr_bipush pf_4_13 (by decide) ?_
  refine rr_newa 10 pf_4_15 (by simp) (by decide) (fun M2 e => ?_)
  rw [bz_l (by decide : 6 ≤ 264)] at e ⊢
  rw [e.trans (bz_c (by decide +kernel) (rfl : 9 + 1 = 10))]
  rw [bz_n (by decide +kernel) (rfl : 6 + 1 = 7)]
  refine rr_putR pf_4_17 po_4 pg_1_15 (Or.inr ⟨by decide +kernel, rfl⟩) rfl (bz_s (x := (1, 5)) (by decide +kernel)) (by decide) (fun M2 e => ?_)
  rw [e.trans (bz_u (by decide +kernel) (rfl : 10 + 1 = 11))]
  refine rr_aload_n pf_4_20 rfl ?_
  refine rr_bipush pf_4_21 (by decide) ?_
  refine rr_newa 10 pf_4_23 (by simp) (by decide) (fun M2 e => ?_)
  rw [bz_l (by decide : 7 ≤ 264)] at e ⊢
  rw [e.trans (bz_c (by decide +kernel) (rfl : 11 + 1 = 12))]
  rw [bz_n (by decide +kernel) (rfl : 7 + 1 = 8)]
  refine rr_putR pf_4_25 po_4 pg_1_18 (Or.inr ⟨by decide +kernel, rfl⟩) rfl (bz_s (x := (1, 5)) (by decide +kernel)) (by decide) (fun M2 e => ?_)
  rw [e.trans (bz_u (by decide +kernel) (rfl : 12 + 1 = 13))]
  refine rr_aload_n pf_4_28 rfl ?_
  refine rr_iconst pf_4_29 ?_
  refine rr_putI pf_4_30 po_4 pg_1_21 (Or.inr ⟨by decide +kernel, rfl⟩) rfl (bz_s (x := (1, 5)) (by decide +kernel)) (by decide) (by unfold rg; omega) (fun M2 e => ?_)
  rw [e.trans (bz_u (by decide +kernel) (rfl : 13 + 1 = 14))]
  refine rr_aload_n pf_4_33 rfl ?_
  refine rr_iconst pf_4_34 ?_
  refine rr_putI pf_4_35 po_4 pg_1_25 (Or.inr ⟨by decide +kernel, rfl⟩) rfl (bz_s (x := (1, 5)) (by decide +kernel)) (by decide) (by unfold rg; omega) (fun M2 e => ?_)
  rw [e.trans (bz_u (by decide +kernel) (rfl : 14 + 1 = 15))]
  exact rr_vret pf_4_38 pt_4 G
theorem bC_4_5_7 {xs : Nat → Int} {L d : Nat} (hd : 1 ≤ d) : px_Cl xs L d 4 [.ref 4] (bS 5, bM 7) none (bS 8, bM 15) := by
  obtain ⟨d, rfl⟩ : ∃ e, d = e + 1 := ⟨d - 1, by omega⟩
  refine px_Cl_intro (Nat.le_of_ble_eq_true rfl) ?_
  show px_R xs L d 4 (0, [.ref 4], [], (bS 5, bM 7)) _
  exact bk_4_5_7_e (by omega) ⟨rfl, rfl⟩
theorem bk_3_4_6_0 {xs : Nat → Int} {L d : Nat} {Q : Option Value → px_H → Prop} (hd : 1 ≤ d) (G : px_R xs L d 3 (50, [.ref 3, .ref 1], [.int (iI (3)), .ref 3], (bS 12, bM 24)) Q) : px_R xs L d 3 (0, [.ref 3, .ref 1], [], (bS 4, bM 6)) Q := by
  refine rr_aload_n pf_3_0 rfl ?_
  refine rr_objI pf_3_1 po_3 pc_0_3 (by decide) ?_
  refine rr_aload_n pf_3_4 rfl ?_
  refine rr_new pf_3_5 po_3 pn_0_9 (by decide) rfl (fun M2 e => ?_)
  rw [bz_l (by decide : 4 ≤ 264)] at e ⊢
  rw [e.trans (bz_o (by decide +kernel) (rfl : 6 + 1 = 7))]
  rw [bz_n (by decide +kernel) (rfl : 4 + 1 = 5)]
  refine rr_dup pf_3_8 rfl ?_
  refine rr_cI0 pf_3_9 po_3 pc_0_11 (by decide) rfl (bC_4_5_7 (Nat.le_trans (by decide) hd)) ?_
  refine rr_putR pf_3_12 po_3 pg_0_12 (Or.inr ⟨by decide +kernel, rfl⟩) rfl (bz_s (x := (0, 15)) (by decide +kernel)) (by decide) (fun M2 e => ?_)
  rw [e.trans (bz_u (by decide +kernel) (rfl : 15 + 1 = 16))]
  refine rr_aload_n pf_3_15 rfl ?_
  refine rr_bipush pf_3_16 (by decide) ?_
  refine rr_newa 10 pf_3_18 (by simp) (by decide) (fun M2 e => ?_)
  rw [bz_l (by decide : 8 ≤ 264)] at e ⊢
  rw [e.trans (bz_c (by decide +kernel) (rfl : 16 + 1 = 17))]
  rw [bz_n (by decide +kernel) (rfl : 8 + 1 = 9)]
  refine rr_putR pf_3_20 po_3 pg_0_18 (Or.inr ⟨by decide +kernel, rfl⟩) rfl (bz_s (x := (0, 15)) (by decide +kernel)) (by decide) (fun M2 e => ?_)
  rw [e.trans (bz_u (by decide +kernel) (rfl : 17 + 1 = 18))]
  refine rr_aload_n pf_3_23 rfl ?_
  refine rr_bipush pf_3_24 (by decide) ?_
  refine rr_newa 10 pf_3_26 (by simp) (by decide) (fun M2 e => ?_)
  rw [bz_l (by decide : 9 ≤ 264)] at e ⊢
  rw [e.trans (bz_c (by decide +kernel) (rfl : 18 + 1 = 19))]
  rw [bz_n (by decide +kernel) (rfl : 9 + 1 = 10)]
  refine rr_putR pf_3_28 po_3 pg_0_22 (Or.inr ⟨by decide +kernel, rfl⟩) rfl (bz_s (x := (0, 15)) (by decide +kernel)) (by decide) (fun M2 e => ?_)
  rw [e.trans (bz_u (by decide +kernel) (rfl : 19 + 1 = 20))]
  refine rr_aload_n pf_3_31 rfl ?_
  refine rr_bipush pf_3_32 (by decide) ?_
  refine rr_newa 10 pf_3_34 (by simp) (by decide) (fun M2 e => ?_)
  rw [bz_l (by decide : 10 ≤ 264)] at e ⊢
  rw [e.trans (bz_c (by decide +kernel) (rfl : 20 + 1 = 21))]
  rw [bz_n (by decide +kernel) (rfl : 10 + 1 = 11)]
  refine rr_putR pf_3_36 po_3 pg_0_25 (Or.inr ⟨by decide +kernel, rfl⟩) rfl (bz_s (x := (0, 15)) (by decide +kernel)) (by decide) (fun M2 e => ?_)
  rw [e.trans (bz_u (by decide +kernel) (rfl : 21 + 1 = 22))]
  refine rr_aload_n pf_3_39 rfl ?_
  refine rr_bipush pf_3_40 (by decide) ?_
  refine rr_anewa 13 pf_3_42 po_3 pn_0_28 (by simp) (by decide) (fun M2 e => ?_)
  rw [bz_l (by decide : 11 ≤ 264)] at e ⊢
  rw [e.trans (bz_c (by decide +kernel) (rfl : 22 + 1 = 23))]
  rw [bz_n (by decide +kernel) (rfl : 11 + 1 = 12)]
  refine rr_putR pf_3_45 po_3 pg_0_30 (Or.inr ⟨by decide +kernel, rfl⟩) rfl (bz_s (x := (0, 15)) (by decide +kernel)) (by decide) (fun M2 e => ?_)
  rw [e.trans (bz_u (by decide +kernel) (rfl : 23 + 1 = 24))]
  refine rr_aload_n pf_3_48 rfl ?_
  refine rr_iconst pf_3_49 ?_
  exact G
theorem bk_3_4_6_1 {xs : Nat → Int} {L d : Nat} {Q : Option Value → px_H → Prop} (hd : 1 ≤ d) (G : px_R xs L d 3 (103, [.ref 3, .ref 1], [], (bS 14, bM 36)) Q) : px_R xs L d 3 (50, [.ref 3, .ref 1], [.int (iI (3)), .ref 3], (bS 12, bM 24)) Q := by
  refine rr_newa 10 pf_3_50 (by simp) (by decide) (fun M2 e => ?_)
  rw [bz_l (by decide : 12 ≤ 264)] at e ⊢
  rw [e.trans (bz_c (by decide +kernel) (rfl : 24 + 1 = 25))]
  rw [bz_n (by decide +kernel) (rfl : 12 + 1 = 13)]
  refine rr_putR pf_3_52 po_3 pg_0_34 (Or.inr ⟨by decide +kernel, rfl⟩) rfl (bz_s (x := (0, 15)) (by decide +kernel)) (by decide) (fun M2 e => ?_)
  rw [e.trans (bz_u (by decide +kernel) (rfl : 25 + 1 = 26))]
  refine rr_aload_n pf_3_55 rfl ?_
  refine rr_iconst pf_3_56 ?_
  refine rr_putI pf_3_57 po_3 pg_0_37 (Or.inr ⟨by decide +kernel, rfl⟩) rfl (bz_s (x := (0, 15)) (by decide +kernel)) (by decide) (by unfold rg; omega) (fun M2 e => ?_)
  rw [e.trans (bz_u (by decide +kernel) (rfl : 26 + 1 = 27))]
  refine rr_aload_n pf_3_60 rfl ?_
  refine rr_iconst pf_3_61 ?_
  refine rr_putI pf_3_62 po_3 pg_0_41 (Or.inr ⟨by decide +kernel, rfl⟩) rfl (bz_s (x := (0, 15)) (by decide +kernel)) (by decide) (by unfold rg; omega) (fun M2 e => ?_)
  rw [e.trans (bz_u (by decide +kernel) (rfl : 27 + 1 = 28))]
  refine rr_aload_n pf_3_65 rfl ?_
  refine rr_iconst pf_3_66 ?_
  refine rr_putI pf_3_67 po_3 pg_0_44 (Or.inr ⟨by decide +kernel, rfl⟩) rfl (bz_s (x := (0, 15)) (by decide +kernel)) (by decide) (by unfold rg; omega) (fun M2 e => ?_)
  rw [e.trans (bz_u (by decide +kernel) (rfl : 28 + 1 = 29))]
  refine rr_aload_n pf_3_70 rfl ?_
  refine rr_iconst pf_3_71 ?_
  refine rr_putI pf_3_72 po_3 pg_0_47 (Or.inr ⟨by decide +kernel, rfl⟩) rfl (bz_s (x := (0, 15)) (by decide +kernel)) (by decide) (by unfold rg; omega) (fun M2 e => ?_)
  rw [e.trans (bz_u (by decide +kernel) (rfl : 29 + 1 = 30))]
  refine rr_aload_n pf_3_75 rfl ?_
  refine rr_iconst pf_3_76 ?_
  refine rr_putI pf_3_77 po_3 pg_0_50 (Or.inr ⟨by decide +kernel, rfl⟩) rfl (bz_s (x := (0, 15)) (by decide +kernel)) (by decide) (by unfold rg; omega) (fun M2 e => ?_)
  rw [e.trans (bz_u (by decide +kernel) (rfl : 30 + 1 = 31))]
  refine rr_aload_n pf_3_80 rfl ?_
  refine rr_iconst pf_3_81 ?_
  refine rr_putI pf_3_82 po_3 pg_0_53 (Or.inr ⟨by decide +kernel, rfl⟩) rfl (bz_s (x := (0, 15)) (by decide +kernel)) (by decide) (by unfold rg; omega) (fun M2 e => ?_)
  rw [e.trans (bz_u (by decide +kernel) (rfl : 31 + 1 = 32))]
  refine rr_aload_n pf_3_85 rfl ?_
  refine rr_iconst pf_3_86 ?_
  refine rr_putI pf_3_87 po_3 pg_0_56 (Or.inr ⟨by decide +kernel, rfl⟩) rfl (bz_s (x := (0, 15)) (by decide +kernel)) (by decide) (by unfold rg; omega) (fun M2 e => ?_)
  rw [e.trans (bz_u (by decide +kernel) (rfl : 32 + 1 = 33))]
  refine rr_aload_n pf_3_90 rfl ?_
  refine rr_bipush pf_3_91 (by decide) ?_
  refine rr_newa 10 pf_3_93 (by simp) (by decide) (fun M2 e => ?_)
  rw [bz_l (by decide : 13 ≤ 264)] at e ⊢
  rw [e.trans (bz_c (by decide +kernel) (rfl : 33 + 1 = 34))]
  rw [bz_n (by decide +kernel) (rfl : 13 + 1 = 14)]
  refine rr_putR pf_3_95 po_3 pg_0_59 (Or.inr ⟨by decide +kernel, rfl⟩) rfl (bz_s (x := (0, 15)) (by decide +kernel)) (by decide) (fun M2 e => ?_)
  rw [e.trans (bz_u (by decide +kernel) (rfl : 34 + 1 = 35))]
  refine rr_aload_n pf_3_98 rfl ?_
  refine rr_aload_n pf_3_99 rfl ?_
  refine rr_putR pf_3_100 po_3 pg_0_62 (Or.inr ⟨by decide +kernel, rfl⟩) rfl (bz_s (x := (0, 15)) (by decide +kernel)) (by decide) (fun M2 e => ?_)
  rw [e.trans (bz_u (by decide +kernel) (rfl : 35 + 1 = 36))]
  exact G
theorem bk_3_4_6_e {xs : Nat → Int} {L d : Nat} {Q : Option Value → px_H → Prop} (hd : 1 ≤ d) (G : Q none (bS 14, bM 36)) : px_R xs L d 3 (103, [.ref 3, .ref 1], [], (bS 14, bM 36)) Q := by
  exact rr_vret pf_3_103 pt_3 G
theorem bC_3_4_6 {xs : Nat → Int} {L d : Nat} (hd : 2 ≤ d) : px_Cl xs L d 3 [.ref 3, .ref 1] (bS 4, bM 6) none (bS 14, bM 36) := by
  obtain ⟨d, rfl⟩ : ∃ e, d = e + 1 := ⟨d - 1, by omega⟩
  refine px_Cl_intro (Nat.le_of_ble_eq_true rfl) ?_
  show px_R xs L d 3 (0, [.ref 3, .ref 1], [], (bS 4, bM 6)) _
  refine bk_3_4_6_0 (by omega) ?_
  refine bk_3_4_6_1 (by omega) ?_
  exact bk_3_4_6_e (by omega) ⟨rfl, rfl⟩
theorem bk_4_16_39_e {xs : Nat → Int} {L d : Nat} {Q : Option Value → px_H → Prop} (hd : 0 ≤ d) (G : Q none (bS 19, bM 47)) : px_R xs L d 4 (0, [.ref 15], [], (bS 16, bM 39)) Q := by
  refine rr_aload_n pf_4_0 rfl ?_
  refine rr_objI pf_4_1 po_4 pc_1_3 (by decide) ?_
  refine rr_aload_n pf_4_4 rfl ?_
  refine rr_bipush pf_4_5 (by decide) ?_
  refine rr_newa 10 pf_4_7 (by simp) (by decide) (fun M2 e => ?_)
  rw [bz_l (by decide : 16 ≤ 264)] at e ⊢
  rw [e.trans (bz_c (by decide +kernel) (rfl : 39 + 1 = 40))]
  rw [bz_n (by decide +kernel) (rfl : 16 + 1 = 17)]
  refine rr_putR pf_4_9 po_4 pg_1_9 (Or.inr ⟨by decide +kernel, rfl⟩) rfl (bz_s (x := (1, 5)) (by decide +kernel)) (by decide) (fun M2 e => ?_)
  rw [e.trans (bz_u (by decide +kernel) (rfl : 40 + 1 = 41))]
  refine rr_aload_n pf_4_12 rfl ?_
  refine rr_bipush pf_4_13 (by decide) ?_
  refine rr_newa 10 pf_4_15 (by simp) (by decide) (fun M2 e => ?_)
  rw [bz_l (by decide : 17 ≤ 264)] at e ⊢
  rw [e.trans (bz_c (by decide +kernel) (rfl : 41 + 1 = 42))]
  rw [bz_n (by decide +kernel) (rfl : 17 + 1 = 18)]
  refine rr_putR pf_4_17 po_4 pg_1_15 (Or.inr ⟨by decide +kernel, rfl⟩) rfl (bz_s (x := (1, 5)) (by decide +kernel)) (by decide) (fun M2 e => ?_)
  rw [e.trans (bz_u (by decide +kernel) (rfl : 42 + 1 = 43))]
  refine rr_aload_n pf_4_20 rfl ?_
  refine rr_bipush pf_4_21 (by decide) ?_
  refine rr_newa 10 pf_4_23 (by simp) (by decide) (fun M2 e => ?_)
  rw [bz_l (by decide : 18 ≤ 264)] at e ⊢
  rw [e.trans (bz_c (by decide +kernel) (rfl : 43 + 1 = 44))]
  rw [bz_n (by decide +kernel) (rfl : 18 + 1 = 19)]
  refine rr_putR pf_4_25 po_4 pg_1_18 (Or.inr ⟨by decide +kernel, rfl⟩) rfl (bz_s (x := (1, 5)) (by decide +kernel)) (by decide) (fun M2 e => ?_)
  rw [e.trans (bz_u (by decide +kernel) (rfl : 44 + 1 = 45))]
  refine rr_aload_n pf_4_28 rfl ?_
  refine rr_iconst pf_4_29 ?_
  refine rr_putI pf_4_30 po_4 pg_1_21 (Or.inr ⟨by decide +kernel, rfl⟩) rfl (bz_s (x := (1, 5)) (by decide +kernel)) (by decide) (by unfold rg; omega) (fun M2 e => ?_)
  rw [e.trans (bz_u (by decide +kernel) (rfl : 45 + 1 = 46))]
  refine rr_aload_n pf_4_33 rfl ?_
  refine rr_iconst pf_4_34 ?_
  refine rr_putI pf_4_35 po_4 pg_1_25 (Or.inr ⟨by decide +kernel, rfl⟩) rfl (bz_s (x := (1, 5)) (by decide +kernel)) (by decide) (by unfold rg; omega) (fun M2 e => ?_)
  rw [e.trans (bz_u (by decide +kernel) (rfl : 46 + 1 = 47))]
  exact rr_vret pf_4_38 pt_4 G
theorem bC_4_16_39 {xs : Nat → Int} {L d : Nat} (hd : 1 ≤ d) : px_Cl xs L d 4 [.ref 15] (bS 16, bM 39) none (bS 19, bM 47) := by
  obtain ⟨d, rfl⟩ : ∃ e, d = e + 1 := ⟨d - 1, by omega⟩
  refine px_Cl_intro (Nat.le_of_ble_eq_true rfl) ?_
  show px_R xs L d 4 (0, [.ref 15], [], (bS 16, bM 39)) _
  exact bk_4_16_39_e (by omega) ⟨rfl, rfl⟩
theorem bk_3_15_38_0 {xs : Nat → Int} {L d : Nat} {Q : Option Value → px_H → Prop} (hd : 1 ≤ d) (G : px_R xs L d 3 (50, [.ref 14, .ref 1], [.int (iI (3)), .ref 14], (bS 23, bM 56)) Q) : px_R xs L d 3 (0, [.ref 14, .ref 1], [], (bS 15, bM 38)) Q := by
  refine rr_aload_n pf_3_0 rfl ?_
  refine rr_objI pf_3_1 po_3 pc_0_3 (by decide) ?_
  refine rr_aload_n pf_3_4 rfl ?_
  refine rr_new pf_3_5 po_3 pn_0_9 (by decide) rfl (fun M2 e => ?_)
  rw [bz_l (by decide : 15 ≤ 264)] at e ⊢
  rw [e.trans (bz_o (by decide +kernel) (rfl : 38 + 1 = 39))]
  rw [bz_n (by decide +kernel) (rfl : 15 + 1 = 16)]
  refine rr_dup pf_3_8 rfl ?_
  refine rr_cI0 pf_3_9 po_3 pc_0_11 (by decide) rfl (bC_4_16_39 (Nat.le_trans (by decide) hd)) ?_
  refine rr_putR pf_3_12 po_3 pg_0_12 (Or.inr ⟨by decide +kernel, rfl⟩) rfl (bz_s (x := (0, 15)) (by decide +kernel)) (by decide) (fun M2 e => ?_)
  rw [e.trans (bz_u (by decide +kernel) (rfl : 47 + 1 = 48))]
  refine rr_aload_n pf_3_15 rfl ?_
  refine rr_bipush pf_3_16 (by decide) ?_
  refine rr_newa 10 pf_3_18 (by simp) (by decide) (fun M2 e => ?_)
  rw [bz_l (by decide : 19 ≤ 264)] at e ⊢
  rw [e.trans (bz_c (by decide +kernel) (rfl : 48 + 1 = 49))]
  rw [bz_n (by decide +kernel) (rfl : 19 + 1 = 20)]
  refine rr_putR pf_3_20 po_3 pg_0_18 (Or.inr ⟨by decide +kernel, rfl⟩) rfl (bz_s (x := (0, 15)) (by decide +kernel)) (by decide) (fun M2 e => ?_)
  rw [e.trans (bz_u (by decide +kernel) (rfl : 49 + 1 = 50))]
  refine rr_aload_n pf_3_23 rfl ?_
  refine rr_bipush pf_3_24 (by decide) ?_
  refine rr_newa 10 pf_3_26 (by simp) (by decide) (fun M2 e => ?_)
  rw [bz_l (by decide : 20 ≤ 264)] at e ⊢
  rw [e.trans (bz_c (by decide +kernel) (rfl : 50 + 1 = 51))]
  rw [bz_n (by decide +kernel) (rfl : 20 + 1 = 21)]
  refine rr_putR pf_3_28 po_3 pg_0_22 (Or.inr ⟨by decide +kernel, rfl⟩) rfl (bz_s (x := (0, 15)) (by decide +kernel)) (by decide) (fun M2 e => ?_)
  rw [e.trans (bz_u (by decide +kernel) (rfl : 51 + 1 = 52))]
  refine rr_aload_n pf_3_31 rfl ?_
  refine rr_bipush pf_3_32 (by decide) ?_
  refine rr_newa 10 pf_3_34 (by simp) (by decide) (fun M2 e => ?_)
  rw [bz_l (by decide : 21 ≤ 264)] at e ⊢
  rw [e.trans (bz_c (by decide +kernel) (rfl : 52 + 1 = 53))]
  rw [bz_n (by decide +kernel) (rfl : 21 + 1 = 22)]
  refine rr_putR pf_3_36 po_3 pg_0_25 (Or.inr ⟨by decide +kernel, rfl⟩) rfl (bz_s (x := (0, 15)) (by decide +kernel)) (by decide) (fun M2 e => ?_)
  rw [e.trans (bz_u (by decide +kernel) (rfl : 53 + 1 = 54))]
  refine rr_aload_n pf_3_39 rfl ?_
  refine rr_bipush pf_3_40 (by decide) ?_
  refine rr_anewa 13 pf_3_42 po_3 pn_0_28 (by simp) (by decide) (fun M2 e => ?_)
  rw [bz_l (by decide : 22 ≤ 264)] at e ⊢
  rw [e.trans (bz_c (by decide +kernel) (rfl : 54 + 1 = 55))]
  rw [bz_n (by decide +kernel) (rfl : 22 + 1 = 23)]
  refine rr_putR pf_3_45 po_3 pg_0_30 (Or.inr ⟨by decide +kernel, rfl⟩) rfl (bz_s (x := (0, 15)) (by decide +kernel)) (by decide) (fun M2 e => ?_)
  rw [e.trans (bz_u (by decide +kernel) (rfl : 55 + 1 = 56))]
  refine rr_aload_n pf_3_48 rfl ?_
  refine rr_iconst pf_3_49 ?_
  exact G
theorem bk_3_15_38_1 {xs : Nat → Int} {L d : Nat} {Q : Option Value → px_H → Prop} (hd : 1 ≤ d) (G : px_R xs L d 3 (103, [.ref 14, .ref 1], [], (bS 25, bM 68)) Q) : px_R xs L d 3 (50, [.ref 14, .ref 1], [.int (iI (3)), .ref 14], (bS 23, bM 56)) Q := by
  refine rr_newa 10 pf_3_50 (by simp) (by decide) (fun M2 e => ?_)
  rw [bz_l (by decide : 23 ≤ 264)] at e ⊢
  rw [e.trans (bz_c (by decide +kernel) (rfl : 56 + 1 = 57))]
  rw [bz_n (by decide +kernel) (rfl : 23 + 1 = 24)]
  refine rr_putR pf_3_52 po_3 pg_0_34 (Or.inr ⟨by decide +kernel, rfl⟩) rfl (bz_s (x := (0, 15)) (by decide +kernel)) (by decide) (fun M2 e => ?_)
  rw [e.trans (bz_u (by decide +kernel) (rfl : 57 + 1 = 58))]
  refine rr_aload_n pf_3_55 rfl ?_
  refine rr_iconst pf_3_56 ?_
  refine rr_putI pf_3_57 po_3 pg_0_37 (Or.inr ⟨by decide +kernel, rfl⟩) rfl (bz_s (x := (0, 15)) (by decide +kernel)) (by decide) (by unfold rg; omega) (fun M2 e => ?_)
  rw [e.trans (bz_u (by decide +kernel) (rfl : 58 + 1 = 59))]
  refine rr_aload_n pf_3_60 rfl ?_
  refine rr_iconst pf_3_61 ?_
  refine rr_putI pf_3_62 po_3 pg_0_41 (Or.inr ⟨by decide +kernel, rfl⟩) rfl (bz_s (x := (0, 15)) (by decide +kernel)) (by decide) (by unfold rg; omega) (fun M2 e => ?_)
  rw [e.trans (bz_u (by decide +kernel) (rfl : 59 + 1 = 60))]
  refine rr_aload_n pf_3_65 rfl ?_
  refine rr_iconst pf_3_66 ?_
  refine rr_putI pf_3_67 po_3 pg_0_44 (Or.inr ⟨by decide +kernel, rfl⟩) rfl (bz_s (x := (0, 15)) (by decide +kernel)) (by decide) (by unfold rg; omega) (fun M2 e => ?_)
  rw [e.trans (bz_u (by decide +kernel) (rfl : 60 + 1 = 61))]
  refine rr_aload_n pf_3_70 rfl ?_
  refine rr_iconst pf_3_71 ?_
  refine rr_putI pf_3_72 po_3 pg_0_47 (Or.inr ⟨by decide +kernel, rfl⟩) rfl (bz_s (x := (0, 15)) (by decide +kernel)) (by decide) (by unfold rg; omega) (fun M2 e => ?_)
  rw [e.trans (bz_u (by decide +kernel) (rfl : 61 + 1 = 62))]
  refine rr_aload_n pf_3_75 rfl ?_
  refine rr_iconst pf_3_76 ?_
  refine rr_putI pf_3_77 po_3 pg_0_50 (Or.inr ⟨by decide +kernel, rfl⟩) rfl (bz_s (x := (0, 15)) (by decide +kernel)) (by decide) (by unfold rg; omega) (fun M2 e => ?_)
  rw [e.trans (bz_u (by decide +kernel) (rfl : 62 + 1 = 63))]
  refine rr_aload_n pf_3_80 rfl ?_
  refine rr_iconst pf_3_81 ?_
  refine rr_putI pf_3_82 po_3 pg_0_53 (Or.inr ⟨by decide +kernel, rfl⟩) rfl (bz_s (x := (0, 15)) (by decide +kernel)) (by decide) (by unfold rg; omega) (fun M2 e => ?_)
  rw [e.trans (bz_u (by decide +kernel) (rfl : 63 + 1 = 64))]
  refine rr_aload_n pf_3_85 rfl ?_
  refine rr_iconst pf_3_86 ?_
  refine rr_putI pf_3_87 po_3 pg_0_56 (Or.inr ⟨by decide +kernel, rfl⟩) rfl (bz_s (x := (0, 15)) (by decide +kernel)) (by decide) (by unfold rg; omega) (fun M2 e => ?_)
  rw [e.trans (bz_u (by decide +kernel) (rfl : 64 + 1 = 65))]
  refine rr_aload_n pf_3_90 rfl ?_
  refine rr_bipush pf_3_91 (by decide) ?_
  refine rr_newa 10 pf_3_93 (by simp) (by decide) (fun M2 e => ?_)
  rw [bz_l (by decide : 24 ≤ 264)] at e ⊢
  rw [e.trans (bz_c (by decide +kernel) (rfl : 65 + 1 = 66))]
  rw [bz_n (by decide +kernel) (rfl : 24 + 1 = 25)]
  refine rr_putR pf_3_95 po_3 pg_0_59 (Or.inr ⟨by decide +kernel, rfl⟩) rfl (bz_s (x := (0, 15)) (by decide +kernel)) (by decide) (fun M2 e => ?_)
  rw [e.trans (bz_u (by decide +kernel) (rfl : 66 + 1 = 67))]
  refine rr_aload_n pf_3_98 rfl ?_
  refine rr_aload_n pf_3_99 rfl ?_
  refine rr_putR pf_3_100 po_3 pg_0_62 (Or.inr ⟨by decide +kernel, rfl⟩) rfl (bz_s (x := (0, 15)) (by decide +kernel)) (by decide) (fun M2 e => ?_)
  rw [e.trans (bz_u (by decide +kernel) (rfl : 67 + 1 = 68))]
  exact G
theorem bk_3_15_38_e {xs : Nat → Int} {L d : Nat} {Q : Option Value → px_H → Prop} (hd : 1 ≤ d) (G : Q none (bS 25, bM 68)) : px_R xs L d 3 (103, [.ref 14, .ref 1], [], (bS 25, bM 68)) Q := by
  exact rr_vret pf_3_103 pt_3 G
theorem bC_3_15_38 {xs : Nat → Int} {L d : Nat} (hd : 2 ≤ d) : px_Cl xs L d 3 [.ref 14, .ref 1] (bS 15, bM 38) none (bS 25, bM 68) := by
  obtain ⟨d, rfl⟩ : ∃ e, d = e + 1 := ⟨d - 1, by omega⟩
  refine px_Cl_intro (Nat.le_of_ble_eq_true rfl) ?_
  show px_R xs L d 3 (0, [.ref 14, .ref 1], [], (bS 15, bM 38)) _
  refine bk_3_15_38_0 (by omega) ?_
  refine bk_3_15_38_1 (by omega) ?_
  exact bk_3_15_38_e (by omega) ⟨rfl, rfl⟩
theorem bk_1_1_1_0 {xs : Nat → Int} {L d : Nat} {Q : Option Value → px_H → Prop} (hd : 2 ≤ d) (G : px_R xs L d 1 (57, [.ref 0, px_jk], [.ref 26, .ref 0], (bS 27, bM 72)) Q) : px_R xs L d 1 (0, [.ref 0, px_jk], [], (bS 1, bM 1)) Q := by
  refine rr_aload_n pf_1_0 rfl ?_
  refine rr_objI pf_1_1 po_1 pc_8_3 (by decide) ?_
  refine rr_aload_n pf_1_4 rfl ?_
  refine rr_new pf_1_5 po_1 pn_8_9 (by decide) rfl (fun M2 e => ?_)
  rw [bz_l (by decide : 1 ≤ 264)] at e ⊢
  rw [e.trans (bz_o (by decide +kernel) (rfl : 1 + 1 = 2))]
  rw [bz_n (by decide +kernel) (rfl : 1 + 1 = 2)]
  refine rr_dup pf_1_8 rfl ?_
  refine rr_cI0 pf_1_9 po_1 pc_8_11 (by decide) rfl (bC_2_2_2 (Nat.le_trans (by decide) hd)) ?_
  refine rr_putR pf_1_12 po_1 pg_8_12 (Or.inr ⟨by decide +kernel, rfl⟩) rfl (bz_s (x := (8, 15)) (by decide +kernel)) (by decide) (fun M2 e => ?_)
  rw [e.trans (bz_u (by decide +kernel) (rfl : 4 + 1 = 5))]
  refine rr_aload_n pf_1_15 rfl ?_
  refine rr_new pf_1_16 po_1 pn_8_16 (by decide) rfl (fun M2 e => ?_)
  rw [bz_l (by decide : 3 ≤ 264)] at e ⊢
  rw [e.trans (bz_o (by decide +kernel) (rfl : 5 + 1 = 6))]
  rw [bz_n (by decide +kernel) (rfl : 3 + 1 = 4)]
  refine rr_dup pf_1_19 rfl ?_
  refine rr_aload_n pf_1_20 rfl ?_
  refine rr_getR (q := 1) pf_1_21 po_1 pg_8_12 rfl (bz_s (x := (8, 15)) (by decide +kernel)) (by decide) (by decide +kernel) ?_
  refine rr_cI1 pf_1_24 po_1 pc_8_18 (by decide) rfl (bC_3_4_6 (Nat.le_trans (by decide) hd)) ?_
  refine rr_putR pf_1_27 po_1 pg_8_21 (Or.inr ⟨by decide +kernel, rfl⟩) rfl (bz_s (x := (8, 15)) (by decide +kernel)) (by decide) (fun M2 e => ?_)
  rw [e.trans (bz_u (by decide +kernel) (rfl : 36 + 1 = 37))]
  refine rr_aload_n pf_1_30 rfl ?_
  refine rr_new pf_1_31 po_1 pn_8_16 (by decide) rfl (fun M2 e => ?_)
  rw [bz_l (by decide : 14 ≤ 264)] at e ⊢
  rw [e.trans (bz_o (by decide +kernel) (rfl : 37 + 1 = 38))]
  rw [bz_n (by decide +kernel) (rfl : 14 + 1 = 15)]
  refine rr_dup pf_1_34 rfl ?_
  refine rr_aload_n pf_1_35 rfl ?_
  refine rr_getR (q := 1) pf_1_36 po_1 pg_8_12 rfl (bz_s (x := (8, 15)) (by decide +kernel)) (by decide) (by decide +kernel) ?_
  refine rr_cI1 pf_1_39 po_1 pc_8_18 (by decide) rfl (bC_3_15_38 (Nat.le_trans (by decide) hd)) ?_
  refine rr_putR pf_1_42 po_1 pg_8_25 (Or.inr ⟨by decide +kernel, rfl⟩) rfl (bz_s (x := (8, 15)) (by decide +kernel)) (by decide) (fun M2 e => ?_)
  rw [e.trans (bz_u (by decide +kernel) (rfl : 68 + 1 = 69))]
  refine rr_aload_n pf_1_45 rfl ?_
  refine rr_iconst pf_1_46 ?_
  refine rr_anewa 15 pf_1_47 po_1 pn_8_16 (by simp) (by decide) (fun M2 e => ?_)
  rw [bz_l (by decide : 25 ≤ 264)] at e ⊢
  rw [e.trans (bz_c (by decide +kernel) (rfl : 69 + 1 = 70))]
  rw [bz_n (by decide +kernel) (rfl : 25 + 1 = 26)]
  refine rr_putR pf_1_50 po_1 pg_8_28 (Or.inr ⟨by decide +kernel, rfl⟩) rfl (bz_s (x := (8, 15)) (by decide +kernel)) (by decide) (fun M2 e => ?_)
  rw [e.trans (bz_u (by decide +kernel) (rfl : 70 + 1 = 71))]
  refine rr_aload_n pf_1_53 rfl ?_
  refine rr_iconst pf_1_54 ?_
  refine rr_newa 11 pf_1_55 (by simp) (by decide) (fun M2 e => ?_)
  rw [bz_l (by decide : 26 ≤ 264)] at e ⊢
  rw [e.trans (bz_c (by decide +kernel) (rfl : 71 + 1 = 72))]
  rw [bz_n (by decide +kernel) (rfl : 26 + 1 = 27)]
  exact G
theorem bk_4_31_81_e {xs : Nat → Int} {L d : Nat} {Q : Option Value → px_H → Prop} (hd : 0 ≤ d) (G : Q none (bS 34, bM 89)) : px_R xs L d 4 (0, [.ref 30], [], (bS 31, bM 81)) Q := by
  refine rr_aload_n pf_4_0 rfl ?_
  refine rr_objI pf_4_1 po_4 pc_1_3 (by decide) ?_
  refine rr_aload_n pf_4_4 rfl ?_
  refine rr_bipush pf_4_5 (by decide) ?_
  refine rr_newa 10 pf_4_7 (by simp) (by decide) (fun M2 e => ?_)
  rw [bz_l (by decide : 31 ≤ 264)] at e ⊢
  rw [e.trans (bz_c (by decide +kernel) (rfl : 81 + 1 = 82))]
  rw [bz_n (by decide +kernel) (rfl : 31 + 1 = 32)]
  refine rr_putR pf_4_9 po_4 pg_1_9 (Or.inr ⟨by decide +kernel, rfl⟩) rfl (bz_s (x := (1, 5)) (by decide +kernel)) (by decide) (fun M2 e => ?_)
  rw [e.trans (bz_u (by decide +kernel) (rfl : 82 + 1 = 83))]
  refine rr_aload_n pf_4_12 rfl ?_
  refine rr_bipush pf_4_13 (by decide) ?_
  refine rr_newa 10 pf_4_15 (by simp) (by decide) (fun M2 e => ?_)
  rw [bz_l (by decide : 32 ≤ 264)] at e ⊢
  rw [e.trans (bz_c (by decide +kernel) (rfl : 83 + 1 = 84))]
  rw [bz_n (by decide +kernel) (rfl : 32 + 1 = 33)]
  refine rr_putR pf_4_17 po_4 pg_1_15 (Or.inr ⟨by decide +kernel, rfl⟩) rfl (bz_s (x := (1, 5)) (by decide +kernel)) (by decide) (fun M2 e => ?_)
  rw [e.trans (bz_u (by decide +kernel) (rfl : 84 + 1 = 85))]
  refine rr_aload_n pf_4_20 rfl ?_
  refine rr_bipush pf_4_21 (by decide) ?_
  refine rr_newa 10 pf_4_23 (by simp) (by decide) (fun M2 e => ?_)
  rw [bz_l (by decide : 33 ≤ 264)] at e ⊢
  rw [e.trans (bz_c (by decide +kernel) (rfl : 85 + 1 = 86))]
  rw [bz_n (by decide +kernel) (rfl : 33 + 1 = 34)]
  refine rr_putR pf_4_25 po_4 pg_1_18 (Or.inr ⟨by decide +kernel, rfl⟩) rfl (bz_s (x := (1, 5)) (by decide +kernel)) (by decide) (fun M2 e => ?_)
  rw [e.trans (bz_u (by decide +kernel) (rfl : 86 + 1 = 87))]
  refine rr_aload_n pf_4_28 rfl ?_
  refine rr_iconst pf_4_29 ?_
  refine rr_putI pf_4_30 po_4 pg_1_21 (Or.inr ⟨by decide +kernel, rfl⟩) rfl (bz_s (x := (1, 5)) (by decide +kernel)) (by decide) (by unfold rg; omega) (fun M2 e => ?_)
  rw [e.trans (bz_u (by decide +kernel) (rfl : 87 + 1 = 88))]
  refine rr_aload_n pf_4_33 rfl ?_
  refine rr_iconst pf_4_34 ?_
  refine rr_putI pf_4_35 po_4 pg_1_25 (Or.inr ⟨by decide +kernel, rfl⟩) rfl (bz_s (x := (1, 5)) (by decide +kernel)) (by decide) (by unfold rg; omega) (fun M2 e => ?_)
  rw [e.trans (bz_u (by decide +kernel) (rfl : 88 + 1 = 89))]
  exact rr_vret pf_4_38 pt_4 G
theorem bC_4_31_81 {xs : Nat → Int} {L d : Nat} (hd : 1 ≤ d) : px_Cl xs L d 4 [.ref 30] (bS 31, bM 81) none (bS 34, bM 89) := by
  obtain ⟨d, rfl⟩ : ∃ e, d = e + 1 := ⟨d - 1, by omega⟩
  refine px_Cl_intro (Nat.le_of_ble_eq_true rfl) ?_
  show px_R xs L d 4 (0, [.ref 30], [], (bS 31, bM 81)) _
  exact bk_4_31_81_e (by omega) ⟨rfl, rfl⟩
theorem bk_5_28_74_0 {xs : Nat → Int} {L d : Nat} {Q : Option Value → px_H → Prop} (hd : 1 ≤ d) (G : px_R xs L d 5 (55, [.ref 27, .int (iI (1))], [], (bS 34, bM 90)) Q) : px_R xs L d 5 (0, [.ref 27, px_jk], [], (bS 28, bM 74)) Q := by
  refine rr_aload_n pf_5_0 rfl ?_
  refine rr_objI pf_5_1 po_5 pc_7_3 (by decide) ?_
  refine rr_aload_n pf_5_4 rfl ?_
  refine rr_bipush pf_5_5 (by decide) ?_
  refine rr_anewa 14 pf_5_7 po_5 pn_7_11 (by simp) (by decide) (fun M2 e => ?_)
  rw [bz_l (by decide : 28 ≤ 264)] at e ⊢
  rw [e.trans (bz_c (by decide +kernel) (rfl : 74 + 1 = 75))]
  rw [bz_n (by decide +kernel) (rfl : 28 + 1 = 29)]
  refine rr_putR pf_5_10 po_5 pg_7_13 (Or.inr ⟨by decide +kernel, rfl⟩) rfl (bz_s (x := (7, 4)) (by decide +kernel)) (by decide) (fun M2 e => ?_)
  rw [e.trans (bz_u (by decide +kernel) (rfl : 75 + 1 = 76))]
  refine rr_aload_n pf_5_13 rfl ?_
  refine rr_bipush pf_5_14 (by decide) ?_
  refine rr_newa 10 pf_5_16 (by simp) (by decide) (fun M2 e => ?_)
  rw [bz_l (by decide : 29 ≤ 264)] at e ⊢
  rw [e.trans (bz_c (by decide +kernel) (rfl : 76 + 1 = 77))]
  rw [bz_n (by decide +kernel) (rfl : 29 + 1 = 30)]
  refine rr_putR pf_5_18 po_5 pg_7_17 (Or.inr ⟨by decide +kernel, rfl⟩) rfl (bz_s (x := (7, 4)) (by decide +kernel)) (by decide) (fun M2 e => ?_)
  rw [e.trans (bz_u (by decide +kernel) (rfl : 77 + 1 = 78))]
  refine rr_aload_n pf_5_21 rfl ?_
  refine rr_iconst pf_5_22 ?_
  refine rr_putI pf_5_23 po_5 pg_7_21 (Or.inr ⟨by decide +kernel, rfl⟩) rfl (bz_s (x := (7, 4)) (by decide +kernel)) (by decide) (by unfold rg; omega) (fun M2 e => ?_)
  rw [e.trans (bz_u (by decide +kernel) (rfl : 78 + 1 = 79))]
  refine rr_aload_n pf_5_26 rfl ?_
  refine rr_iconst pf_5_27 ?_
  refine rr_putI pf_5_28 po_5 pg_7_25 (Or.inr ⟨by decide +kernel, rfl⟩) rfl (bz_s (x := (7, 4)) (by decide +kernel)) (by decide) (by unfold rg; omega) (fun M2 e => ?_)
  rw [e.trans (bz_u (by decide +kernel) (rfl : 79 + 1 = 80))]
  refine rr_iconst pf_5_31 ?_
  refine rr_istore_n pf_5_32 (fun y => [.ref 27, .int (iI y)]) (by decide) (fun _ => rfl) (fun y ey => ?_)
  subst ey
  refine rr_iload_n pf_5_33 rfl ?_
  refine rr_bipush pf_5_34 (by decide) ?_
  refine rr_icmp_ge 58 pf_5_36 (by decide) (by unfold rg; omega) (by unfold rg; omega) (fun z => absurd z (by decide)) (fun _ => ?_)
  refine rr_aload_n pf_5_39 rfl ?_
  refine rr_getR (q := 28) pf_5_40 po_5 pg_7_13 rfl (bz_s (x := (7, 4)) (by decide +kernel)) (by decide) (by decide +kernel) ?_
  refine rr_iload_n pf_5_43 rfl ?_
  refine rr_new pf_5_44 po_5 pn_7_11 (by decide) rfl (fun M2 e => ?_)
  rw [bz_l (by decide : 30 ≤ 264)] at e ⊢
  rw [e.trans (bz_o (by decide +kernel) (rfl : 80 + 1 = 81))]
  rw [bz_n (by decide +kernel) (rfl : 30 + 1 = 31)]
  refine rr_dup pf_5_47 rfl ?_
  refine rr_cI0 pf_5_48 po_5 pc_7_28 (by decide) rfl (bC_4_31_81 (Nat.le_trans (by decide) hd)) ?_
  refine rr_aast pf_5_51 (bz_s (x := (14, 17)) (by decide +kernel)) (by decide) (by decide) (by unfold rg; omega) (by decide) (by decide +kernel) (fun M2 e => ?_)
  rw [e.trans (bz_u (by decide +kernel) (rfl : 89 + 1 = 90))]
  refine rr_iinc (x := 0) pf_5_52 rfl (fun y => [.ref 27, .int (iI y)]) (fun _ => rfl) (fun y ey => ?_)
  obtain rfl : y = 1 := ey
  exact G
theorem bk_4_35_91_e {xs : Nat → Int} {L d : Nat} {Q : Option Value → px_H → Prop} (hd : 0 ≤ d) (G : Q none (bS 38, bM 99)) : px_R xs L d 4 (0, [.ref 34], [], (bS 35, bM 91)) Q := by
  refine rr_aload_n pf_4_0 rfl ?_
  refine rr_objI pf_4_1 po_4 pc_1_3 (by decide) ?_
  refine rr_aload_n pf_4_4 rfl ?_
  refine rr_bipush pf_4_5 (by decide) ?_
  refine rr_newa 10 pf_4_7 (by simp) (by decide) (fun M2 e => ?_)
  rw [bz_l (by decide : 35 ≤ 264)] at e ⊢
  rw [e.trans (bz_c (by decide +kernel) (rfl : 91 + 1 = 92))]
  rw [bz_n (by decide +kernel) (rfl : 35 + 1 = 36)]
  refine rr_putR pf_4_9 po_4 pg_1_9 (Or.inr ⟨by decide +kernel, rfl⟩) rfl (bz_s (x := (1, 5)) (by decide +kernel)) (by decide) (fun M2 e => ?_)
  rw [e.trans (bz_u (by decide +kernel) (rfl : 92 + 1 = 93))]
  refine rr_aload_n pf_4_12 rfl ?_
  refine rr_bipush pf_4_13 (by decide) ?_
  refine rr_newa 10 pf_4_15 (by simp) (by decide) (fun M2 e => ?_)
  rw [bz_l (by decide : 36 ≤ 264)] at e ⊢
  rw [e.trans (bz_c (by decide +kernel) (rfl : 93 + 1 = 94))]
  rw [bz_n (by decide +kernel) (rfl : 36 + 1 = 37)]
  refine rr_putR pf_4_17 po_4 pg_1_15 (Or.inr ⟨by decide +kernel, rfl⟩) rfl (bz_s (x := (1, 5)) (by decide +kernel)) (by decide) (fun M2 e => ?_)
  rw [e.trans (bz_u (by decide +kernel) (rfl : 94 + 1 = 95))]
  refine rr_aload_n pf_4_20 rfl ?_
  refine rr_bipush pf_4_21 (by decide) ?_
  refine rr_newa 10 pf_4_23 (by simp) (by decide) (fun M2 e => ?_)
  rw [bz_l (by decide : 37 ≤ 264)] at e ⊢
  rw [e.trans (bz_c (by decide +kernel) (rfl : 95 + 1 = 96))]
  rw [bz_n (by decide +kernel) (rfl : 37 + 1 = 38)]
  refine rr_putR pf_4_25 po_4 pg_1_18 (Or.inr ⟨by decide +kernel, rfl⟩) rfl (bz_s (x := (1, 5)) (by decide +kernel)) (by decide) (fun M2 e => ?_)
  rw [e.trans (bz_u (by decide +kernel) (rfl : 96 + 1 = 97))]
  refine rr_aload_n pf_4_28 rfl ?_
  refine rr_iconst pf_4_29 ?_
  refine rr_putI pf_4_30 po_4 pg_1_21 (Or.inr ⟨by decide +kernel, rfl⟩) rfl (bz_s (x := (1, 5)) (by decide +kernel)) (by decide) (by unfold rg; omega) (fun M2 e => ?_)
  rw [e.trans (bz_u (by decide +kernel) (rfl : 97 + 1 = 98))]
  refine rr_aload_n pf_4_33 rfl ?_
  refine rr_iconst pf_4_34 ?_
  refine rr_putI pf_4_35 po_4 pg_1_25 (Or.inr ⟨by decide +kernel, rfl⟩) rfl (bz_s (x := (1, 5)) (by decide +kernel)) (by decide) (by unfold rg; omega) (fun M2 e => ?_)
  rw [e.trans (bz_u (by decide +kernel) (rfl : 98 + 1 = 99))]
  exact rr_vret pf_4_38 pt_4 G
theorem bC_4_35_91 {xs : Nat → Int} {L d : Nat} (hd : 1 ≤ d) : px_Cl xs L d 4 [.ref 34] (bS 35, bM 91) none (bS 38, bM 99) := by
  obtain ⟨d, rfl⟩ : ∃ e, d = e + 1 := ⟨d - 1, by omega⟩
  refine px_Cl_intro (Nat.le_of_ble_eq_true rfl) ?_
  show px_R xs L d 4 (0, [.ref 34], [], (bS 35, bM 91)) _
  exact bk_4_35_91_e (by omega) ⟨rfl, rfl⟩
theorem bk_4_39_101_e {xs : Nat → Int} {L d : Nat} {Q : Option Value → px_H → Prop} (hd : 0 ≤ d) (G : Q none (bS 42, bM 109)) : px_R xs L d 4 (0, [.ref 38], [], (bS 39, bM 101)) Q := by
  refine rr_aload_n pf_4_0 rfl ?_
  refine rr_objI pf_4_1 po_4 pc_1_3 (by decide) ?_
  refine rr_aload_n pf_4_4 rfl ?_
  refine rr_bipush pf_4_5 (by decide) ?_
  refine rr_newa 10 pf_4_7 (by simp) (by decide) (fun M2 e => ?_)
  rw [bz_l (by decide : 39 ≤ 264)] at e ⊢
  rw [e.trans (bz_c (by decide +kernel) (rfl : 101 + 1 = 102))]
  rw [bz_n (by decide +kernel) (rfl : 39 + 1 = 40)]
  refine rr_putR pf_4_9 po_4 pg_1_9 (Or.inr ⟨by decide +kernel, rfl⟩) rfl (bz_s (x := (1, 5)) (by decide +kernel)) (by decide) (fun M2 e => ?_)
  rw [e.trans (bz_u (by decide +kernel) (rfl : 102 + 1 = 103))]
  refine rr_aload_n pf_4_12 rfl ?_
  refine rr_bipush pf_4_13 (by decide) ?_
  refine rr_newa 10 pf_4_15 (by simp) (by decide) (fun M2 e => ?_)
  rw [bz_l (by decide : 40 ≤ 264)] at e ⊢
  rw [e.trans (bz_c (by decide +kernel) (rfl : 103 + 1 = 104))]
  rw [bz_n (by decide +kernel) (rfl : 40 + 1 = 41)]
  refine rr_putR pf_4_17 po_4 pg_1_15 (Or.inr ⟨by decide +kernel, rfl⟩) rfl (bz_s (x := (1, 5)) (by decide +kernel)) (by decide) (fun M2 e => ?_)
  rw [e.trans (bz_u (by decide +kernel) (rfl : 104 + 1 = 105))]
  refine rr_aload_n pf_4_20 rfl ?_
  refine rr_bipush pf_4_21 (by decide) ?_
  refine rr_newa 10 pf_4_23 (by simp) (by decide) (fun M2 e => ?_)
  rw [bz_l (by decide : 41 ≤ 264)] at e ⊢
  rw [e.trans (bz_c (by decide +kernel) (rfl : 105 + 1 = 106))]
  rw [bz_n (by decide +kernel) (rfl : 41 + 1 = 42)]
  refine rr_putR pf_4_25 po_4 pg_1_18 (Or.inr ⟨by decide +kernel, rfl⟩) rfl (bz_s (x := (1, 5)) (by decide +kernel)) (by decide) (fun M2 e => ?_)
  rw [e.trans (bz_u (by decide +kernel) (rfl : 106 + 1 = 107))]
  refine rr_aload_n pf_4_28 rfl ?_
  refine rr_iconst pf_4_29 ?_
  refine rr_putI pf_4_30 po_4 pg_1_21 (Or.inr ⟨by decide +kernel, rfl⟩) rfl (bz_s (x := (1, 5)) (by decide +kernel)) (by decide) (by unfold rg; omega) (fun M2 e => ?_)
  rw [e.trans (bz_u (by decide +kernel) (rfl : 107 + 1 = 108))]
  refine rr_aload_n pf_4_33 rfl ?_
  refine rr_iconst pf_4_34 ?_
  refine rr_putI pf_4_35 po_4 pg_1_25 (Or.inr ⟨by decide +kernel, rfl⟩) rfl (bz_s (x := (1, 5)) (by decide +kernel)) (by decide) (by unfold rg; omega) (fun M2 e => ?_)
  rw [e.trans (bz_u (by decide +kernel) (rfl : 108 + 1 = 109))]
  exact rr_vret pf_4_38 pt_4 G
theorem bC_4_39_101 {xs : Nat → Int} {L d : Nat} (hd : 1 ≤ d) : px_Cl xs L d 4 [.ref 38] (bS 39, bM 101) none (bS 42, bM 109) := by
  obtain ⟨d, rfl⟩ : ∃ e, d = e + 1 := ⟨d - 1, by omega⟩
  refine px_Cl_intro (Nat.le_of_ble_eq_true rfl) ?_
  show px_R xs L d 4 (0, [.ref 38], [], (bS 39, bM 101)) _
  exact bk_4_39_101_e (by omega) ⟨rfl, rfl⟩
theorem bk_5_28_74_1 {xs : Nat → Int} {L d : Nat} {Q : Option Value → px_H → Prop} (hd : 1 ≤ d) (G : px_R xs L d 5 (47, [.ref 27, .int (iI (3))], [.ref 42, .int (iI (3)), .ref 28], (bS 43, bM 111)) Q) : px_R xs L d 5 (55, [.ref 27, .int (iI (1))], [], (bS 34, bM 90)) Q := by
  refine rr_goto 33 pf_5_55 (by decide) ?_
  refine rr_iload_n pf_5_33 rfl ?_
  refine rr_bipush pf_5_34 (by decide) ?_
  refine rr_icmp_ge 58 pf_5_36 (by decide) (by unfold rg; omega) (by unfold rg; omega) (fun z => absurd z (by decide)) (fun _ => ?_)
  refine rr_aload_n pf_5_39 rfl ?_
  refine rr_getR (q := 28) pf_5_40 po_5 pg_7_13 rfl (bz_s (x := (7, 4)) (by decide +kernel)) (by decide) (by decide +kernel) ?_
  refine rr_iload_n pf_5_43 rfl ?_
  refine rr_new pf_5_44 po_5 pn_7_11 (by decide) rfl (fun M2 e => ?_)
  rw [bz_l (by decide : 34 ≤ 264)] at e ⊢
  rw [e.trans (bz_o (by decide +kernel) (rfl : 90 + 1 = 91))]
  rw [bz_n (by decide +kernel) (rfl : 34 + 1 = 35)]
  refine rr_dup pf_5_47 rfl ?_
  refine rr_cI0 pf_5_48 po_5 pc_7_28 (by decide) rfl (bC_4_35_91 (Nat.le_trans (by decide) hd)) ?_
  refine rr_aast pf_5_51 (bz_s (x := (14, 17)) (by decide +kernel)) (by decide) (by decide) (by unfold rg; omega) (by decide) (by decide +kernel) (fun M2 e => ?_)
  rw [e.trans (bz_u (by decide +kernel) (rfl : 99 + 1 = 100))]
  refine rr_iinc (x := 1) pf_5_52 rfl (fun y => [.ref 27, .int (iI y)]) (fun _ => rfl) (fun y ey => ?_)
  obtain rfl : y = 2 := ey
  refine rr_goto 33 pf_5_55 (by decide) ?_
  refine rr_iload_n pf_5_33 rfl ?_
  refine rr_bipush pf_5_34 (by decide) ?_
  refine rr_icmp_ge 58 pf_5_36 (by decide) (by unfold rg; omega) (by unfold rg; omega) (fun z => absurd z (by decide)) (fun _ => ?_)
  refine rr_aload_n pf_5_39 rfl ?_
  refine rr_getR (q := 28) pf_5_40 po_5 pg_7_13 rfl (bz_s (x := (7, 4)) (by decide +kernel)) (by decide) (by decide +kernel) ?_
  refine rr_iload_n pf_5_43 rfl ?_
  refine rr_new pf_5_44 po_5 pn_7_11 (by decide) rfl (fun M2 e => ?_)
  rw [bz_l (by decide : 38 ≤ 264)] at e ⊢
  rw [e.trans (bz_o (by decide +kernel) (rfl : 100 + 1 = 101))]
  rw [bz_n (by decide +kernel) (rfl : 38 + 1 = 39)]
  refine rr_dup pf_5_47 rfl ?_
  refine rr_cI0 pf_5_48 po_5 pc_7_28 (by decide) rfl (bC_4_39_101 (Nat.le_trans (by decide) hd)) ?_
  refine rr_aast pf_5_51 (bz_s (x := (14, 17)) (by decide +kernel)) (by decide) (by decide) (by unfold rg; omega) (by decide) (by decide +kernel) (fun M2 e => ?_)
  rw [e.trans (bz_u (by decide +kernel) (rfl : 109 + 1 = 110))]
  refine rr_iinc (x := 2) pf_5_52 rfl (fun y => [.ref 27, .int (iI y)]) (fun _ => rfl) (fun y ey => ?_)
  obtain rfl : y = 3 := ey
  refine rr_goto 33 pf_5_55 (by decide) ?_
  refine rr_iload_n pf_5_33 rfl ?_
  refine rr_bipush pf_5_34 (by decide) ?_
  refine rr_icmp_ge 58 pf_5_36 (by decide) (by unfold rg; omega) (by unfold rg; omega) (fun z => absurd z (by decide)) (fun _ => ?_)
  refine rr_aload_n pf_5_39 rfl ?_
  refine rr_getR (q := 28) pf_5_40 po_5 pg_7_13 rfl (bz_s (x := (7, 4)) (by decide +kernel)) (by decide) (by decide +kernel) ?_
  refine rr_iload_n pf_5_43 rfl ?_
  refine rr_new pf_5_44 po_5 pn_7_11 (by decide) rfl (fun M2 e => ?_)
  rw [bz_l (by decide : 42 ≤ 264)] at e ⊢
  rw [e.trans (bz_o (by decide +kernel) (rfl : 110 + 1 = 111))]
  rw [bz_n (by decide +kernel) (rfl : 42 + 1 = 43)]
  exact G
theorem bk_4_43_111_e {xs : Nat → Int} {L d : Nat} {Q : Option Value → px_H → Prop} (hd : 0 ≤ d) (G : Q none (bS 46, bM 119)) : px_R xs L d 4 (0, [.ref 42], [], (bS 43, bM 111)) Q := by
  refine rr_aload_n pf_4_0 rfl ?_
  refine rr_objI pf_4_1 po_4 pc_1_3 (by decide) ?_
  refine rr_aload_n pf_4_4 rfl ?_
  refine rr_bipush pf_4_5 (by decide) ?_
  refine rr_newa 10 pf_4_7 (by simp) (by decide) (fun M2 e => ?_)
  rw [bz_l (by decide : 43 ≤ 264)] at e ⊢
  rw [e.trans (bz_c (by decide +kernel) (rfl : 111 + 1 = 112))]
  rw [bz_n (by decide +kernel) (rfl : 43 + 1 = 44)]
  refine rr_putR pf_4_9 po_4 pg_1_9 (Or.inr ⟨by decide +kernel, rfl⟩) rfl (bz_s (x := (1, 5)) (by decide +kernel)) (by decide) (fun M2 e => ?_)
  rw [e.trans (bz_u (by decide +kernel) (rfl : 112 + 1 = 113))]
  refine rr_aload_n pf_4_12 rfl ?_
  refine rr_bipush pf_4_13 (by decide) ?_
  refine rr_newa 10 pf_4_15 (by simp) (by decide) (fun M2 e => ?_)
  rw [bz_l (by decide : 44 ≤ 264)] at e ⊢
  rw [e.trans (bz_c (by decide +kernel) (rfl : 113 + 1 = 114))]
  rw [bz_n (by decide +kernel) (rfl : 44 + 1 = 45)]
  refine rr_putR pf_4_17 po_4 pg_1_15 (Or.inr ⟨by decide +kernel, rfl⟩) rfl (bz_s (x := (1, 5)) (by decide +kernel)) (by decide) (fun M2 e => ?_)
  rw [e.trans (bz_u (by decide +kernel) (rfl : 114 + 1 = 115))]
  refine rr_aload_n pf_4_20 rfl ?_
  refine rr_bipush pf_4_21 (by decide) ?_
  refine rr_newa 10 pf_4_23 (by simp) (by decide) (fun M2 e => ?_)
  rw [bz_l (by decide : 45 ≤ 264)] at e ⊢
  rw [e.trans (bz_c (by decide +kernel) (rfl : 115 + 1 = 116))]
  rw [bz_n (by decide +kernel) (rfl : 45 + 1 = 46)]
  refine rr_putR pf_4_25 po_4 pg_1_18 (Or.inr ⟨by decide +kernel, rfl⟩) rfl (bz_s (x := (1, 5)) (by decide +kernel)) (by decide) (fun M2 e => ?_)
  rw [e.trans (bz_u (by decide +kernel) (rfl : 116 + 1 = 117))]
  refine rr_aload_n pf_4_28 rfl ?_
  refine rr_iconst pf_4_29 ?_
  refine rr_putI pf_4_30 po_4 pg_1_21 (Or.inr ⟨by decide +kernel, rfl⟩) rfl (bz_s (x := (1, 5)) (by decide +kernel)) (by decide) (by unfold rg; omega) (fun M2 e => ?_)
  rw [e.trans (bz_u (by decide +kernel) (rfl : 117 + 1 = 118))]
  refine rr_aload_n pf_4_33 rfl ?_
  refine rr_iconst pf_4_34 ?_
  refine rr_putI pf_4_35 po_4 pg_1_25 (Or.inr ⟨by decide +kernel, rfl⟩) rfl (bz_s (x := (1, 5)) (by decide +kernel)) (by decide) (by unfold rg; omega) (fun M2 e => ?_)
  rw [e.trans (bz_u (by decide +kernel) (rfl : 118 + 1 = 119))]
  exact rr_vret pf_4_38 pt_4 G
theorem bC_4_43_111 {xs : Nat → Int} {L d : Nat} (hd : 1 ≤ d) : px_Cl xs L d 4 [.ref 42] (bS 43, bM 111) none (bS 46, bM 119) := by
  obtain ⟨d, rfl⟩ : ∃ e, d = e + 1 := ⟨d - 1, by omega⟩
  refine px_Cl_intro (Nat.le_of_ble_eq_true rfl) ?_
  show px_R xs L d 4 (0, [.ref 42], [], (bS 43, bM 111)) _
  exact bk_4_43_111_e (by omega) ⟨rfl, rfl⟩
theorem bk_4_47_121_e {xs : Nat → Int} {L d : Nat} {Q : Option Value → px_H → Prop} (hd : 0 ≤ d) (G : Q none (bS 50, bM 129)) : px_R xs L d 4 (0, [.ref 46], [], (bS 47, bM 121)) Q := by
  refine rr_aload_n pf_4_0 rfl ?_
  refine rr_objI pf_4_1 po_4 pc_1_3 (by decide) ?_
  refine rr_aload_n pf_4_4 rfl ?_
  refine rr_bipush pf_4_5 (by decide) ?_
  refine rr_newa 10 pf_4_7 (by simp) (by decide) (fun M2 e => ?_)
  rw [bz_l (by decide : 47 ≤ 264)] at e ⊢
  rw [e.trans (bz_c (by decide +kernel) (rfl : 121 + 1 = 122))]
  rw [bz_n (by decide +kernel) (rfl : 47 + 1 = 48)]
  refine rr_putR pf_4_9 po_4 pg_1_9 (Or.inr ⟨by decide +kernel, rfl⟩) rfl (bz_s (x := (1, 5)) (by decide +kernel)) (by decide) (fun M2 e => ?_)
  rw [e.trans (bz_u (by decide +kernel) (rfl : 122 + 1 = 123))]
  refine rr_aload_n pf_4_12 rfl ?_
  refine rr_bipush pf_4_13 (by decide) ?_
  refine rr_newa 10 pf_4_15 (by simp) (by decide) (fun M2 e => ?_)
  rw [bz_l (by decide : 48 ≤ 264)] at e ⊢
  rw [e.trans (bz_c (by decide +kernel) (rfl : 123 + 1 = 124))]
  rw [bz_n (by decide +kernel) (rfl : 48 + 1 = 49)]
  refine rr_putR pf_4_17 po_4 pg_1_15 (Or.inr ⟨by decide +kernel, rfl⟩) rfl (bz_s (x := (1, 5)) (by decide +kernel)) (by decide) (fun M2 e => ?_)
  rw [e.trans (bz_u (by decide +kernel) (rfl : 124 + 1 = 125))]
  refine rr_aload_n pf_4_20 rfl ?_
  refine rr_bipush pf_4_21 (by decide) ?_
  refine rr_newa 10 pf_4_23 (by simp) (by decide) (fun M2 e => ?_)
  rw [bz_l (by decide : 49 ≤ 264)] at e ⊢
  rw [e.trans (bz_c (by decide +kernel) (rfl : 125 + 1 = 126))]
  rw [bz_n (by decide +kernel) (rfl : 49 + 1 = 50)]
  refine rr_putR pf_4_25 po_4 pg_1_18 (Or.inr ⟨by decide +kernel, rfl⟩) rfl (bz_s (x := (1, 5)) (by decide +kernel)) (by decide) (fun M2 e => ?_)
  rw [e.trans (bz_u (by decide +kernel) (rfl : 126 + 1 = 127))]
  refine rr_aload_n pf_4_28 rfl ?_
  refine rr_iconst pf_4_29 ?_
  refine rr_putI pf_4_30 po_4 pg_1_21 (Or.inr ⟨by decide +kernel, rfl⟩) rfl (bz_s (x := (1, 5)) (by decide +kernel)) (by decide) (by unfold rg; omega) (fun M2 e => ?_)
  rw [e.trans (bz_u (by decide +kernel) (rfl : 127 + 1 = 128))]
  refine rr_aload_n pf_4_33 rfl ?_
  refine rr_iconst pf_4_34 ?_
  refine rr_putI pf_4_35 po_4 pg_1_25 (Or.inr ⟨by decide +kernel, rfl⟩) rfl (bz_s (x := (1, 5)) (by decide +kernel)) (by decide) (by unfold rg; omega) (fun M2 e => ?_)
  rw [e.trans (bz_u (by decide +kernel) (rfl : 128 + 1 = 129))]
  exact rr_vret pf_4_38 pt_4 G
theorem bC_4_47_121 {xs : Nat → Int} {L d : Nat} (hd : 1 ≤ d) : px_Cl xs L d 4 [.ref 46] (bS 47, bM 121) none (bS 50, bM 129) := by
  obtain ⟨d, rfl⟩ : ∃ e, d = e + 1 := ⟨d - 1, by omega⟩
  refine px_Cl_intro (Nat.le_of_ble_eq_true rfl) ?_
  show px_R xs L d 4 (0, [.ref 46], [], (bS 47, bM 121)) _
  exact bk_4_47_121_e (by omega) ⟨rfl, rfl⟩
theorem bk_4_51_131_e {xs : Nat → Int} {L d : Nat} {Q : Option Value → px_H → Prop} (hd : 0 ≤ d) (G : Q none (bS 54, bM 139)) : px_R xs L d 4 (0, [.ref 50], [], (bS 51, bM 131)) Q := by
  refine rr_aload_n pf_4_0 rfl ?_
  refine rr_objI pf_4_1 po_4 pc_1_3 (by decide) ?_
  refine rr_aload_n pf_4_4 rfl ?_
  refine rr_bipush pf_4_5 (by decide) ?_
  refine rr_newa 10 pf_4_7 (by simp) (by decide) (fun M2 e => ?_)
  rw [bz_l (by decide : 51 ≤ 264)] at e ⊢
  rw [e.trans (bz_c (by decide +kernel) (rfl : 131 + 1 = 132))]
  rw [bz_n (by decide +kernel) (rfl : 51 + 1 = 52)]
  refine rr_putR pf_4_9 po_4 pg_1_9 (Or.inr ⟨by decide +kernel, rfl⟩) rfl (bz_s (x := (1, 5)) (by decide +kernel)) (by decide) (fun M2 e => ?_)
  rw [e.trans (bz_u (by decide +kernel) (rfl : 132 + 1 = 133))]
  refine rr_aload_n pf_4_12 rfl ?_
  refine rr_bipush pf_4_13 (by decide) ?_
  refine rr_newa 10 pf_4_15 (by simp) (by decide) (fun M2 e => ?_)
  rw [bz_l (by decide : 52 ≤ 264)] at e ⊢
  rw [e.trans (bz_c (by decide +kernel) (rfl : 133 + 1 = 134))]
  rw [bz_n (by decide +kernel) (rfl : 52 + 1 = 53)]
  refine rr_putR pf_4_17 po_4 pg_1_15 (Or.inr ⟨by decide +kernel, rfl⟩) rfl (bz_s (x := (1, 5)) (by decide +kernel)) (by decide) (fun M2 e => ?_)
  rw [e.trans (bz_u (by decide +kernel) (rfl : 134 + 1 = 135))]
  refine rr_aload_n pf_4_20 rfl ?_
  refine rr_bipush pf_4_21 (by decide) ?_
  refine rr_newa 10 pf_4_23 (by simp) (by decide) (fun M2 e => ?_)
  rw [bz_l (by decide : 53 ≤ 264)] at e ⊢
  rw [e.trans (bz_c (by decide +kernel) (rfl : 135 + 1 = 136))]
  rw [bz_n (by decide +kernel) (rfl : 53 + 1 = 54)]
  refine rr_putR pf_4_25 po_4 pg_1_18 (Or.inr ⟨by decide +kernel, rfl⟩) rfl (bz_s (x := (1, 5)) (by decide +kernel)) (by decide) (fun M2 e => ?_)
  rw [e.trans (bz_u (by decide +kernel) (rfl : 136 + 1 = 137))]
  refine rr_aload_n pf_4_28 rfl ?_
  refine rr_iconst pf_4_29 ?_
  refine rr_putI pf_4_30 po_4 pg_1_21 (Or.inr ⟨by decide +kernel, rfl⟩) rfl (bz_s (x := (1, 5)) (by decide +kernel)) (by decide) (by unfold rg; omega) (fun M2 e => ?_)
  rw [e.trans (bz_u (by decide +kernel) (rfl : 137 + 1 = 138))]
  refine rr_aload_n pf_4_33 rfl ?_
  refine rr_iconst pf_4_34 ?_
  refine rr_putI pf_4_35 po_4 pg_1_25 (Or.inr ⟨by decide +kernel, rfl⟩) rfl (bz_s (x := (1, 5)) (by decide +kernel)) (by decide) (by unfold rg; omega) (fun M2 e => ?_)
  rw [e.trans (bz_u (by decide +kernel) (rfl : 138 + 1 = 139))]
  exact rr_vret pf_4_38 pt_4 G
theorem bC_4_51_131 {xs : Nat → Int} {L d : Nat} (hd : 1 ≤ d) : px_Cl xs L d 4 [.ref 50] (bS 51, bM 131) none (bS 54, bM 139) := by
  obtain ⟨d, rfl⟩ : ∃ e, d = e + 1 := ⟨d - 1, by omega⟩
  refine px_Cl_intro (Nat.le_of_ble_eq_true rfl) ?_
  show px_R xs L d 4 (0, [.ref 50], [], (bS 51, bM 131)) _
  exact bk_4_51_131_e (by omega) ⟨rfl, rfl⟩
theorem bk_5_28_74_2 {xs : Nat → Int} {L d : Nat} {Q : Option Value → px_H → Prop} (hd : 1 ≤ d) (G : px_R xs L d 5 (40, [.ref 27, .int (iI (6))], [.ref 27], (bS 54, bM 140)) Q) : px_R xs L d 5 (47, [.ref 27, .int (iI (3))], [.ref 42, .int (iI (3)), .ref 28], (bS 43, bM 111)) Q := by
  refine rr_dup pf_5_47 rfl ?_
  refine rr_cI0 pf_5_48 po_5 pc_7_28 (by decide) rfl (bC_4_43_111 (Nat.le_trans (by decide) hd)) ?_
  refine rr_aast pf_5_51 (bz_s (x := (14, 17)) (by decide +kernel)) (by decide) (by decide) (by unfold rg; omega) (by decide) (by decide +kernel) (fun M2 e => ?_)
  rw [e.trans (bz_u (by decide +kernel) (rfl : 119 + 1 = 120))]
  refine rr_iinc (x := 3) pf_5_52 rfl (fun y => [.ref 27, .int (iI y)]) (fun _ => rfl) (fun y ey => ?_)
  obtain rfl : y = 4 := ey
  refine rr_goto 33 pf_5_55 (by decide) ?_
  refine rr_iload_n pf_5_33 rfl ?_
  refine rr_bipush pf_5_34 (by decide) ?_
  refine rr_icmp_ge 58 pf_5_36 (by decide) (by unfold rg; omega) (by unfold rg; omega) (fun z => absurd z (by decide)) (fun _ => ?_)
  refine rr_aload_n pf_5_39 rfl ?_
  refine rr_getR (q := 28) pf_5_40 po_5 pg_7_13 rfl (bz_s (x := (7, 4)) (by decide +kernel)) (by decide) (by decide +kernel) ?_
  refine rr_iload_n pf_5_43 rfl ?_
  refine rr_new pf_5_44 po_5 pn_7_11 (by decide) rfl (fun M2 e => ?_)
  rw [bz_l (by decide : 46 ≤ 264)] at e ⊢
  rw [e.trans (bz_o (by decide +kernel) (rfl : 120 + 1 = 121))]
  rw [bz_n (by decide +kernel) (rfl : 46 + 1 = 47)]
  refine rr_dup pf_5_47 rfl ?_
  refine rr_cI0 pf_5_48 po_5 pc_7_28 (by decide) rfl (bC_4_47_121 (Nat.le_trans (by decide) hd)) ?_
  refine rr_aast pf_5_51 (bz_s (x := (14, 17)) (by decide +kernel)) (by decide) (by decide) (by unfold rg; omega) (by decide) (by decide +kernel) (fun M2 e => ?_)
  rw [e.trans (bz_u (by decide +kernel) (rfl : 129 + 1 = 130))]
  refine rr_iinc (x := 4) pf_5_52 rfl (fun y => [.ref 27, .int (iI y)]) (fun _ => rfl) (fun y ey => ?_)
  obtain rfl : y = 5 := ey
  refine rr_goto 33 pf_5_55 (by decide) ?_
  refine rr_iload_n pf_5_33 rfl ?_
  refine rr_bipush pf_5_34 (by decide) ?_
  refine rr_icmp_ge 58 pf_5_36 (by decide) (by unfold rg; omega) (by unfold rg; omega) (fun z => absurd z (by decide)) (fun _ => ?_)
  refine rr_aload_n pf_5_39 rfl ?_
  refine rr_getR (q := 28) pf_5_40 po_5 pg_7_13 rfl (bz_s (x := (7, 4)) (by decide +kernel)) (by decide) (by decide +kernel) ?_
  refine rr_iload_n pf_5_43 rfl ?_
  refine rr_new pf_5_44 po_5 pn_7_11 (by decide) rfl (fun M2 e => ?_)
  rw [bz_l (by decide : 50 ≤ 264)] at e ⊢
  rw [e.trans (bz_o (by decide +kernel) (rfl : 130 + 1 = 131))]
  rw [bz_n (by decide +kernel) (rfl : 50 + 1 = 51)]
  refine rr_dup pf_5_47 rfl ?_
  refine rr_cI0 pf_5_48 po_5 pc_7_28 (by decide) rfl (bC_4_51_131 (Nat.le_trans (by decide) hd)) ?_
  refine rr_aast pf_5_51 (bz_s (x := (14, 17)) (by decide +kernel)) (by decide) (by decide) (by unfold rg; omega) (by decide) (by decide +kernel) (fun M2 e => ?_)
  rw [e.trans (bz_u (by decide +kernel) (rfl : 139 + 1 = 140))]
  refine rr_iinc (x := 5) pf_5_52 rfl (fun y => [.ref 27, .int (iI y)]) (fun _ => rfl) (fun y ey => ?_)
  obtain rfl : y = 6 := ey
  refine rr_goto 33 pf_5_55 (by decide) ?_
  refine rr_iload_n pf_5_33 rfl ?_
  refine rr_bipush pf_5_34 (by decide) ?_
  refine rr_icmp_ge 58 pf_5_36 (by decide) (by unfold rg; omega) (by unfold rg; omega) (fun z => absurd z (by decide)) (fun _ => ?_)
  refine rr_aload_n pf_5_39 rfl ?_
  exact G
theorem bk_4_55_141_e {xs : Nat → Int} {L d : Nat} {Q : Option Value → px_H → Prop} (hd : 0 ≤ d) (G : Q none (bS 58, bM 149)) : px_R xs L d 4 (0, [.ref 54], [], (bS 55, bM 141)) Q := by
  refine rr_aload_n pf_4_0 rfl ?_
  refine rr_objI pf_4_1 po_4 pc_1_3 (by decide) ?_
  refine rr_aload_n pf_4_4 rfl ?_
  refine rr_bipush pf_4_5 (by decide) ?_
  refine rr_newa 10 pf_4_7 (by simp) (by decide) (fun M2 e => ?_)
  rw [bz_l (by decide : 55 ≤ 264)] at e ⊢
  rw [e.trans (bz_c (by decide +kernel) (rfl : 141 + 1 = 142))]
  rw [bz_n (by decide +kernel) (rfl : 55 + 1 = 56)]
  refine rr_putR pf_4_9 po_4 pg_1_9 (Or.inr ⟨by decide +kernel, rfl⟩) rfl (bz_s (x := (1, 5)) (by decide +kernel)) (by decide) (fun M2 e => ?_)
  rw [e.trans (bz_u (by decide +kernel) (rfl : 142 + 1 = 143))]
  refine rr_aload_n pf_4_12 rfl ?_
  refine rr_bipush pf_4_13 (by decide) ?_
  refine rr_newa 10 pf_4_15 (by simp) (by decide) (fun M2 e => ?_)
  rw [bz_l (by decide : 56 ≤ 264)] at e ⊢
  rw [e.trans (bz_c (by decide +kernel) (rfl : 143 + 1 = 144))]
  rw [bz_n (by decide +kernel) (rfl : 56 + 1 = 57)]
  refine rr_putR pf_4_17 po_4 pg_1_15 (Or.inr ⟨by decide +kernel, rfl⟩) rfl (bz_s (x := (1, 5)) (by decide +kernel)) (by decide) (fun M2 e => ?_)
  rw [e.trans (bz_u (by decide +kernel) (rfl : 144 + 1 = 145))]
  refine rr_aload_n pf_4_20 rfl ?_
  refine rr_bipush pf_4_21 (by decide) ?_
  refine rr_newa 10 pf_4_23 (by simp) (by decide) (fun M2 e => ?_)
  rw [bz_l (by decide : 57 ≤ 264)] at e ⊢
  rw [e.trans (bz_c (by decide +kernel) (rfl : 145 + 1 = 146))]
  rw [bz_n (by decide +kernel) (rfl : 57 + 1 = 58)]
  refine rr_putR pf_4_25 po_4 pg_1_18 (Or.inr ⟨by decide +kernel, rfl⟩) rfl (bz_s (x := (1, 5)) (by decide +kernel)) (by decide) (fun M2 e => ?_)
  rw [e.trans (bz_u (by decide +kernel) (rfl : 146 + 1 = 147))]
  refine rr_aload_n pf_4_28 rfl ?_
  refine rr_iconst pf_4_29 ?_
  refine rr_putI pf_4_30 po_4 pg_1_21 (Or.inr ⟨by decide +kernel, rfl⟩) rfl (bz_s (x := (1, 5)) (by decide +kernel)) (by decide) (by unfold rg; omega) (fun M2 e => ?_)
  rw [e.trans (bz_u (by decide +kernel) (rfl : 147 + 1 = 148))]
  refine rr_aload_n pf_4_33 rfl ?_
  refine rr_iconst pf_4_34 ?_
  refine rr_putI pf_4_35 po_4 pg_1_25 (Or.inr ⟨by decide +kernel, rfl⟩) rfl (bz_s (x := (1, 5)) (by decide +kernel)) (by decide) (by unfold rg; omega) (fun M2 e => ?_)
  rw [e.trans (bz_u (by decide +kernel) (rfl : 148 + 1 = 149))]
  exact rr_vret pf_4_38 pt_4 G
theorem bC_4_55_141 {xs : Nat → Int} {L d : Nat} (hd : 1 ≤ d) : px_Cl xs L d 4 [.ref 54] (bS 55, bM 141) none (bS 58, bM 149) := by
  obtain ⟨d, rfl⟩ : ∃ e, d = e + 1 := ⟨d - 1, by omega⟩
  refine px_Cl_intro (Nat.le_of_ble_eq_true rfl) ?_
  show px_R xs L d 4 (0, [.ref 54], [], (bS 55, bM 141)) _
  exact bk_4_55_141_e (by omega) ⟨rfl, rfl⟩
theorem bk_4_59_151_e {xs : Nat → Int} {L d : Nat} {Q : Option Value → px_H → Prop} (hd : 0 ≤ d) (G : Q none (bS 62, bM 159)) : px_R xs L d 4 (0, [.ref 58], [], (bS 59, bM 151)) Q := by
  refine rr_aload_n pf_4_0 rfl ?_
  refine rr_objI pf_4_1 po_4 pc_1_3 (by decide) ?_
  refine rr_aload_n pf_4_4 rfl ?_
  refine rr_bipush pf_4_5 (by decide) ?_
  refine rr_newa 10 pf_4_7 (by simp) (by decide) (fun M2 e => ?_)
  rw [bz_l (by decide : 59 ≤ 264)] at e ⊢
  rw [e.trans (bz_c (by decide +kernel) (rfl : 151 + 1 = 152))]
  rw [bz_n (by decide +kernel) (rfl : 59 + 1 = 60)]
  refine rr_putR pf_4_9 po_4 pg_1_9 (Or.inr ⟨by decide +kernel, rfl⟩) rfl (bz_s (x := (1, 5)) (by decide +kernel)) (by decide) (fun M2 e => ?_)
  rw [e.trans (bz_u (by decide +kernel) (rfl : 152 + 1 = 153))]
  refine rr_aload_n pf_4_12 rfl ?_
  refine rr_bipush pf_4_13 (by decide) ?_
  refine rr_newa 10 pf_4_15 (by simp) (by decide) (fun M2 e => ?_)
  rw [bz_l (by decide : 60 ≤ 264)] at e ⊢
  rw [e.trans (bz_c (by decide +kernel) (rfl : 153 + 1 = 154))]
  rw [bz_n (by decide +kernel) (rfl : 60 + 1 = 61)]
  refine rr_putR pf_4_17 po_4 pg_1_15 (Or.inr ⟨by decide +kernel, rfl⟩) rfl (bz_s (x := (1, 5)) (by decide +kernel)) (by decide) (fun M2 e => ?_)
  rw [e.trans (bz_u (by decide +kernel) (rfl : 154 + 1 = 155))]
  refine rr_aload_n pf_4_20 rfl ?_
  refine rr_bipush pf_4_21 (by decide) ?_
  refine rr_newa 10 pf_4_23 (by simp) (by decide) (fun M2 e => ?_)
  rw [bz_l (by decide : 61 ≤ 264)] at e ⊢
  rw [e.trans (bz_c (by decide +kernel) (rfl : 155 + 1 = 156))]
  rw [bz_n (by decide +kernel) (rfl : 61 + 1 = 62)]
  refine rr_putR pf_4_25 po_4 pg_1_18 (Or.inr ⟨by decide +kernel, rfl⟩) rfl (bz_s (x := (1, 5)) (by decide +kernel)) (by decide) (fun M2 e => ?_)
  rw [e.trans (bz_u (by decide +kernel) (rfl : 156 + 1 = 157))]
  refine rr_aload_n pf_4_28 rfl ?_
  refine rr_iconst pf_4_29 ?_
  refine rr_putI pf_4_30 po_4 pg_1_21 (Or.inr ⟨by decide +kernel, rfl⟩) rfl (bz_s (x := (1, 5)) (by decide +kernel)) (by decide) (by unfold rg; omega) (fun M2 e => ?_)
  rw [e.trans (bz_u (by decide +kernel) (rfl : 157 + 1 = 158))]
  refine rr_aload_n pf_4_33 rfl ?_
  refine rr_iconst pf_4_34 ?_
  refine rr_putI pf_4_35 po_4 pg_1_25 (Or.inr ⟨by decide +kernel, rfl⟩) rfl (bz_s (x := (1, 5)) (by decide +kernel)) (by decide) (by unfold rg; omega) (fun M2 e => ?_)
  rw [e.trans (bz_u (by decide +kernel) (rfl : 158 + 1 = 159))]
  exact rr_vret pf_4_38 pt_4 G
theorem bC_4_59_151 {xs : Nat → Int} {L d : Nat} (hd : 1 ≤ d) : px_Cl xs L d 4 [.ref 58] (bS 59, bM 151) none (bS 62, bM 159) := by
  obtain ⟨d, rfl⟩ : ∃ e, d = e + 1 := ⟨d - 1, by omega⟩
  refine px_Cl_intro (Nat.le_of_ble_eq_true rfl) ?_
  show px_R xs L d 4 (0, [.ref 58], [], (bS 59, bM 151)) _
  exact bk_4_59_151_e (by omega) ⟨rfl, rfl⟩
theorem bk_4_63_161_e {xs : Nat → Int} {L d : Nat} {Q : Option Value → px_H → Prop} (hd : 0 ≤ d) (G : Q none (bS 66, bM 169)) : px_R xs L d 4 (0, [.ref 62], [], (bS 63, bM 161)) Q := by
  refine rr_aload_n pf_4_0 rfl ?_
  refine rr_objI pf_4_1 po_4 pc_1_3 (by decide) ?_
  refine rr_aload_n pf_4_4 rfl ?_
  refine rr_bipush pf_4_5 (by decide) ?_
  refine rr_newa 10 pf_4_7 (by simp) (by decide) (fun M2 e => ?_)
  rw [bz_l (by decide : 63 ≤ 264)] at e ⊢
  rw [e.trans (bz_c (by decide +kernel) (rfl : 161 + 1 = 162))]
  rw [bz_n (by decide +kernel) (rfl : 63 + 1 = 64)]
  refine rr_putR pf_4_9 po_4 pg_1_9 (Or.inr ⟨by decide +kernel, rfl⟩) rfl (bz_s (x := (1, 5)) (by decide +kernel)) (by decide) (fun M2 e => ?_)
  rw [e.trans (bz_u (by decide +kernel) (rfl : 162 + 1 = 163))]
  refine rr_aload_n pf_4_12 rfl ?_
  refine rr_bipush pf_4_13 (by decide) ?_
  refine rr_newa 10 pf_4_15 (by simp) (by decide) (fun M2 e => ?_)
  rw [bz_l (by decide : 64 ≤ 264)] at e ⊢
  rw [e.trans (bz_c (by decide +kernel) (rfl : 163 + 1 = 164))]
  rw [bz_n (by decide +kernel) (rfl : 64 + 1 = 65)]
  refine rr_putR pf_4_17 po_4 pg_1_15 (Or.inr ⟨by decide +kernel, rfl⟩) rfl (bz_s (x := (1, 5)) (by decide +kernel)) (by decide) (fun M2 e => ?_)
  rw [e.trans (bz_u (by decide +kernel) (rfl : 164 + 1 = 165))]
  refine rr_aload_n pf_4_20 rfl ?_
  refine rr_bipush pf_4_21 (by decide) ?_
  refine rr_newa 10 pf_4_23 (by simp) (by decide) (fun M2 e => ?_)
  rw [bz_l (by decide : 65 ≤ 264)] at e ⊢
  rw [e.trans (bz_c (by decide +kernel) (rfl : 165 + 1 = 166))]
  rw [bz_n (by decide +kernel) (rfl : 65 + 1 = 66)]
  refine rr_putR pf_4_25 po_4 pg_1_18 (Or.inr ⟨by decide +kernel, rfl⟩) rfl (bz_s (x := (1, 5)) (by decide +kernel)) (by decide) (fun M2 e => ?_)
  rw [e.trans (bz_u (by decide +kernel) (rfl : 166 + 1 = 167))]
  refine rr_aload_n pf_4_28 rfl ?_
  refine rr_iconst pf_4_29 ?_
  refine rr_putI pf_4_30 po_4 pg_1_21 (Or.inr ⟨by decide +kernel, rfl⟩) rfl (bz_s (x := (1, 5)) (by decide +kernel)) (by decide) (by unfold rg; omega) (fun M2 e => ?_)
  rw [e.trans (bz_u (by decide +kernel) (rfl : 167 + 1 = 168))]
  refine rr_aload_n pf_4_33 rfl ?_
  refine rr_iconst pf_4_34 ?_
  refine rr_putI pf_4_35 po_4 pg_1_25 (Or.inr ⟨by decide +kernel, rfl⟩) rfl (bz_s (x := (1, 5)) (by decide +kernel)) (by decide) (by unfold rg; omega) (fun M2 e => ?_)
  rw [e.trans (bz_u (by decide +kernel) (rfl : 168 + 1 = 169))]
  exact rr_vret pf_4_38 pt_4 G
theorem bC_4_63_161 {xs : Nat → Int} {L d : Nat} (hd : 1 ≤ d) : px_Cl xs L d 4 [.ref 62] (bS 63, bM 161) none (bS 66, bM 169) := by
  obtain ⟨d, rfl⟩ : ∃ e, d = e + 1 := ⟨d - 1, by omega⟩
  refine px_Cl_intro (Nat.le_of_ble_eq_true rfl) ?_
  show px_R xs L d 4 (0, [.ref 62], [], (bS 63, bM 161)) _
  exact bk_4_63_161_e (by omega) ⟨rfl, rfl⟩
theorem bk_5_28_74_3 {xs : Nat → Int} {L d : Nat} {Q : Option Value → px_H → Prop} (hd : 1 ≤ d) (G : px_R xs L d 5 (55, [.ref 27, .int (iI (9))], [], (bS 66, bM 170)) Q) : px_R xs L d 5 (40, [.ref 27, .int (iI (6))], [.ref 27], (bS 54, bM 140)) Q := by
  refine rr_getR (q := 28) pf_5_40 po_5 pg_7_13 rfl (bz_s (x := (7, 4)) (by decide +kernel)) (by decide) (by decide +kernel) ?_
  refine rr_iload_n pf_5_43 rfl ?_
  refine rr_new pf_5_44 po_5 pn_7_11 (by decide) rfl (fun M2 e => ?_)
  rw [bz_l (by decide : 54 ≤ 264)] at e ⊢
  rw [e.trans (bz_o (by decide +kernel) (rfl : 140 + 1 = 141))]
  rw [bz_n (by decide +kernel) (rfl : 54 + 1 = 55)]
  refine rr_dup pf_5_47 rfl ?_
  refine rr_cI0 pf_5_48 po_5 pc_7_28 (by decide) rfl (bC_4_55_141 (Nat.le_trans (by decide) hd)) ?_
  refine rr_aast pf_5_51 (bz_s (x := (14, 17)) (by decide +kernel)) (by decide) (by decide) (by unfold rg; omega) (by decide) (by decide +kernel) (fun M2 e => ?_)
  rw [e.trans (bz_u (by decide +kernel) (rfl : 149 + 1 = 150))]
  refine rr_iinc (x := 6) pf_5_52 rfl (fun y => [.ref 27, .int (iI y)]) (fun _ => rfl) (fun y ey => ?_)
  obtain rfl : y = 7 := ey
  refine rr_goto 33 pf_5_55 (by decide) ?_
  refine rr_iload_n pf_5_33 rfl ?_
  refine rr_bipush pf_5_34 (by decide) ?_
  refine rr_icmp_ge 58 pf_5_36 (by decide) (by unfold rg; omega) (by unfold rg; omega) (fun z => absurd z (by decide)) (fun _ => ?_)
  refine rr_aload_n pf_5_39 rfl ?_
  refine rr_getR (q := 28) pf_5_40 po_5 pg_7_13 rfl (bz_s (x := (7, 4)) (by decide +kernel)) (by decide) (by decide +kernel) ?_
  refine rr_iload_n pf_5_43 rfl ?_
  refine rr_new pf_5_44 po_5 pn_7_11 (by decide) rfl (fun M2 e => ?_)
  rw [bz_l (by decide : 58 ≤ 264)] at e ⊢
  rw [e.trans (bz_o (by decide +kernel) (rfl : 150 + 1 = 151))]
  rw [bz_n (by decide +kernel) (rfl : 58 + 1 = 59)]
  refine rr_dup pf_5_47 rfl ?_
  refine rr_cI0 pf_5_48 po_5 pc_7_28 (by decide) rfl (bC_4_59_151 (Nat.le_trans (by decide) hd)) ?_
  refine rr_aast pf_5_51 (bz_s (x := (14, 17)) (by decide +kernel)) (by decide) (by decide) (by unfold rg; omega) (by decide) (by decide +kernel) (fun M2 e => ?_)
  rw [e.trans (bz_u (by decide +kernel) (rfl : 159 + 1 = 160))]
  refine rr_iinc (x := 7) pf_5_52 rfl (fun y => [.ref 27, .int (iI y)]) (fun _ => rfl) (fun y ey => ?_)
  obtain rfl : y = 8 := ey
  refine rr_goto 33 pf_5_55 (by decide) ?_
  refine rr_iload_n pf_5_33 rfl ?_
  refine rr_bipush pf_5_34 (by decide) ?_
  refine rr_icmp_ge 58 pf_5_36 (by decide) (by unfold rg; omega) (by unfold rg; omega) (fun z => absurd z (by decide)) (fun _ => ?_)
  refine rr_aload_n pf_5_39 rfl ?_
  refine rr_getR (q := 28) pf_5_40 po_5 pg_7_13 rfl (bz_s (x := (7, 4)) (by decide +kernel)) (by decide) (by decide +kernel) ?_
  refine rr_iload_n pf_5_43 rfl ?_
  refine rr_new pf_5_44 po_5 pn_7_11 (by decide) rfl (fun M2 e => ?_)
  rw [bz_l (by decide : 62 ≤ 264)] at e ⊢
  rw [e.trans (bz_o (by decide +kernel) (rfl : 160 + 1 = 161))]
  rw [bz_n (by decide +kernel) (rfl : 62 + 1 = 63)]
  refine rr_dup pf_5_47 rfl ?_
  refine rr_cI0 pf_5_48 po_5 pc_7_28 (by decide) rfl (bC_4_63_161 (Nat.le_trans (by decide) hd)) ?_
  refine rr_aast pf_5_51 (bz_s (x := (14, 17)) (by decide +kernel)) (by decide) (by decide) (by unfold rg; omega) (by decide) (by decide +kernel) (fun M2 e => ?_)
  rw [e.trans (bz_u (by decide +kernel) (rfl : 169 + 1 = 170))]
  refine rr_iinc (x := 8) pf_5_52 rfl (fun y => [.ref 27, .int (iI y)]) (fun _ => rfl) (fun y ey => ?_)
  obtain rfl : y = 9 := ey
  exact G
theorem bk_4_67_171_e {xs : Nat → Int} {L d : Nat} {Q : Option Value → px_H → Prop} (hd : 0 ≤ d) (G : Q none (bS 70, bM 179)) : px_R xs L d 4 (0, [.ref 66], [], (bS 67, bM 171)) Q := by
  refine rr_aload_n pf_4_0 rfl ?_
  refine rr_objI pf_4_1 po_4 pc_1_3 (by decide) ?_
  refine rr_aload_n pf_4_4 rfl ?_
  refine rr_bipush pf_4_5 (by decide) ?_
  refine rr_newa 10 pf_4_7 (by simp) (by decide) (fun M2 e => ?_)
  rw [bz_l (by decide : 67 ≤ 264)] at e ⊢
  rw [e.trans (bz_c (by decide +kernel) (rfl : 171 + 1 = 172))]
  rw [bz_n (by decide +kernel) (rfl : 67 + 1 = 68)]
  refine rr_putR pf_4_9 po_4 pg_1_9 (Or.inr ⟨by decide +kernel, rfl⟩) rfl (bz_s (x := (1, 5)) (by decide +kernel)) (by decide) (fun M2 e => ?_)
  rw [e.trans (bz_u (by decide +kernel) (rfl : 172 + 1 = 173))]
  refine rr_aload_n pf_4_12 rfl ?_
  refine rr_bipush pf_4_13 (by decide) ?_
  refine rr_newa 10 pf_4_15 (by simp) (by decide) (fun M2 e => ?_)
  rw [bz_l (by decide : 68 ≤ 264)] at e ⊢
  rw [e.trans (bz_c (by decide +kernel) (rfl : 173 + 1 = 174))]
  rw [bz_n (by decide +kernel) (rfl : 68 + 1 = 69)]
  refine rr_putR pf_4_17 po_4 pg_1_15 (Or.inr ⟨by decide +kernel, rfl⟩) rfl (bz_s (x := (1, 5)) (by decide +kernel)) (by decide) (fun M2 e => ?_)
  rw [e.trans (bz_u (by decide +kernel) (rfl : 174 + 1 = 175))]
  refine rr_aload_n pf_4_20 rfl ?_
  refine rr_bipush pf_4_21 (by decide) ?_
  refine rr_newa 10 pf_4_23 (by simp) (by decide) (fun M2 e => ?_)
  rw [bz_l (by decide : 69 ≤ 264)] at e ⊢
  rw [e.trans (bz_c (by decide +kernel) (rfl : 175 + 1 = 176))]
  rw [bz_n (by decide +kernel) (rfl : 69 + 1 = 70)]
  refine rr_putR pf_4_25 po_4 pg_1_18 (Or.inr ⟨by decide +kernel, rfl⟩) rfl (bz_s (x := (1, 5)) (by decide +kernel)) (by decide) (fun M2 e => ?_)
  rw [e.trans (bz_u (by decide +kernel) (rfl : 176 + 1 = 177))]
  refine rr_aload_n pf_4_28 rfl ?_
  refine rr_iconst pf_4_29 ?_
  refine rr_putI pf_4_30 po_4 pg_1_21 (Or.inr ⟨by decide +kernel, rfl⟩) rfl (bz_s (x := (1, 5)) (by decide +kernel)) (by decide) (by unfold rg; omega) (fun M2 e => ?_)
  rw [e.trans (bz_u (by decide +kernel) (rfl : 177 + 1 = 178))]
  refine rr_aload_n pf_4_33 rfl ?_
  refine rr_iconst pf_4_34 ?_
  refine rr_putI pf_4_35 po_4 pg_1_25 (Or.inr ⟨by decide +kernel, rfl⟩) rfl (bz_s (x := (1, 5)) (by decide +kernel)) (by decide) (by unfold rg; omega) (fun M2 e => ?_)
  rw [e.trans (bz_u (by decide +kernel) (rfl : 178 + 1 = 179))]
  exact rr_vret pf_4_38 pt_4 G
theorem bC_4_67_171 {xs : Nat → Int} {L d : Nat} (hd : 1 ≤ d) : px_Cl xs L d 4 [.ref 66] (bS 67, bM 171) none (bS 70, bM 179) := by
  obtain ⟨d, rfl⟩ : ∃ e, d = e + 1 := ⟨d - 1, by omega⟩
  refine px_Cl_intro (Nat.le_of_ble_eq_true rfl) ?_
  show px_R xs L d 4 (0, [.ref 66], [], (bS 67, bM 171)) _
  exact bk_4_67_171_e (by omega) ⟨rfl, rfl⟩
theorem bk_4_71_181_e {xs : Nat → Int} {L d : Nat} {Q : Option Value → px_H → Prop} (hd : 0 ≤ d) (G : Q none (bS 74, bM 189)) : px_R xs L d 4 (0, [.ref 70], [], (bS 71, bM 181)) Q := by
  refine rr_aload_n pf_4_0 rfl ?_
  refine rr_objI pf_4_1 po_4 pc_1_3 (by decide) ?_
  refine rr_aload_n pf_4_4 rfl ?_
  refine rr_bipush pf_4_5 (by decide) ?_
  refine rr_newa 10 pf_4_7 (by simp) (by decide) (fun M2 e => ?_)
  rw [bz_l (by decide : 71 ≤ 264)] at e ⊢
  rw [e.trans (bz_c (by decide +kernel) (rfl : 181 + 1 = 182))]
  rw [bz_n (by decide +kernel) (rfl : 71 + 1 = 72)]
  refine rr_putR pf_4_9 po_4 pg_1_9 (Or.inr ⟨by decide +kernel, rfl⟩) rfl (bz_s (x := (1, 5)) (by decide +kernel)) (by decide) (fun M2 e => ?_)
  rw [e.trans (bz_u (by decide +kernel) (rfl : 182 + 1 = 183))]
  refine rr_aload_n pf_4_12 rfl ?_
  refine rr_bipush pf_4_13 (by decide) ?_
  refine rr_newa 10 pf_4_15 (by simp) (by decide) (fun M2 e => ?_)
  rw [bz_l (by decide : 72 ≤ 264)] at e ⊢
  rw [e.trans (bz_c (by decide +kernel) (rfl : 183 + 1 = 184))]
  rw [bz_n (by decide +kernel) (rfl : 72 + 1 = 73)]
  refine rr_putR pf_4_17 po_4 pg_1_15 (Or.inr ⟨by decide +kernel, rfl⟩) rfl (bz_s (x := (1, 5)) (by decide +kernel)) (by decide) (fun M2 e => ?_)
  rw [e.trans (bz_u (by decide +kernel) (rfl : 184 + 1 = 185))]
  refine rr_aload_n pf_4_20 rfl ?_
  refine rr_bipush pf_4_21 (by decide) ?_
  refine rr_newa 10 pf_4_23 (by simp) (by decide) (fun M2 e => ?_)
  rw [bz_l (by decide : 73 ≤ 264)] at e ⊢
  rw [e.trans (bz_c (by decide +kernel) (rfl : 185 + 1 = 186))]
  rw [bz_n (by decide +kernel) (rfl : 73 + 1 = 74)]
  refine rr_putR pf_4_25 po_4 pg_1_18 (Or.inr ⟨by decide +kernel, rfl⟩) rfl (bz_s (x := (1, 5)) (by decide +kernel)) (by decide) (fun M2 e => ?_)
  rw [e.trans (bz_u (by decide +kernel) (rfl : 186 + 1 = 187))]
  refine rr_aload_n pf_4_28 rfl ?_
  refine rr_iconst pf_4_29 ?_
  refine rr_putI pf_4_30 po_4 pg_1_21 (Or.inr ⟨by decide +kernel, rfl⟩) rfl (bz_s (x := (1, 5)) (by decide +kernel)) (by decide) (by unfold rg; omega) (fun M2 e => ?_)
  rw [e.trans (bz_u (by decide +kernel) (rfl : 187 + 1 = 188))]
  refine rr_aload_n pf_4_33 rfl ?_
  refine rr_iconst pf_4_34 ?_
  refine rr_putI pf_4_35 po_4 pg_1_25 (Or.inr ⟨by decide +kernel, rfl⟩) rfl (bz_s (x := (1, 5)) (by decide +kernel)) (by decide) (by unfold rg; omega) (fun M2 e => ?_)
  rw [e.trans (bz_u (by decide +kernel) (rfl : 188 + 1 = 189))]
  exact rr_vret pf_4_38 pt_4 G
theorem bC_4_71_181 {xs : Nat → Int} {L d : Nat} (hd : 1 ≤ d) : px_Cl xs L d 4 [.ref 70] (bS 71, bM 181) none (bS 74, bM 189) := by
  obtain ⟨d, rfl⟩ : ∃ e, d = e + 1 := ⟨d - 1, by omega⟩
  refine px_Cl_intro (Nat.le_of_ble_eq_true rfl) ?_
  show px_R xs L d 4 (0, [.ref 70], [], (bS 71, bM 181)) _
  exact bk_4_71_181_e (by omega) ⟨rfl, rfl⟩
theorem bk_5_28_74_4 {xs : Nat → Int} {L d : Nat} {Q : Option Value → px_H → Prop} (hd : 1 ≤ d) (G : px_R xs L d 5 (47, [.ref 27, .int (iI (11))], [.ref 74, .int (iI (11)), .ref 28], (bS 75, bM 191)) Q) : px_R xs L d 5 (55, [.ref 27, .int (iI (9))], [], (bS 66, bM 170)) Q := by
  refine rr_goto 33 pf_5_55 (by decide) ?_
  refine rr_iload_n pf_5_33 rfl ?_
  refine rr_bipush pf_5_34 (by decide) ?_
  refine rr_icmp_ge 58 pf_5_36 (by decide) (by unfold rg; omega) (by unfold rg; omega) (fun z => absurd z (by decide)) (fun _ => ?_)
  refine rr_aload_n pf_5_39 rfl ?_
  refine rr_getR (q := 28) pf_5_40 po_5 pg_7_13 rfl (bz_s (x := (7, 4)) (by decide +kernel)) (by decide) (by decide +kernel) ?_
  refine rr_iload_n pf_5_43 rfl ?_
  refine rr_new pf_5_44 po_5 pn_7_11 (by decide) rfl (fun M2 e => ?_)
  rw [bz_l (by decide : 66 ≤ 264)] at e ⊢
  rw [e.trans (bz_o (by decide +kernel) (rfl : 170 + 1 = 171))]
  rw [bz_n (by decide +kernel) (rfl : 66 + 1 = 67)]
  refine rr_dup pf_5_47 rfl ?_
  refine rr_cI0 pf_5_48 po_5 pc_7_28 (by decide) rfl (bC_4_67_171 (Nat.le_trans (by decide) hd)) ?_
  refine rr_aast pf_5_51 (bz_s (x := (14, 17)) (by decide +kernel)) (by decide) (by decide) (by unfold rg; omega) (by decide) (by decide +kernel) (fun M2 e => ?_)
  rw [e.trans (bz_u (by decide +kernel) (rfl : 179 + 1 = 180))]
  refine rr_iinc (x := 9) pf_5_52 rfl (fun y => [.ref 27, .int (iI y)]) (fun _ => rfl) (fun y ey => ?_)
  obtain rfl : y = 10 := ey
  refine rr_goto 33 pf_5_55 (by decide) ?_
  refine rr_iload_n pf_5_33 rfl ?_
  refine rr_bipush pf_5_34 (by decide) ?_
  refine rr_icmp_ge 58 pf_5_36 (by decide) (by unfold rg; omega) (by unfold rg; omega) (fun z => absurd z (by decide)) (fun _ => ?_)
  refine rr_aload_n pf_5_39 rfl ?_
  refine rr_getR (q := 28) pf_5_40 po_5 pg_7_13 rfl (bz_s (x := (7, 4)) (by decide +kernel)) (by decide) (by decide +kernel) ?_
  refine rr_iload_n pf_5_43 rfl ?_
  refine rr_new pf_5_44 po_5 pn_7_11 (by decide) rfl (fun M2 e => ?_)
  rw [bz_l (by decide : 70 ≤ 264)] at e ⊢
  rw [e.trans (bz_o (by decide +kernel) (rfl : 180 + 1 = 181))]
  rw [bz_n (by decide +kernel) (rfl : 70 + 1 = 71)]
  refine rr_dup pf_5_47 rfl ?_
  refine rr_cI0 pf_5_48 po_5 pc_7_28 (by decide) rfl (bC_4_71_181 (Nat.le_trans (by decide) hd)) ?_
  refine rr_aast pf_5_51 (bz_s (x := (14, 17)) (by decide +kernel)) (by decide) (by decide) (by unfold rg; omega) (by decide) (by decide +kernel) (fun M2 e => ?_)
  rw [e.trans (bz_u (by decide +kernel) (rfl : 189 + 1 = 190))]
  refine rr_iinc (x := 10) pf_5_52 rfl (fun y => [.ref 27, .int (iI y)]) (fun _ => rfl) (fun y ey => ?_)
  obtain rfl : y = 11 := ey
  refine rr_goto 33 pf_5_55 (by decide) ?_
  refine rr_iload_n pf_5_33 rfl ?_
  refine rr_bipush pf_5_34 (by decide) ?_
  refine rr_icmp_ge 58 pf_5_36 (by decide) (by unfold rg; omega) (by unfold rg; omega) (fun z => absurd z (by decide)) (fun _ => ?_)
  refine rr_aload_n pf_5_39 rfl ?_
  refine rr_getR (q := 28) pf_5_40 po_5 pg_7_13 rfl (bz_s (x := (7, 4)) (by decide +kernel)) (by decide) (by decide +kernel) ?_
  refine rr_iload_n pf_5_43 rfl ?_
  refine rr_new pf_5_44 po_5 pn_7_11 (by decide) rfl (fun M2 e => ?_)
  rw [bz_l (by decide : 74 ≤ 264)] at e ⊢
  rw [e.trans (bz_o (by decide +kernel) (rfl : 190 + 1 = 191))]
  rw [bz_n (by decide +kernel) (rfl : 74 + 1 = 75)]
  exact G
theorem bk_4_75_191_e {xs : Nat → Int} {L d : Nat} {Q : Option Value → px_H → Prop} (hd : 0 ≤ d) (G : Q none (bS 78, bM 199)) : px_R xs L d 4 (0, [.ref 74], [], (bS 75, bM 191)) Q := by
  refine rr_aload_n pf_4_0 rfl ?_
  refine rr_objI pf_4_1 po_4 pc_1_3 (by decide) ?_
  refine rr_aload_n pf_4_4 rfl ?_
  refine rr_bipush pf_4_5 (by decide) ?_
  refine rr_newa 10 pf_4_7 (by simp) (by decide) (fun M2 e => ?_)
  rw [bz_l (by decide : 75 ≤ 264)] at e ⊢
  rw [e.trans (bz_c (by decide +kernel) (rfl : 191 + 1 = 192))]
  rw [bz_n (by decide +kernel) (rfl : 75 + 1 = 76)]
  refine rr_putR pf_4_9 po_4 pg_1_9 (Or.inr ⟨by decide +kernel, rfl⟩) rfl (bz_s (x := (1, 5)) (by decide +kernel)) (by decide) (fun M2 e => ?_)
  rw [e.trans (bz_u (by decide +kernel) (rfl : 192 + 1 = 193))]
  refine rr_aload_n pf_4_12 rfl ?_
  refine rr_bipush pf_4_13 (by decide) ?_
  refine rr_newa 10 pf_4_15 (by simp) (by decide) (fun M2 e => ?_)
  rw [bz_l (by decide : 76 ≤ 264)] at e ⊢
  rw [e.trans (bz_c (by decide +kernel) (rfl : 193 + 1 = 194))]
  rw [bz_n (by decide +kernel) (rfl : 76 + 1 = 77)]
  refine rr_putR pf_4_17 po_4 pg_1_15 (Or.inr ⟨by decide +kernel, rfl⟩) rfl (bz_s (x := (1, 5)) (by decide +kernel)) (by decide) (fun M2 e => ?_)
  rw [e.trans (bz_u (by decide +kernel) (rfl : 194 + 1 = 195))]
  refine rr_aload_n pf_4_20 rfl ?_
  refine rr_bipush pf_4_21 (by decide) ?_
  refine rr_newa 10 pf_4_23 (by simp) (by decide) (fun M2 e => ?_)
  rw [bz_l (by decide : 77 ≤ 264)] at e ⊢
  rw [e.trans (bz_c (by decide +kernel) (rfl : 195 + 1 = 196))]
  rw [bz_n (by decide +kernel) (rfl : 77 + 1 = 78)]
  refine rr_putR pf_4_25 po_4 pg_1_18 (Or.inr ⟨by decide +kernel, rfl⟩) rfl (bz_s (x := (1, 5)) (by decide +kernel)) (by decide) (fun M2 e => ?_)
  rw [e.trans (bz_u (by decide +kernel) (rfl : 196 + 1 = 197))]
  refine rr_aload_n pf_4_28 rfl ?_
  refine rr_iconst pf_4_29 ?_
  refine rr_putI pf_4_30 po_4 pg_1_21 (Or.inr ⟨by decide +kernel, rfl⟩) rfl (bz_s (x := (1, 5)) (by decide +kernel)) (by decide) (by unfold rg; omega) (fun M2 e => ?_)
  rw [e.trans (bz_u (by decide +kernel) (rfl : 197 + 1 = 198))]
  refine rr_aload_n pf_4_33 rfl ?_
  refine rr_iconst pf_4_34 ?_
  refine rr_putI pf_4_35 po_4 pg_1_25 (Or.inr ⟨by decide +kernel, rfl⟩) rfl (bz_s (x := (1, 5)) (by decide +kernel)) (by decide) (by unfold rg; omega) (fun M2 e => ?_)
  rw [e.trans (bz_u (by decide +kernel) (rfl : 198 + 1 = 199))]
  exact rr_vret pf_4_38 pt_4 G
theorem bC_4_75_191 {xs : Nat → Int} {L d : Nat} (hd : 1 ≤ d) : px_Cl xs L d 4 [.ref 74] (bS 75, bM 191) none (bS 78, bM 199) := by
  obtain ⟨d, rfl⟩ : ∃ e, d = e + 1 := ⟨d - 1, by omega⟩
  refine px_Cl_intro (Nat.le_of_ble_eq_true rfl) ?_
  show px_R xs L d 4 (0, [.ref 74], [], (bS 75, bM 191)) _
  exact bk_4_75_191_e (by omega) ⟨rfl, rfl⟩
theorem bk_4_79_201_e {xs : Nat → Int} {L d : Nat} {Q : Option Value → px_H → Prop} (hd : 0 ≤ d) (G : Q none (bS 82, bM 209)) : px_R xs L d 4 (0, [.ref 78], [], (bS 79, bM 201)) Q := by
  refine rr_aload_n pf_4_0 rfl ?_
  refine rr_objI pf_4_1 po_4 pc_1_3 (by decide) ?_
  refine rr_aload_n pf_4_4 rfl ?_
  refine rr_bipush pf_4_5 (by decide) ?_
  refine rr_newa 10 pf_4_7 (by simp) (by decide) (fun M2 e => ?_)
  rw [bz_l (by decide : 79 ≤ 264)] at e ⊢
  rw [e.trans (bz_c (by decide +kernel) (rfl : 201 + 1 = 202))]
  rw [bz_n (by decide +kernel) (rfl : 79 + 1 = 80)]
  refine rr_putR pf_4_9 po_4 pg_1_9 (Or.inr ⟨by decide +kernel, rfl⟩) rfl (bz_s (x := (1, 5)) (by decide +kernel)) (by decide) (fun M2 e => ?_)
  rw [e.trans (bz_u (by decide +kernel) (rfl : 202 + 1 = 203))]
  refine rr_aload_n pf_4_12 rfl ?_
  refine rr_bipush pf_4_13 (by decide) ?_
  refine rr_newa 10 pf_4_15 (by simp) (by decide) (fun M2 e => ?_)
  rw [bz_l (by decide : 80 ≤ 264)] at e ⊢
  rw [e.trans (bz_c (by decide +kernel) (rfl : 203 + 1 = 204))]
  rw [bz_n (by decide +kernel) (rfl : 80 + 1 = 81)]
  refine rr_putR pf_4_17 po_4 pg_1_15 (Or.inr ⟨by decide +kernel, rfl⟩) rfl (bz_s (x := (1, 5)) (by decide +kernel)) (by decide) (fun M2 e => ?_)
  rw [e.trans (bz_u (by decide +kernel) (rfl : 204 + 1 = 205))]
  refine rr_aload_n pf_4_20 rfl ?_
  refine rr_bipush pf_4_21 (by decide) ?_
  refine rr_newa 10 pf_4_23 (by simp) (by decide) (fun M2 e => ?_)
  rw [bz_l (by decide : 81 ≤ 264)] at e ⊢
  rw [e.trans (bz_c (by decide +kernel) (rfl : 205 + 1 = 206))]
  rw [bz_n (by decide +kernel) (rfl : 81 + 1 = 82)]
  refine rr_putR pf_4_25 po_4 pg_1_18 (Or.inr ⟨by decide +kernel, rfl⟩) rfl (bz_s (x := (1, 5)) (by decide +kernel)) (by decide) (fun M2 e => ?_)
  rw [e.trans (bz_u (by decide +kernel) (rfl : 206 + 1 = 207))]
  refine rr_aload_n pf_4_28 rfl ?_
  refine rr_iconst pf_4_29 ?_
  refine rr_putI pf_4_30 po_4 pg_1_21 (Or.inr ⟨by decide +kernel, rfl⟩) rfl (bz_s (x := (1, 5)) (by decide +kernel)) (by decide) (by unfold rg; omega) (fun M2 e => ?_)
  rw [e.trans (bz_u (by decide +kernel) (rfl : 207 + 1 = 208))]
  refine rr_aload_n pf_4_33 rfl ?_
  refine rr_iconst pf_4_34 ?_
  refine rr_putI pf_4_35 po_4 pg_1_25 (Or.inr ⟨by decide +kernel, rfl⟩) rfl (bz_s (x := (1, 5)) (by decide +kernel)) (by decide) (by unfold rg; omega) (fun M2 e => ?_)
  rw [e.trans (bz_u (by decide +kernel) (rfl : 208 + 1 = 209))]
  exact rr_vret pf_4_38 pt_4 G
