/-! ===== the objects' shapes, by number ===== -/
def zsl_0 : List zS := [(1, 6, [(1, 1), (1, 25), (1, 49), (1, 73), (1, 79), (1, 106), (1, 81), (1, 90), (0, 0)], []), (1, 5, [(1, 2), (1, 3), (1, 4), (1, 13), (1, 17), (1, 21), (1, 22), (1, 23), (1, 24), (0, 0), (0, 0), (0, 0), (0, 0), (0, 0), (0, 0)], []), (0, 80, [], []), (0, 3, [], []), (2, 1, [(1, 5), (1, 6), (1, 7), (1, 8), (1, 9), (1, 10), (1, 11), (1, 12)], []), (0, 8, [], []), (0, 8, [], []), (0, 8, [], []), (0, 8, [], []), (0, 8, [], []), (0, 8, [], []), (0, 8, [], []), (0, 8, [], []), (1, 4, [(1, 14), (1, 15), (1, 16), (0, 0), (2, 0)], []), (0, 60, [], []), (0, 60, [], []), (0, 60, [], []), (1, 4, [(1, 18), (1, 19), (1, 20), (0, 0), (2, 0)], []), (0, 60, [], []), (0, 60, [], []), (0, 60, [], []), (0, 5, [], []), (0, 8, [], []), (0, 60, [], []), (0, 24, [], []), (1, 5, [(1, 26), (1, 27), (1, 28), (1, 37), (1, 41), (1, 45), (1, 46), (1, 47), (1, 48), (0, 0), (0, 0), (0, 0), (0, 0), (0, 0), (0, 0)], []), (0, 80, [], []), (0, 3, [], []), (2, 1, [(1, 29), (1, 30), (1, 31), (1, 32), (1, 33), (1, 34), (1, 35), (1, 36)], []), (0, 8, [], []), (0, 8, [], []), (0, 8, [], []), (0, 8, [], []), (0, 8, [], []), (0, 8, [], []), (0, 8, [], []), (0, 8, [], []), (1, 4, [(1, 38), (1, 39), (1, 40), (0, 0), (2, 0)], []), (0, 60, [], []), (0, 60, [], []), (0, 60, [], []), (1, 4, [(1, 42), (1, 43), (1, 44), (0, 0), (2, 0)], []), (0, 60, [], []), (0, 60, [], []), (0, 60, [], []), (0, 5, [], []), (0, 8, [], []), (0, 60, [], []), (0, 24, [], []), (1, 5, [(1, 50), (1, 51), (1, 52), (1, 61), (1, 65), (1, 69), (1, 70), (1, 71), (1, 72), (0, 0), (0, 0), (0, 0), (0, 0), (0, 0), (0, 0)], []), (0, 80, [], []), (0, 3, [], []), (2, 1, [(1, 53), (1, 54), (1, 55), (1, 56), (1, 57), (1, 58), (1, 59), (1, 60)], []), (0, 8, [], []), (0, 8, [], []), (0, 8, [], []), (0, 8, [], []), (0, 8, [], []), (0, 8, [], []), (0, 8, [], []), (0, 8, [], []), (1, 4, [(1, 62), (1, 63), (1, 64), (0, 0), (2, 0)], []), (0, 60, [], []), (0, 60, [], [])]
def zsl_1 : List zS := [(0, 60, [], []), (1, 4, [(1, 66), (1, 67), (1, 68), (0, 0), (2, 0)], []), (0, 60, [], []), (0, 60, [], []), (0, 60, [], []), (0, 5, [], []), (0, 8, [], []), (0, 60, [], []), (0, 24, [], []), (1, 0, [(1, 74), (3, 0), (0, 0), (0, 0), (0, 0), (3, 0)], []), (1, 4, [(1, 75), (1, 76), (1, 77), (0, 0), (2, 0)], []), (0, 60, [], []), (0, 60, [], []), (0, 60, [], []), (0, 0, [], []), (1, 3, [(1, 80), (0, 0), (2, 0), (0, 0), (0, 0), (0, 0)], []), (0, 30, [], []), (2, 2, [(1, 82), (1, 84), (1, 86), (1, 88)], []), (1, 2, [(1, 83), (0, 0), (0, 0)], []), (0, 24, [], []), (1, 2, [(1, 85), (0, 0), (0, 0)], []), (0, 24, [], []), (1, 2, [(1, 87), (0, 0), (0, 0)], []), (0, 24, [], []), (1, 2, [(1, 89), (0, 0), (0, 0)], []), (0, 24, [], []), (0, 7, [], []), (1, 7, [(1, 92), (1, 93), (1, 94), (0, 0), (1, 95), (0, 0), (0, 0), (0, 0), (0, 0), (1, 96), (1, 97), (1, 98), (1, 99), (1, 100), (1, 101), (0, 0), (0, 0), (2, 0), (1, 102), (1, 103), (1, 104), (1, 105)], []), (0, 488, [], []), (0, 488, [], []), (0, 488, [], []), (0, 7, [], []), (0, 124, [], []), (0, 128, [], []), (0, 64, [], []), (0, 8, [], []), (0, 1809, [], []), (0, 30, [], []), (0, 4, [], []), (0, 4, [], []), (0, 96, [], []), (0, 24, [], []), (1, 1, [(1, 107)], []), (2, 1, [(1, 108), (1, 109), (1, 110), (1, 111), (1, 112), (1, 113), (1, 114), (1, 115), (1, 116), (1, 117), (1, 118), (1, 119), (1, 120), (1, 121), (1, 122), (1, 123), (1, 124), (1, 125), (1, 126), (1, 127), (1, 128), (1, 129), (1, 130), (1, 131), (1, 132), (1, 133), (1, 134), (1, 135), (1, 136), (1, 137), (1, 138), (1, 139), (1, 140), (1, 141), (1, 142), (1, 143), (1, 144), (1, 145), (1, 146), (1, 147), (1, 148), (1, 149), (1, 150), (1, 151), (1, 152), (1, 153), (1, 154), (1, 155), (1, 156), (1, 157), (1, 158), (1, 159), (1, 160), (1, 161), (1, 162), (1, 163), (1, 164), (1, 165), (1, 166), (1, 167), (1, 168), (1, 169), (1, 170), (1, 171), (1, 172), (1, 173), (1, 174), (1, 175), (1, 176), (1, 177), (1, 178), (1, 179), (1, 180), (1, 181), (1, 182), (1, 183), (1, 184), (1, 185), (1, 186), (1, 187), (1, 188), (1, 189), (1, 190), (1, 191), (1, 192), (1, 193), (1, 194), (1, 195), (1, 196), (1, 197), (1, 198), (1, 199), (1, 200), (1, 201), (1, 202), (1, 203), (1, 204), (1, 205), (1, 206), (1, 207), (1, 208), (1, 209), (1, 210), (1, 211), (1, 212), (1, 213), (1, 214), (1, 215), (1, 216), (1, 217), (1, 218), (1, 219), (1, 220), (1, 221), (1, 222), (1, 223), (1, 224), (1, 225), (1, 226), (1, 227), (1, 228), (1, 229), (1, 230), (1, 231), (1, 232), (1, 233), (1, 234), (1, 235), (1, 236), (1, 237), (1, 238), (1, 239), (1, 240), (1, 241), (1, 242), (1, 243), (1, 244), (1, 245), (1, 246), (1, 247), (1, 248), (1, 249), (1, 250), (1, 251), (1, 252), (1, 253), (1, 254), (1, 255), (1, 256), (1, 257), (1, 258), (1, 259), (1, 260), (1, 261), (1, 262), (1, 263), (1, 264), (1, 265), (1, 266), (1, 267), (1, 268), (1, 269), (1, 270), (1, 271), (1, 272), (1, 273), (1, 274), (1, 275), (1, 276), (1, 277), (1, 278), (1, 279), (1, 280), (1, 281), (1, 282), (1, 283), (1, 284), (1, 285), (1, 286), (1, 287), (1, 288), (1, 289), (1, 290), (1, 291), (1, 292), (1, 293), (1, 294), (1, 295), (1, 296), (1, 297), (1, 298), (1, 299), (1, 300), (1, 301), (1, 302), (1, 303), (1, 304), (1, 305), (1, 306), (1, 307), (1, 308)], []), (0, 9, [], []), (0, 9, [], []), (0, 9, [], []), (0, 9, [], []), (0, 9, [], []), (0, 9, [], []), (0, 9, [], []), (0, 9, [], []), (0, 9, [], []), (0, 9, [], []), (0, 9, [], []), (0, 9, [], []), (0, 9, [], []), (0, 9, [], []), (0, 9, [], []), (0, 9, [], []), (0, 9, [], []), (0, 9, [], []), (0, 9, [], []), (0, 9, [], [])]
def zsl_2 : List zS := [(0, 9, [], []), (0, 9, [], []), (0, 9, [], []), (0, 9, [], []), (0, 9, [], []), (0, 9, [], []), (0, 9, [], []), (0, 9, [], []), (0, 9, [], []), (0, 9, [], []), (0, 9, [], []), (0, 9, [], []), (0, 9, [], []), (0, 9, [], []), (0, 9, [], []), (0, 9, [], []), (0, 9, [], []), (0, 9, [], []), (0, 9, [], []), (0, 9, [], []), (0, 9, [], []), (0, 9, [], []), (0, 9, [], []), (0, 9, [], []), (0, 9, [], []), (0, 9, [], []), (0, 9, [], []), (0, 9, [], []), (0, 9, [], []), (0, 9, [], []), (0, 9, [], []), (0, 9, [], []), (0, 9, [], []), (0, 9, [], []), (0, 9, [], []), (0, 9, [], []), (0, 9, [], []), (0, 9, [], []), (0, 9, [], []), (0, 9, [], []), (0, 9, [], []), (0, 9, [], []), (0, 9, [], []), (0, 9, [], []), (0, 9, [], []), (0, 9, [], []), (0, 9, [], []), (0, 9, [], []), (0, 9, [], []), (0, 9, [], []), (0, 9, [], []), (0, 9, [], []), (0, 9, [], []), (0, 9, [], []), (0, 9, [], []), (0, 9, [], []), (0, 9, [], []), (0, 9, [], []), (0, 9, [], []), (0, 9, [], []), (0, 9, [], []), (0, 9, [], []), (0, 9, [], []), (0, 9, [], [])]
def zsl_3 : List zS := [(0, 9, [], []), (0, 9, [], []), (0, 9, [], []), (0, 9, [], []), (0, 9, [], []), (0, 9, [], []), (0, 9, [], []), (0, 9, [], []), (0, 9, [], []), (0, 9, [], []), (0, 9, [], []), (0, 9, [], []), (0, 9, [], []), (0, 9, [], []), (0, 9, [], []), (0, 9, [], []), (0, 9, [], []), (0, 9, [], []), (0, 9, [], []), (0, 9, [], []), (0, 9, [], []), (0, 9, [], []), (0, 9, [], []), (0, 9, [], []), (0, 9, [], []), (0, 9, [], []), (0, 9, [], []), (0, 9, [], []), (0, 9, [], []), (0, 9, [], []), (0, 9, [], []), (0, 9, [], []), (0, 9, [], []), (0, 9, [], []), (0, 9, [], []), (0, 9, [], []), (0, 9, [], []), (0, 9, [], []), (0, 9, [], []), (0, 9, [], []), (0, 9, [], []), (0, 9, [], []), (0, 9, [], []), (0, 9, [], []), (0, 9, [], []), (0, 9, [], []), (0, 9, [], []), (0, 9, [], []), (0, 9, [], []), (0, 9, [], []), (0, 9, [], []), (0, 9, [], []), (0, 9, [], []), (0, 9, [], []), (0, 9, [], []), (0, 9, [], []), (0, 9, [], []), (0, 9, [], []), (0, 9, [], []), (0, 9, [], []), (0, 9, [], []), (0, 9, [], []), (0, 9, [], []), (0, 9, [], [])]
def zsl_4 : List zS := [(0, 9, [], []), (0, 9, [], []), (0, 9, [], []), (0, 9, [], []), (0, 9, [], []), (0, 9, [], []), (0, 9, [], []), (0, 9, [], []), (0, 9, [], []), (0, 9, [], []), (0, 9, [], []), (0, 9, [], []), (0, 9, [], []), (0, 9, [], []), (0, 9, [], []), (0, 9, [], []), (0, 9, [], []), (0, 9, [], []), (0, 9, [], []), (0, 9, [], []), (0, 9, [], []), (0, 9, [], []), (0, 9, [], []), (0, 9, [], []), (0, 9, [], []), (0, 9, [], []), (0, 9, [], []), (0, 9, [], []), (0, 9, [], []), (0, 9, [], []), (0, 9, [], []), (0, 9, [], []), (0, 9, [], []), (0, 9, [], []), (0, 9, [], []), (0, 9, [], []), (0, 9, [], []), (0, 9, [], []), (0, 9, [], []), (0, 9, [], []), (0, 9, [], []), (0, 9, [], []), (0, 9, [], []), (0, 9, [], []), (0, 9, [], []), (0, 9, [], []), (0, 9, [], []), (0, 9, [], []), (0, 9, [], []), (0, 9, [], []), (0, 9, [], []), (0, 9, [], []), (0, 9, [], []), (3, 0, [], [-1, 0, 1, 1, 1, 0, 1]), (3, 0, [], [6, 99, 79, 99, 99, 99, -1, 1]), (3, 0, [], [1, 99, 1]), (3, 0, [], [10, 11, 12, 13, 20, 0, 0, 21, 0, 30, 0, 0, 41, 0, 40, 0, 50, 0, 0, 0, 0, 60, 61, 0, 70, 0, 0, 71]), (6, 0, [], []), (5, 315, [], []), (4, 0, [], [102, 118, 104, 103, 119]), (5, 317, [], []), (4, 0, [], []), (5, 319, [], []), (4, 0, [], [115, 104, 103])]
def zsl_5 : List zS := [(5, 321, [], []), (4, 0, [], [41]), (5, 323, [], []), (4, 0, [], [124]), (5, 325, [], []), (4, 0, [], [38]), (5, 327, [], []), (4, 0, [], [60, 61, 62]), (5, 329, [], []), (4, 0, [], [43, 45]), (5, 331, [], []), (4, 0, [], [42, 47, 37])]
def zsl : List zS := zsl_0 ++ (zsl_1 ++ (zsl_2 ++ (zsl_3 ++ (zsl_4 ++ (zsl_5)))))
def zsh (k : Nat) : zS := zsl.getD k (9, 0, [], [])
theorem zsh_0 : zsh 0 = (1, 6, [(1, 1), (1, 25), (1, 49), (1, 73), (1, 79), (1, 106), (1, 81), (1, 90), (0, 0)], []) := rfl
theorem zsh_1 : zsh 1 = (1, 5, [(1, 2), (1, 3), (1, 4), (1, 13), (1, 17), (1, 21), (1, 22), (1, 23), (1, 24), (0, 0), (0, 0), (0, 0), (0, 0), (0, 0), (0, 0)], []) := rfl
theorem zsh_2 : zsh 2 = (0, 80, [], []) := rfl
theorem zsh_3 : zsh 3 = (0, 3, [], []) := rfl
theorem zsh_4 : zsh 4 = (2, 1, [(1, 5), (1, 6), (1, 7), (1, 8), (1, 9), (1, 10), (1, 11), (1, 12)], []) := rfl
theorem zsh_5 : zsh 5 = (0, 8, [], []) := rfl
theorem zsh_6 : zsh 6 = (0, 8, [], []) := rfl
theorem zsh_7 : zsh 7 = (0, 8, [], []) := rfl
theorem zsh_8 : zsh 8 = (0, 8, [], []) := rfl
theorem zsh_9 : zsh 9 = (0, 8, [], []) := rfl
theorem zsh_10 : zsh 10 = (0, 8, [], []) := rfl
theorem zsh_11 : zsh 11 = (0, 8, [], []) := rfl
theorem zsh_12 : zsh 12 = (0, 8, [], []) := rfl
theorem zsh_13 : zsh 13 = (1, 4, [(1, 14), (1, 15), (1, 16), (0, 0), (2, 0)], []) := rfl
theorem zsh_14 : zsh 14 = (0, 60, [], []) := rfl
theorem zsh_15 : zsh 15 = (0, 60, [], []) := rfl
theorem zsh_16 : zsh 16 = (0, 60, [], []) := rfl
theorem zsh_17 : zsh 17 = (1, 4, [(1, 18), (1, 19), (1, 20), (0, 0), (2, 0)], []) := rfl
theorem zsh_18 : zsh 18 = (0, 60, [], []) := rfl
theorem zsh_19 : zsh 19 = (0, 60, [], []) := rfl
theorem zsh_20 : zsh 20 = (0, 60, [], []) := rfl
theorem zsh_21 : zsh 21 = (0, 5, [], []) := rfl
theorem zsh_22 : zsh 22 = (0, 8, [], []) := rfl
theorem zsh_23 : zsh 23 = (0, 60, [], []) := rfl
theorem zsh_24 : zsh 24 = (0, 24, [], []) := rfl
theorem zsh_25 : zsh 25 = (1, 5, [(1, 26), (1, 27), (1, 28), (1, 37), (1, 41), (1, 45), (1, 46), (1, 47), (1, 48), (0, 0), (0, 0), (0, 0), (0, 0), (0, 0), (0, 0)], []) := rfl
theorem zsh_26 : zsh 26 = (0, 80, [], []) := rfl
theorem zsh_27 : zsh 27 = (0, 3, [], []) := rfl
theorem zsh_28 : zsh 28 = (2, 1, [(1, 29), (1, 30), (1, 31), (1, 32), (1, 33), (1, 34), (1, 35), (1, 36)], []) := rfl
theorem zsh_29 : zsh 29 = (0, 8, [], []) := rfl
theorem zsh_30 : zsh 30 = (0, 8, [], []) := rfl
theorem zsh_31 : zsh 31 = (0, 8, [], []) := rfl
theorem zsh_32 : zsh 32 = (0, 8, [], []) := rfl
theorem zsh_33 : zsh 33 = (0, 8, [], []) := rfl
theorem zsh_34 : zsh 34 = (0, 8, [], []) := rfl
theorem zsh_35 : zsh 35 = (0, 8, [], []) := rfl
theorem zsh_36 : zsh 36 = (0, 8, [], []) := rfl
theorem zsh_37 : zsh 37 = (1, 4, [(1, 38), (1, 39), (1, 40), (0, 0), (2, 0)], []) := rfl
theorem zsh_38 : zsh 38 = (0, 60, [], []) := rfl
theorem zsh_39 : zsh 39 = (0, 60, [], []) := rfl
theorem zsh_40 : zsh 40 = (0, 60, [], []) := rfl
theorem zsh_41 : zsh 41 = (1, 4, [(1, 42), (1, 43), (1, 44), (0, 0), (2, 0)], []) := rfl
theorem zsh_42 : zsh 42 = (0, 60, [], []) := rfl
theorem zsh_43 : zsh 43 = (0, 60, [], []) := rfl
theorem zsh_44 : zsh 44 = (0, 60, [], []) := rfl
theorem zsh_45 : zsh 45 = (0, 5, [], []) := rfl
theorem zsh_46 : zsh 46 = (0, 8, [], []) := rfl
theorem zsh_47 : zsh 47 = (0, 60, [], []) := rfl
theorem zsh_48 : zsh 48 = (0, 24, [], []) := rfl
theorem zsh_49 : zsh 49 = (1, 5, [(1, 50), (1, 51), (1, 52), (1, 61), (1, 65), (1, 69), (1, 70), (1, 71), (1, 72), (0, 0), (0, 0), (0, 0), (0, 0), (0, 0), (0, 0)], []) := rfl
theorem zsh_50 : zsh 50 = (0, 80, [], []) := rfl
theorem zsh_51 : zsh 51 = (0, 3, [], []) := rfl
theorem zsh_52 : zsh 52 = (2, 1, [(1, 53), (1, 54), (1, 55), (1, 56), (1, 57), (1, 58), (1, 59), (1, 60)], []) := rfl
theorem zsh_53 : zsh 53 = (0, 8, [], []) := rfl
theorem zsh_54 : zsh 54 = (0, 8, [], []) := rfl
theorem zsh_55 : zsh 55 = (0, 8, [], []) := rfl
theorem zsh_56 : zsh 56 = (0, 8, [], []) := rfl
theorem zsh_57 : zsh 57 = (0, 8, [], []) := rfl
theorem zsh_58 : zsh 58 = (0, 8, [], []) := rfl
theorem zsh_59 : zsh 59 = (0, 8, [], []) := rfl
theorem zsh_60 : zsh 60 = (0, 8, [], []) := rfl
theorem zsh_61 : zsh 61 = (1, 4, [(1, 62), (1, 63), (1, 64), (0, 0), (2, 0)], []) := rfl
theorem zsh_62 : zsh 62 = (0, 60, [], []) := rfl
theorem zsh_63 : zsh 63 = (0, 60, [], []) := rfl
theorem zsh_64 : zsh 64 = (0, 60, [], []) := rfl
theorem zsh_65 : zsh 65 = (1, 4, [(1, 66), (1, 67), (1, 68), (0, 0), (2, 0)], []) := rfl
theorem zsh_66 : zsh 66 = (0, 60, [], []) := rfl
theorem zsh_67 : zsh 67 = (0, 60, [], []) := rfl
theorem zsh_68 : zsh 68 = (0, 60, [], []) := rfl
theorem zsh_69 : zsh 69 = (0, 5, [], []) := rfl
theorem zsh_70 : zsh 70 = (0, 8, [], []) := rfl
theorem zsh_71 : zsh 71 = (0, 60, [], []) := rfl
theorem zsh_72 : zsh 72 = (0, 24, [], []) := rfl
theorem zsh_73 : zsh 73 = (1, 0, [(1, 74), (3, 0), (0, 0), (0, 0), (0, 0), (3, 0)], []) := rfl
theorem zsh_74 : zsh 74 = (1, 4, [(1, 75), (1, 76), (1, 77), (0, 0), (2, 0)], []) := rfl
theorem zsh_75 : zsh 75 = (0, 60, [], []) := rfl
theorem zsh_76 : zsh 76 = (0, 60, [], []) := rfl
theorem zsh_77 : zsh 77 = (0, 60, [], []) := rfl
theorem zsh_78 : zsh 78 = (0, 0, [], []) := rfl
theorem zsh_79 : zsh 79 = (1, 3, [(1, 80), (0, 0), (2, 0), (0, 0), (0, 0), (0, 0)], []) := rfl
theorem zsh_80 : zsh 80 = (0, 30, [], []) := rfl
theorem zsh_81 : zsh 81 = (2, 2, [(1, 82), (1, 84), (1, 86), (1, 88)], []) := rfl
theorem zsh_82 : zsh 82 = (1, 2, [(1, 83), (0, 0), (0, 0)], []) := rfl
theorem zsh_83 : zsh 83 = (0, 24, [], []) := rfl
theorem zsh_84 : zsh 84 = (1, 2, [(1, 85), (0, 0), (0, 0)], []) := rfl
theorem zsh_85 : zsh 85 = (0, 24, [], []) := rfl
theorem zsh_86 : zsh 86 = (1, 2, [(1, 87), (0, 0), (0, 0)], []) := rfl
theorem zsh_87 : zsh 87 = (0, 24, [], []) := rfl
theorem zsh_88 : zsh 88 = (1, 2, [(1, 89), (0, 0), (0, 0)], []) := rfl
theorem zsh_89 : zsh 89 = (0, 24, [], []) := rfl
theorem zsh_90 : zsh 90 = (0, 7, [], []) := rfl
theorem zsh_91 : zsh 91 = (1, 7, [(1, 92), (1, 93), (1, 94), (0, 0), (1, 95), (0, 0), (0, 0), (0, 0), (0, 0), (1, 96), (1, 97), (1, 98), (1, 99), (1, 100), (1, 101), (0, 0), (0, 0), (2, 0), (1, 102), (1, 103), (1, 104), (1, 105)], []) := rfl
theorem zsh_92 : zsh 92 = (0, 488, [], []) := rfl
theorem zsh_93 : zsh 93 = (0, 488, [], []) := rfl
theorem zsh_94 : zsh 94 = (0, 488, [], []) := rfl
theorem zsh_95 : zsh 95 = (0, 7, [], []) := rfl
theorem zsh_96 : zsh 96 = (0, 124, [], []) := rfl
theorem zsh_97 : zsh 97 = (0, 128, [], []) := rfl
theorem zsh_98 : zsh 98 = (0, 64, [], []) := rfl
theorem zsh_99 : zsh 99 = (0, 8, [], []) := rfl
theorem zsh_100 : zsh 100 = (0, 1809, [], []) := rfl
theorem zsh_101 : zsh 101 = (0, 30, [], []) := rfl
theorem zsh_102 : zsh 102 = (0, 4, [], []) := rfl
theorem zsh_103 : zsh 103 = (0, 4, [], []) := rfl
theorem zsh_104 : zsh 104 = (0, 96, [], []) := rfl
theorem zsh_105 : zsh 105 = (0, 24, [], []) := rfl
theorem zsh_106 : zsh 106 = (1, 1, [(1, 107)], []) := rfl
theorem zsh_107 : zsh 107 = (2, 1, [(1, 108), (1, 109), (1, 110), (1, 111), (1, 112), (1, 113), (1, 114), (1, 115), (1, 116), (1, 117), (1, 118), (1, 119), (1, 120), (1, 121), (1, 122), (1, 123), (1, 124), (1, 125), (1, 126), (1, 127), (1, 128), (1, 129), (1, 130), (1, 131), (1, 132), (1, 133), (1, 134), (1, 135), (1, 136), (1, 137), (1, 138), (1, 139), (1, 140), (1, 141), (1, 142), (1, 143), (1, 144), (1, 145), (1, 146), (1, 147), (1, 148), (1, 149), (1, 150), (1, 151), (1, 152), (1, 153), (1, 154), (1, 155), (1, 156), (1, 157), (1, 158), (1, 159), (1, 160), (1, 161), (1, 162), (1, 163), (1, 164), (1, 165), (1, 166), (1, 167), (1, 168), (1, 169), (1, 170), (1, 171), (1, 172), (1, 173), (1, 174), (1, 175), (1, 176), (1, 177), (1, 178), (1, 179), (1, 180), (1, 181), (1, 182), (1, 183), (1, 184), (1, 185), (1, 186), (1, 187), (1, 188), (1, 189), (1, 190), (1, 191), (1, 192), (1, 193), (1, 194), (1, 195), (1, 196), (1, 197), (1, 198), (1, 199), (1, 200), (1, 201), (1, 202), (1, 203), (1, 204), (1, 205), (1, 206), (1, 207), (1, 208), (1, 209), (1, 210), (1, 211), (1, 212), (1, 213), (1, 214), (1, 215), (1, 216), (1, 217), (1, 218), (1, 219), (1, 220), (1, 221), (1, 222), (1, 223), (1, 224), (1, 225), (1, 226), (1, 227), (1, 228), (1, 229), (1, 230), (1, 231), (1, 232), (1, 233), (1, 234), (1, 235), (1, 236), (1, 237), (1, 238), (1, 239), (1, 240), (1, 241), (1, 242), (1, 243), (1, 244), (1, 245), (1, 246), (1, 247), (1, 248), (1, 249), (1, 250), (1, 251), (1, 252), (1, 253), (1, 254), (1, 255), (1, 256), (1, 257), (1, 258), (1, 259), (1, 260), (1, 261), (1, 262), (1, 263), (1, 264), (1, 265), (1, 266), (1, 267), (1, 268), (1, 269), (1, 270), (1, 271), (1, 272), (1, 273), (1, 274), (1, 275), (1, 276), (1, 277), (1, 278), (1, 279), (1, 280), (1, 281), (1, 282), (1, 283), (1, 284), (1, 285), (1, 286), (1, 287), (1, 288), (1, 289), (1, 290), (1, 291), (1, 292), (1, 293), (1, 294), (1, 295), (1, 296), (1, 297), (1, 298), (1, 299), (1, 300), (1, 301), (1, 302), (1, 303), (1, 304), (1, 305), (1, 306), (1, 307), (1, 308)], []) := rfl
theorem zsh_309 : zsh 309 = (3, 0, [], [-1, 0, 1, 1, 1, 0, 1]) := rfl
theorem zsh_310 : zsh 310 = (3, 0, [], [6, 99, 79, 99, 99, 99, -1, 1]) := rfl
theorem zsh_311 : zsh 311 = (3, 0, [], [1, 99, 1]) := rfl
theorem zsh_312 : zsh 312 = (3, 0, [], [10, 11, 12, 13, 20, 0, 0, 21, 0, 30, 0, 0, 41, 0, 40, 0, 50, 0, 0, 0, 0, 60, 61, 0, 70, 0, 0, 71]) := rfl
theorem zsh_313 : zsh 313 = (6, 0, [], []) := rfl
theorem zsh_314 : zsh 314 = (5, 315, [], []) := rfl
theorem zsh_315 : zsh 315 = (4, 0, [], [102, 118, 104, 103, 119]) := rfl
theorem zsh_316 : zsh 316 = (5, 317, [], []) := rfl
theorem zsh_317 : zsh 317 = (4, 0, [], []) := rfl
theorem zsh_318 : zsh 318 = (5, 319, [], []) := rfl
theorem zsh_319 : zsh 319 = (4, 0, [], [115, 104, 103]) := rfl
theorem zsh_320 : zsh 320 = (5, 321, [], []) := rfl
theorem zsh_321 : zsh 321 = (4, 0, [], [41]) := rfl
theorem zsh_322 : zsh 322 = (5, 323, [], []) := rfl
theorem zsh_323 : zsh 323 = (4, 0, [], [124]) := rfl
theorem zsh_324 : zsh 324 = (5, 325, [], []) := rfl
theorem zsh_325 : zsh 325 = (4, 0, [], [38]) := rfl
theorem zsh_326 : zsh 326 = (5, 327, [], []) := rfl
theorem zsh_327 : zsh 327 = (4, 0, [], [60, 61, 62]) := rfl
theorem zsh_328 : zsh 328 = (5, 329, [], []) := rfl
theorem zsh_329 : zsh 329 = (4, 0, [], [43, 45]) := rfl
theorem zsh_330 : zsh 330 = (5, 331, [], []) := rfl
theorem zsh_331 : zsh 331 = (4, 0, [], [42, 47, 37]) := rfl
theorem zsh_row0 : ∀ i, i < 201 → (zsh (108 + i)).1 = 0 ∧ (zsh (108 + i)).2.1 = 9 ∧ (zsh (108 + i)).2.2.1.length = 0 ∧ (zsh (108 + i)).2.2.2.length = 0 := by decide +kernel
theorem zsh_row : ∀ i, i < 201 → zsh (108 + i) = (0, 9, [], []) := by
  intro i hi
  obtain ⟨a, b, c, d⟩ := zsh_row0 i hi
  exact Prod.ext a (Prod.ext b (Prod.ext (List.eq_nil_of_length_eq_zero c) (List.eq_nil_of_length_eq_zero d)))
/-! ===== the instructions ===== -/
def zokv : Value → Bool
  | .long _ => false
  | .double _ => false
  | _ => true
def zok : zL → Nat → Bool
  | [], _ => false
  | _ :: _, 0 => true
  | v :: l, 1 => zokv v && zok l 0
  | _ :: l, n + 2 => zok l (n + 1)
def zok4 : List Value → Bool
  | [] => true
  | [_] => true
  | [_, _] => true
  | [_, _, _] => true
  | [_, _, _, _] => true
  | _ => false
def oPush (v : Int32) (nx : Nat) : zO := fun lo st h => zgo nx lo (.int v :: st) h
def oPushL (v : Int64) (nx : Nat) : zO := fun lo st h => zgo nx lo (.long v :: st) h
def oRefC (r : Nat) (nx : Nat) : zO := fun lo st h => zgo nx lo (.ref r :: st) h
def oIl (i nx : Nat) : zO := fun lo st h => match lo[i]? with
  | some (.int x) => zgo nx lo (.int x :: st) h
  | _ => none
def oAl (i nx : Nat) : zO := fun lo st h => match lo[i]? with
  | some (.ref x) => zgo nx lo (.ref x :: st) h
  | _ => none
def oLl (i nx : Nat) : zO := fun lo st h => match lo[i]? with
  | some (.long x) => zgo nx lo (.long x :: st) h
  | _ => none
def oIs (i nx : Nat) : zO := fun lo st h => match st with
  | .int x :: st => if zok lo i = true then zgo nx (lo.set i (.int x)) st h else none
  | _ => none
def oAs (i nx : Nat) : zO := fun lo st h => match st with
  | .ref x :: st => if zok lo i = true then zgo nx (lo.set i (.ref x)) st h else none
  | _ => none
def oInc (i : Nat) (n : Int32) (nx : Nat) : zO := fun lo st h => match lo[i]? with
  | some (.int x) => if zok lo i = true then zgo nx (lo.set i (.int (x + n))) st h else none
  | _ => none
def oBin (f : Int32 → Int32 → Int32) (nx : Nat) : zO := fun lo st h => match st with
  | .int y :: .int x :: st => zgo nx lo (.int (f x y) :: st) h
  | _ => none
def oDiv (nx : Nat) : zO := fun lo st h => match st with
  | .int y :: .int x :: st => if y = 0 then none else zgo nx lo (.int (x / y) :: st) h
  | _ => none
def oRem (nx : Nat) : zO := fun lo st h => match st with
  | .int y :: .int x :: st => if y = 0 then none else zgo nx lo (.int (x % y) :: st) h
  | _ => none
def oUn (f : Int32 → Int32) (nx : Nat) : zO := fun lo st h => match st with
  | .int x :: st => zgo nx lo (.int (f x) :: st) h
  | _ => none
def oBinL (f : Int64 → Int64 → Int64) (nx : Nat) : zO := fun lo st h => match st with
  | .long y :: .long x :: st => zgo nx lo (.long (f x y) :: st) h
  | _ => none
def oShL (f : Int64 → Int32 → Int64) (nx : Nat) : zO := fun lo st h => match st with
  | .int y :: .long x :: st => zgo nx lo (.long (f x y) :: st) h
  | _ => none
def oI2l (nx : Nat) : zO := fun lo st h => match st with
  | .int x :: st => zgo nx lo (.long x.toInt64 :: st) h
  | _ => none
def oL2i (nx : Nat) : zO := fun lo st h => match st with
  | .long x :: st => zgo nx lo (.int x.toInt32 :: st) h
  | _ => none
def oEq0 (t nx : Nat) : zO := fun lo st h => match st with
  | .int x :: st => if x = 0 then zgo t lo st h else zgo nx lo st h
  | _ => none
def oNe0 (t nx : Nat) : zO := fun lo st h => match st with
  | .int x :: st => if x = 0 then zgo nx lo st h else zgo t lo st h
  | _ => none
def oLt0 (t nx : Nat) : zO := fun lo st h => match st with
  | .int x :: st => if x < 0 then zgo t lo st h else zgo nx lo st h
  | _ => none
def oGe0 (t nx : Nat) : zO := fun lo st h => match st with
  | .int x :: st => if 0 ≤ x then zgo t lo st h else zgo nx lo st h
  | _ => none
def oGt0 (t nx : Nat) : zO := fun lo st h => match st with
  | .int x :: st => if 0 < x then zgo t lo st h else zgo nx lo st h
  | _ => none
def oLe0 (t nx : Nat) : zO := fun lo st h => match st with
  | .int x :: st => if x ≤ 0 then zgo t lo st h else zgo nx lo st h
  | _ => none
def oCEq (t nx : Nat) : zO := fun lo st h => match st with
  | .int y :: .int x :: st => if x = y then zgo t lo st h else zgo nx lo st h
  | _ => none
def oCNe (t nx : Nat) : zO := fun lo st h => match st with
  | .int y :: .int x :: st => if x = y then zgo nx lo st h else zgo t lo st h
  | _ => none
def oCLt (t nx : Nat) : zO := fun lo st h => match st with
  | .int y :: .int x :: st => if x < y then zgo t lo st h else zgo nx lo st h
  | _ => none
def oCGe (t nx : Nat) : zO := fun lo st h => match st with
  | .int y :: .int x :: st => if y ≤ x then zgo t lo st h else zgo nx lo st h
  | _ => none
def oCGt (t nx : Nat) : zO := fun lo st h => match st with
  | .int y :: .int x :: st => if y < x then zgo t lo st h else zgo nx lo st h
  | _ => none
def oCLe (t nx : Nat) : zO := fun lo st h => match st with
  | .int y :: .int x :: st => if x ≤ y then zgo t lo st h else zgo nx lo st h
  | _ => none
def oGoto (t : Nat) : zO := fun lo st h => zgo t lo st h
def zsw (x : Int32) (lo : zL) (st : List Value) (h : zH) (d : Nat) : List (Int32 × Nat) → zR
  | [] => zgo d lo st h
  | q :: r => if x = q.1 then zgo q.2 lo st h else zsw x lo st h d r
def oSw (ps : List (Int32 × Nat)) (d : Nat) : zO := fun lo st h => match st with
  | .int x :: st => zsw x lo st h d ps
  | _ => none
def oDup (nx : Nat) : zO := fun lo st h => match st with
  | v :: st => if v.category = 1 then zgo nx lo (v :: v :: st) h else none
  | _ => none
def oDup2 (nx : Nat) : zO := fun lo st h => match st with
  | v :: w :: st => if v.category = 1 ∧ w.category = 1 then zgo nx lo (v :: w :: v :: w :: st) h else none
  | _ => none
def oPop (nx : Nat) : zO := fun lo st h => match st with
  | v :: st => if v.category = 1 then zgo nx lo st h else none
  | _ => none
/-- what an object's slot holds -/
def zfv (h : zH) (a j : Nat) (q : Nat × Nat) : Value := if q.1 = 1 then .ref q.2 else if q.1 = 3 then .ref (h a j).toNatClampNeg else .int (h a j)
def oGf (ci j nx : Nat) : zO := fun lo st h => match st with
  | .ref a :: st => if (zsh a).1 = 1 ∧ (zsh a).2.1 = ci ∧ a < 309 then (match (zsh a).2.2.1[j]? with
    | some q => zgo nx lo (zfv h a j q :: st) h
    | none => none) else none
  | _ => none
def oPf (ci j nx : Nat) : zO := fun lo st h => match st with
  | .int x :: .ref a :: st => if (zsh a).1 = 1 ∧ (zsh a).2.1 = ci ∧ a < 309 then (match (zsh a).2.2.1[j]? with
    | some q => if q.1 = 0 ∨ (q.1 = 2 ∧ (x = 0 ∨ x = 1)) then zgo nx lo st (zup h a j x) else none
    | none => none) else none
  | .ref r :: .ref a :: st => if (zsh a).1 = 1 ∧ (zsh a).2.1 = ci ∧ a < 309 then (match (zsh a).2.2.1[j]? with
    | some q => if q.1 = 3 ∧ r < 1000 then zgo nx lo st (zup h a j (Int32.ofNat r)) else none
    | none => none) else none
  | _ => none
def oIald (nx : Nat) : zO := fun lo st h => match st with
  | .int i :: .ref a :: st =>
    if (zsh a).1 = 0 ∧ a < 309 then (if 0 ≤ i.toInt ∧ i.toInt < ((zsh a).2.1 : Int) then zgo nx lo (.int (h a i.toNatClampNeg) :: st) h else none)
    else if (zsh a).1 = 3 then (if 0 ≤ i.toInt ∧ i.toInt < ((zsh a).2.2.2.length : Int) then zgo nx lo (.int ((zsh a).2.2.2.getD i.toNatClampNeg 0) :: st) h else none)
    else none
  | _ => none
/-- the script: object 313; its length stands at 400 -/
def oSald (nx : Nat) : zO := fun lo st h => match st with
  | .int i :: .ref a :: st => if a = 313 ∧ 0 ≤ i.toInt ∧ i.toInt < ((h 400 0).toNatClampNeg : Int) then zgo nx lo (.int (h 313 i.toNatClampNeg) :: st) h else none
  | _ => none
def oSlen (nx : Nat) : zO := fun lo st h => match st with
  | .ref a :: st => if a = 313 then zgo nx lo (.int (h 400 0) :: st) h else none
  | _ => none
def oBald (nx : Nat) : zO := fun lo st h => match st with
  | .int i :: .ref a :: st => if (zsh a).1 = 4 ∧ 0 ≤ i.toInt ∧ i.toInt < ((zsh a).2.2.2.length : Int) then zgo nx lo (.int ((zsh a).2.2.2.getD i.toNatClampNeg 0) :: st) h else none
  | _ => none
def oAald (nx : Nat) : zO := fun lo st h => match st with
  | .int i :: .ref a :: st => if (zsh a).1 = 2 ∧ a < 309 ∧ 0 ≤ i.toInt ∧ i.toInt < ((zsh a).2.2.1.length : Int) then zgo nx lo (.ref ((zsh a).2.2.1.getD i.toNatClampNeg (0, 0)).2 :: st) h else none
  | _ => none
def oIast (nx : Nat) : zO := fun lo st h => match st with
  | .int x :: .int i :: .ref a :: st => if (zsh a).1 = 0 ∧ a < 309 ∧ 0 ≤ i.toInt ∧ i.toInt < ((zsh a).2.1 : Int) then zgo nx lo st (zup h a i.toNatClampNeg x) else none
  | _ => none
def oAlen (nx : Nat) : zO := fun lo st h => match st with
  | .ref a :: st => if (zsh a).1 = 0 ∧ a < 309 then zgo nx lo (.int (Int32.ofNat (zsh a).2.1) :: st) h else if (zsh a).1 = 4 then zgo nx lo (.int (Int32.ofNat (zsh a).2.2.2.length) :: st) h else none
  | _ => none
/-- a text's field value, its field coder -/
def oStrV (nx : Nat) : zO := fun lo st h => match st with
  | .ref a :: st => if (zsh a).1 = 5 then zgo nx lo (.ref (zsh a).2.1 :: st) h else none
  | _ => none
def oStrC (nx : Nat) : zO := fun lo st h => match st with
  | .ref a :: st => if (zsh a).1 = 5 then zgo nx lo (.int 0 :: st) h else none
  | _ => none
def oCpy (nx : Nat) : zO := fun lo st h => match st with
  | .int n :: .int j :: .ref b :: .int i :: .ref a :: st => if ((zsh a).1 = 0 ∧ a < 309 ∧ (zsh b).1 = 0 ∧ b < 309 ∧ zok4 st = true) ∧ 0 ≤ n.toInt ∧ 0 ≤ i.toInt ∧ 0 ≤ j.toInt ∧ i.toInt + n.toInt ≤ ((zsh a).2.1 : Int) ∧ j.toInt + n.toInt ≤ ((zsh b).2.1 : Int) then zgo nx lo st (zcp h a i.toNatClampNeg b j.toNatClampNeg n.toNatClampNeg) else none
  | _ => none
/-- a call: arguments off the stack, the receiver (ci: its class; 99: a text) first; ci 98: none -/
def zrc (ci : Nat) (as : List Value) : Bool := if ci = 98 then true else match as with
  | .ref a :: _ => if ci = 99 then (zsh a).1 == 5 else (zsh a).1 == 1 && (zsh a).2.1 == ci && Nat.blt a 309
  | _ => false
def zcl (ci k : Nat) (as : List Value) (nx : Nat) (lo : zL) (st : List Value) (h : zH) : zR := if zok4 st = true ∧ zrc ci as = true then zask k as nx lo st h else none
def oC0 (ci k nx : Nat) : zO := fun lo st h => zcl ci k [] nx lo st h
def oC1 (ci k nx : Nat) : zO := fun lo st h => match st with
  | a :: st => zcl ci k [a] nx lo st h
  | _ => none
def oC2 (ci k nx : Nat) : zO := fun lo st h => match st with
  | b :: a :: st => zcl ci k [a, b] nx lo st h
  | _ => none
def oC3 (ci k nx : Nat) : zO := fun lo st h => match st with
  | c :: b :: a :: st => zcl ci k [a, b, c] nx lo st h
  | _ => none
def oC4 (ci k nx : Nat) : zO := fun lo st h => match st with
  | d :: c :: b :: a :: st => zcl ci k [a, b, c, d] nx lo st h
  | _ => none
def oC5 (ci k nx : Nat) : zO := fun lo st h => match st with
  | e :: d :: c :: b :: a :: st => zcl ci k [a, b, c, d, e] nx lo st h
  | _ => none
def oC6 (ci k nx : Nat) : zO := fun lo st h => match st with
  | f :: e :: d :: c :: b :: a :: st => zcl ci k [a, b, c, d, e, f] nx lo st h
  | _ => none
def oRet : zO := fun _ st h => match st with
  | [] => zend none h
  | _ => none
def oIret : zO := fun _ st h => match st with
  | [.int x] => zend (some (.int x)) h
  | _ => none
/-- of a method that answers a boolean or a byte -/
def oZret : zO := fun _ st h => match st with
  | [.int x] => if x = 0 ∨ x = 1 then zend (some (.int x)) h else none
  | _ => none
def oAret : zO := fun _ st h => match st with
  | [.ref x] => zend (some (.ref x)) h
  | _ => none
/-- a row of instructions by their places -/
def zlk : List (Nat × zO) → Nat → zO
  | [], _ => fun _ _ _ => none
  | q :: r, pc => if pc = q.1 then q.2 else zlk r pc

