/-! ===== the reference made ===== -/
def ax_Z : ax_M := (fun _ _ => 0, fun _ _ => 0, fun _ _ => 0, fun _ => none, 0)
def x_s : List ((Nat × Nat) ⊕ Nat) := [.inr 9, .inr 6, .inl (0, 600), .inr 7, .inr 5, .inl (0, 6), .inl (0, 60), .inl (0, 10), .inl (0, 10), .inl (0, 2), .inl (0, 2), .inl (0, 2), .inr 2, .inl (0, 150), .inl (0, 40), .inr 2, .inl (0, 150), .inl (0, 40), .inr 2, .inl (0, 150), .inl (0, 40), .inl (0, 12), .inr 5, .inl (0, 6), .inl (0, 60), .inl (0, 10), .inl (0, 10), .inl (0, 2), .inl (0, 2), .inl (0, 2), .inr 2, .inl (0, 150), .inl (0, 40), .inr 0, .inl (0, 12), .inl (0, 12), .inr 0, .inl (0, 12), .inl (0, 12), .inr 4, .inr 8, .inl (0, 99), .inl (0, 99), .inl (0, 99), .inl (0, 99), .inl (0, 99), .inl (0, 99), .inr 8, .inl (0, 99), .inl (0, 99), .inl (0, 99), .inl (0, 99), .inl (0, 99), .inl (0, 99), .inl (0, 99), .inr 4, .inr 8, .inl (0, 99), .inl (0, 99), .inl (0, 99), .inl (0, 99), .inl (0, 99), .inl (0, 99), .inr 8, .inl (0, 99), .inl (0, 99), .inl (0, 99), .inl (0, 99), .inl (0, 99), .inl (0, 99), .inl (0, 99), .inr 3, .inl (0, 441), .inl (0, 441), .inr 3, .inl (0, 441), .inl (0, 441), .inl (0, 21), .inr 1, .inl (0, 20), .inl (0, 20), .inl (0, 20), .inl (0, 20), .inl (2, 3), .inl (0, 106), .inl (0, 106), .inl (0, 106), .inl (0, 3), .inl (0, 3), .inr 10]
def x_r : List (Nat × Nat × Nat) := [(1, 14, 89), (1, 13, 79), (79, 6, 88), (79, 5, 84), (84, 0, 85), (84, 1, 86), (84, 2, 87), (79, 3, 83), (79, 2, 82), (79, 1, 81), (79, 0, 80), (1, 12, 78), (1, 11, 75), (75, 1, 77), (75, 0, 76), (1, 9, 72), (72, 1, 74), (72, 0, 73), (1, 8, 56), (56, 2, 71), (56, 1, 64), (64, 15, 70), (64, 14, 69), (64, 13, 68), (64, 12, 67), (64, 11, 66), (64, 10, 65), (56, 0, 57), (57, 15, 63), (57, 14, 62), (57, 13, 61), (57, 12, 60), (57, 11, 59), (57, 10, 58), (1, 6, 40), (40, 2, 55), (40, 1, 48), (48, 15, 54), (48, 14, 53), (48, 13, 52), (48, 12, 51), (48, 11, 50), (48, 10, 49), (40, 0, 41), (41, 15, 47), (41, 14, 46), (41, 13, 45), (41, 12, 44), (41, 11, 43), (41, 10, 42), (1, 5, 37), (37, 1, 39), (37, 0, 38), (1, 4, 34), (34, 1, 36), (34, 0, 35), (1, 3, 31), (31, 2, 33), (31, 0, 32), (1, 2, 23), (23, 15, 30), (23, 14, 29), (23, 13, 28), (23, 7, 27), (23, 6, 26), (23, 4, 25), (23, 1, 24), (1, 1, 4), (4, 4, 22), (4, 3, 19), (19, 2, 21), (19, 0, 20), (4, 2, 16), (16, 2, 18), (16, 0, 17), (4, 1, 13), (13, 2, 15), (13, 0, 14), (4, 0, 5), (5, 15, 12), (5, 14, 11), (5, 13, 10), (5, 7, 9), (5, 6, 8), (5, 4, 7), (5, 1, 6), (1, 0, 2), (2, 0, 3)]
def x_w : List (Nat × Nat × Int32) := [(79, 7, 0), (79, 4, 0), (1, 10, (-1)), (56, 4, (-1)), (56, 3, 0), (64, 1, (if 1 = 0 then 1 else (-1))), (64, 0, 1), (64, 9, 0), (64, 8, 0), (64, 7, 1), (64, 6, 0), (64, 5, 0), (64, 4, 0), (64, 3, 0), (64, 2, 0), (57, 1, (if 0 = 0 then 1 else (-1))), (57, 0, 0), (57, 9, 0), (57, 8, 0), (57, 7, 1), (57, 6, 0), (57, 5, 0), (57, 4, 0), (57, 3, 0), (57, 2, 0), (1, 7, 0), (40, 4, (-1)), (40, 3, 0), (48, 1, (if 1 = 0 then 1 else (-1))), (48, 0, 1), (48, 9, 0), (48, 8, 0), (48, 7, 1), (48, 6, 0), (48, 5, 0), (48, 4, 0), (48, 3, 0), (48, 2, 0), (41, 1, (if 0 = 0 then 1 else (-1))), (41, 0, 0), (41, 9, 0), (41, 8, 0), (41, 7, 1), (41, 6, 0), (41, 5, 0), (41, 4, 0), (41, 3, 0), (41, 2, 0), (37, 2, 0), (34, 2, 0), (31, 1, 0), (23, 16, 0), (23, 12, 6), (23, 11, 20), (23, 10, 4), (23, 9, 0), (23, 8, 0), (23, 5, 0), (23, 3, 0), (23, 2, 0), (23, 0, 40), (19, 1, 3), (20, 2, 1), (19, 1, 2), (20, 1, 1012), (19, 1, 1), (20, 0, 108), (19, 1, 0), (16, 1, 3), (17, 2, 1), (16, 1, 2), (17, 1, 1012), (16, 1, 1), (17, 0, 108), (16, 1, 0), (13, 1, 7), (14, 6, 3), (13, 1, 6), (14, 5, 0), (13, 1, 5), (14, 4, 1001), (13, 1, 4), (14, 3, 102), (13, 1, 3), (14, 2, 1), (13, 1, 2), (14, 1, 101), (13, 1, 1), (14, 0, 100), (13, 1, 0), (19, 1, 0), (16, 1, 0), (13, 1, 0), (5, 16, 0), (5, 12, 6), (5, 11, 20), (5, 10, 4), (5, 9, 0), (5, 8, 0), (5, 5, 0), (5, 3, 0), (5, 2, 0), (5, 0, 40), (2, 8, (-1)), (2, 7, 0), (2, 6, 0), (2, 5, 0), (2, 4, 0), (2, 3, 0), (2, 2, 0), (2, 1, 0)]
def all_s : List ((Nat × Nat) ⊕ Nat) := [.inr 9, .inr 6, .inl (0, 600), .inr 7, .inr 5, .inl (0, 6), .inl (0, 60), .inl (0, 10), .inl (0, 10), .inl (0, 2), .inl (0, 2), .inl (0, 2), .inr 2, .inl (0, 150), .inl (0, 40), .inr 2, .inl (0, 150), .inl (0, 40), .inr 2, .inl (0, 150), .inl (0, 40), .inl (0, 12), .inr 5, .inl (0, 6), .inl (0, 60), .inl (0, 10), .inl (0, 10), .inl (0, 2), .inl (0, 2), .inl (0, 2), .inr 2, .inl (0, 150), .inl (0, 40), .inr 0, .inl (0, 12), .inl (0, 12), .inr 0, .inl (0, 12), .inl (0, 12), .inr 4, .inr 8, .inl (0, 99), .inl (0, 99), .inl (0, 99), .inl (0, 99), .inl (0, 99), .inl (0, 99), .inr 8, .inl (0, 99), .inl (0, 99), .inl (0, 99), .inl (0, 99), .inl (0, 99), .inl (0, 99), .inl (0, 99), .inr 4, .inr 8, .inl (0, 99), .inl (0, 99), .inl (0, 99), .inl (0, 99), .inl (0, 99), .inl (0, 99), .inr 8, .inl (0, 99), .inl (0, 99), .inl (0, 99), .inl (0, 99), .inl (0, 99), .inl (0, 99), .inl (0, 99), .inr 3, .inl (0, 441), .inl (0, 441), .inr 3, .inl (0, 441), .inl (0, 441), .inl (0, 21), .inr 1, .inl (0, 20), .inl (0, 20), .inl (0, 20), .inl (0, 20), .inl (2, 3), .inl (0, 106), .inl (0, 106), .inl (0, 106), .inl (0, 3), .inl (0, 3), .inr 10, .inl (0, 600), .inl (0, 3), .inl (0, 7), .inl (0, 7), .inl (0, 2), .inl (0, 2), .inl (0, 6), .inl (0, 6), .inl (0, 26), .inl (0, 26), .inl (2, 4), .inl (0, 2), .inl (0, 2), .inl (0, 2), .inl (0, 2), .inl (2, 4), .inl (0, 2), .inl (0, 2), .inl (0, 2), .inl (0, 2), .inl (0, 3), .inl (2, 3), .inl (0, 320), .inl (0, 320), .inl (0, 320), .inl (0, 320), .inl (0, 160), .inl (0, 12), .inl (2, 12), .inl (0, 2), .inl (0, 2), .inl (0, 2), .inl (0, 2), .inl (0, 2), .inl (0, 2), .inl (0, 2), .inl (0, 2), .inl (0, 2), .inl (0, 2), .inl (0, 2), .inl (0, 2), .inl (2, 12), .inl (0, 2), .inl (0, 2), .inl (0, 2), .inl (0, 2), .inl (0, 2), .inl (0, 2), .inl (0, 2), .inl (0, 2), .inl (0, 2), .inl (0, 2), .inl (0, 2), .inl (0, 2), .inl (2, 20), .inl (0, 26), .inl (0, 26), .inl (0, 26), .inl (0, 26), .inl (0, 26), .inl (0, 26), .inl (0, 26), .inl (0, 26), .inl (0, 26), .inl (0, 26), .inl (0, 26), .inl (0, 26), .inl (0, 26), .inl (0, 26), .inl (0, 26), .inl (0, 26), .inl (0, 26), .inl (0, 26), .inl (0, 26), .inl (0, 26), .inl (2, 3), .inl (0, 547), .inl (0, 547), .inl (0, 547), .inl (3, 2), .inl (2, 99), .inl (0, 6), .inl (0, 6), .inl (0, 6), .inl (0, 6), .inl (0, 6), .inl (0, 6), .inl (0, 6), .inl (0, 6), .inl (0, 6), .inl (0, 6), .inl (0, 6), .inl (0, 6), .inl (0, 6), .inl (0, 6), .inl (0, 6), .inl (0, 6), .inl (0, 6), .inl (0, 6), .inl (0, 6), .inl (0, 6), .inl (0, 6), .inl (0, 6), .inl (0, 6), .inl (0, 6), .inl (0, 6), .inl (0, 6), .inl (0, 6), .inl (0, 6), .inl (0, 6), .inl (0, 6), .inl (0, 6), .inl (0, 6), .inl (0, 6), .inl (0, 6), .inl (0, 6), .inl (0, 6), .inl (0, 6), .inl (0, 6), .inl (0, 6), .inl (0, 6), .inl (0, 6), .inl (0, 6), .inl (0, 6), .inl (0, 6), .inl (0, 6), .inl (0, 6), .inl (0, 6), .inl (0, 6), .inl (0, 6), .inl (0, 6), .inl (0, 6), .inl (0, 6), .inl (0, 6), .inl (0, 6), .inl (0, 6), .inl (0, 6), .inl (0, 6), .inl (0, 6), .inl (0, 6), .inl (0, 6), .inl (0, 6), .inl (0, 6), .inl (0, 6), .inl (0, 6), .inl (0, 6), .inl (0, 6), .inl (0, 6), .inl (0, 6), .inl (0, 6), .inl (0, 6), .inl (0, 6), .inl (0, 6), .inl (0, 6), .inl (0, 6), .inl (0, 6), .inl (0, 6), .inl (0, 6), .inl (0, 6), .inl (0, 6), .inl (0, 6), .inl (0, 6), .inl (0, 6), .inl (0, 6), .inl (0, 6), .inl (0, 6), .inl (0, 6), .inl (0, 6), .inl (0, 6), .inl (0, 6), .inl (0, 6), .inl (0, 6), .inl (0, 6), .inl (0, 6), .inl (0, 6), .inl (0, 6), .inl (0, 6), .inl (0, 6), .inl (0, 6), .inl (0, 6), .inl (2, 99), .inl (0, 6), .inl (0, 6), .inl (0, 6), .inl (0, 6), .inl (0, 6), .inl (0, 6), .inl (0, 6), .inl (0, 6), .inl (0, 6), .inl (0, 6), .inl (0, 6), .inl (0, 6), .inl (0, 6), .inl (0, 6), .inl (0, 6), .inl (0, 6), .inl (0, 6), .inl (0, 6), .inl (0, 6), .inl (0, 6), .inl (0, 6), .inl (0, 6), .inl (0, 6), .inl (0, 6), .inl (0, 6), .inl (0, 6), .inl (0, 6), .inl (0, 6), .inl (0, 6), .inl (0, 6), .inl (0, 6), .inl (0, 6), .inl (0, 6), .inl (0, 6), .inl (0, 6), .inl (0, 6), .inl (0, 6), .inl (0, 6), .inl (0, 6), .inl (0, 6), .inl (0, 6), .inl (0, 6), .inl (0, 6), .inl (0, 6), .inl (0, 6), .inl (0, 6), .inl (0, 6), .inl (0, 6), .inl (0, 6), .inl (0, 6), .inl (0, 6), .inl (0, 6), .inl (0, 6), .inl (0, 6), .inl (0, 6), .inl (0, 6), .inl (0, 6), .inl (0, 6), .inl (0, 6), .inl (0, 6), .inl (0, 6), .inl (0, 6), .inl (0, 6), .inl (0, 6), .inl (0, 6), .inl (0, 6), .inl (0, 6), .inl (0, 6), .inl (0, 6), .inl (0, 6), .inl (0, 6), .inl (0, 6), .inl (0, 6), .inl (0, 6), .inl (0, 6), .inl (0, 6), .inl (0, 6), .inl (0, 6), .inl (0, 6), .inl (0, 6), .inl (0, 6), .inl (0, 6), .inl (0, 6), .inl (0, 6), .inl (0, 6), .inl (0, 6), .inl (0, 6), .inl (0, 6), .inl (0, 6), .inl (0, 6), .inl (0, 6), .inl (0, 6), .inl (0, 6), .inl (0, 6), .inl (0, 6), .inl (0, 6), .inl (0, 6), .inl (0, 6), .inl (0, 6), .inl (2, 2), .inl (0, 10), .inl (0, 10), .inl (2, 2), .inl (0, 10), .inl (0, 10), .inl (0, 2), .inl (0, 2), .inl (0, 2), .inl (0, 2), .inl (0, 2), .inl (0, 2), .inl (0, 2), .inl (3, 2), .inl (2, 21), .inl (0, 21), .inl (0, 21), .inl (0, 21), .inl (0, 21), .inl (0, 21), .inl (0, 21), .inl (0, 21), .inl (0, 21), .inl (0, 21), .inl (0, 21), .inl (0, 21), .inl (0, 21), .inl (0, 21), .inl (0, 21), .inl (0, 21), .inl (0, 21), .inl (0, 21), .inl (0, 21), .inl (0, 21), .inl (0, 21), .inl (0, 21), .inl (2, 21), .inl (0, 21), .inl (0, 21), .inl (0, 21), .inl (0, 21), .inl (0, 21), .inl (0, 21), .inl (0, 21), .inl (0, 21), .inl (0, 21), .inl (0, 21), .inl (0, 21), .inl (0, 21), .inl (0, 21), .inl (0, 21), .inl (0, 21), .inl (0, 21), .inl (0, 21), .inl (0, 21), .inl (0, 21), .inl (0, 21), .inl (0, 21), .inl (0, 21), .inl (0, 99), .inl (0, 26)]
def all_r : List (Nat × Nat × Nat) := [(90, 51, 431), (90, 50, 430), (90, 49, 429), (90, 48, 384), (385, 0, 386), (385, 1, 387), (385, 2, 388), (385, 3, 389), (385, 4, 390), (385, 5, 391), (385, 6, 392), (385, 7, 393), (385, 8, 394), (385, 9, 395), (385, 10, 396), (385, 11, 397), (385, 12, 398), (385, 13, 399), (385, 14, 400), (385, 15, 401), (385, 16, 402), (385, 17, 403), (385, 18, 404), (385, 19, 405), (385, 20, 406), (407, 0, 408), (407, 1, 409), (407, 2, 410), (407, 3, 411), (407, 4, 412), (407, 5, 413), (407, 6, 414), (407, 7, 415), (407, 8, 416), (407, 9, 417), (407, 10, 418), (407, 11, 419), (407, 12, 420), (407, 13, 421), (407, 14, 422), (407, 15, 423), (407, 16, 424), (407, 17, 425), (407, 18, 426), (407, 19, 427), (407, 20, 428), (384, 0, 385), (384, 1, 407), (90, 45, 383), (90, 44, 382), (90, 43, 381), (90, 42, 380), (90, 41, 379), (90, 40, 378), (90, 39, 377), (90, 38, 374), (374, 0, 375), (374, 1, 376), (90, 37, 371), (371, 0, 372), (371, 1, 373), (90, 36, 170), (171, 0, 172), (171, 1, 173), (171, 2, 174), (171, 3, 175), (171, 4, 176), (171, 5, 177), (171, 6, 178), (171, 7, 179), (171, 8, 180), (171, 9, 181), (171, 10, 182), (171, 11, 183), (171, 12, 184), (171, 13, 185), (171, 14, 186), (171, 15, 187), (171, 16, 188), (171, 17, 189), (171, 18, 190), (171, 19, 191), (171, 20, 192), (171, 21, 193), (171, 22, 194), (171, 23, 195), (171, 24, 196), (171, 25, 197), (171, 26, 198), (171, 27, 199), (171, 28, 200), (171, 29, 201), (171, 30, 202), (171, 31, 203), (171, 32, 204), (171, 33, 205), (171, 34, 206), (171, 35, 207), (171, 36, 208), (171, 37, 209), (171, 38, 210), (171, 39, 211), (171, 40, 212), (171, 41, 213), (171, 42, 214), (171, 43, 215), (171, 44, 216), (171, 45, 217), (171, 46, 218), (171, 47, 219), (171, 48, 220), (171, 49, 221), (171, 50, 222), (171, 51, 223), (171, 52, 224), (171, 53, 225), (171, 54, 226), (171, 55, 227), (171, 56, 228), (171, 57, 229), (171, 58, 230), (171, 59, 231), (171, 60, 232), (171, 61, 233), (171, 62, 234), (171, 63, 235), (171, 64, 236), (171, 65, 237), (171, 66, 238), (171, 67, 239), (171, 68, 240), (171, 69, 241), (171, 70, 242), (171, 71, 243), (171, 72, 244), (171, 73, 245), (171, 74, 246), (171, 75, 247), (171, 76, 248), (171, 77, 249), (171, 78, 250), (171, 79, 251), (171, 80, 252), (171, 81, 253), (171, 82, 254), (171, 83, 255), (171, 84, 256), (171, 85, 257), (171, 86, 258), (171, 87, 259), (171, 88, 260), (171, 89, 261), (171, 90, 262), (171, 91, 263), (171, 92, 264), (171, 93, 265), (171, 94, 266), (171, 95, 267), (171, 96, 268), (171, 97, 269), (171, 98, 270), (271, 0, 272), (271, 1, 273), (271, 2, 274), (271, 3, 275), (271, 4, 276), (271, 5, 277), (271, 6, 278), (271, 7, 279), (271, 8, 280), (271, 9, 281), (271, 10, 282), (271, 11, 283), (271, 12, 284), (271, 13, 285), (271, 14, 286), (271, 15, 287), (271, 16, 288), (271, 17, 289), (271, 18, 290), (271, 19, 291), (271, 20, 292), (271, 21, 293), (271, 22, 294), (271, 23, 295), (271, 24, 296), (271, 25, 297), (271, 26, 298), (271, 27, 299), (271, 28, 300), (271, 29, 301), (271, 30, 302), (271, 31, 303), (271, 32, 304), (271, 33, 305), (271, 34, 306), (271, 35, 307), (271, 36, 308), (271, 37, 309), (271, 38, 310), (271, 39, 311), (271, 40, 312), (271, 41, 313), (271, 42, 314), (271, 43, 315), (271, 44, 316), (271, 45, 317), (271, 46, 318), (271, 47, 319), (271, 48, 320), (271, 49, 321), (271, 50, 322), (271, 51, 323), (271, 52, 324), (271, 53, 325), (271, 54, 326), (271, 55, 327), (271, 56, 328), (271, 57, 329), (271, 58, 330), (271, 59, 331), (271, 60, 332), (271, 61, 333), (271, 62, 334), (271, 63, 335), (271, 64, 336), (271, 65, 337), (271, 66, 338), (271, 67, 339), (271, 68, 340), (271, 69, 341), (271, 70, 342), (271, 71, 343), (271, 72, 344), (271, 73, 345), (271, 74, 346), (271, 75, 347), (271, 76, 348), (271, 77, 349), (271, 78, 350), (271, 79, 351), (271, 80, 352), (271, 81, 353), (271, 82, 354), (271, 83, 355), (271, 84, 356), (271, 85, 357), (271, 86, 358), (271, 87, 359), (271, 88, 360), (271, 89, 361), (271, 90, 362), (271, 91, 363), (271, 92, 364), (271, 93, 365), (271, 94, 366), (271, 95, 367), (271, 96, 368), (271, 97, 369), (271, 98, 370), (170, 0, 171), (170, 1, 271), (90, 31, 166), (166, 0, 167), (166, 1, 168), (166, 2, 169), (90, 30, 145), (145, 0, 146), (145, 1, 147), (145, 2, 148), (145, 3, 149), (145, 4, 150), (145, 5, 151), (145, 6, 152), (145, 7, 153), (145, 8, 154), (145, 9, 155), (145, 10, 156), (145, 11, 157), (145, 12, 158), (145, 13, 159), (145, 14, 160), (145, 15, 161), (145, 16, 162), (145, 17, 163), (145, 18, 164), (145, 19, 165), (90, 29, 132), (132, 0, 133), (132, 1, 134), (132, 2, 135), (132, 3, 136), (132, 4, 137), (132, 5, 138), (132, 6, 139), (132, 7, 140), (132, 8, 141), (132, 9, 142), (132, 10, 143), (132, 11, 144), (90, 28, 119), (119, 0, 120), (119, 1, 121), (119, 2, 122), (119, 3, 123), (119, 4, 124), (119, 5, 125), (119, 6, 126), (119, 7, 127), (119, 8, 128), (119, 9, 129), (119, 10, 130), (119, 11, 131), (90, 27, 118), (90, 26, 117), (90, 25, 116), (90, 24, 112), (112, 0, 113), (112, 1, 114), (112, 2, 115), (90, 22, 111), (90, 20, 106), (106, 0, 107), (106, 1, 108), (106, 2, 109), (106, 3, 110), (90, 19, 101), (101, 0, 102), (101, 1, 103), (101, 2, 104), (101, 3, 105), (90, 18, 100), (90, 17, 99), (90, 16, 98), (90, 15, 97), (90, 14, 96), (90, 13, 95), (90, 12, 94), (90, 11, 93), (90, 10, 92), (90, 9, 91), (1, 14, 89), (1, 13, 79), (79, 6, 88), (79, 5, 84), (84, 0, 85), (84, 1, 86), (84, 2, 87), (79, 3, 83), (79, 2, 82), (79, 1, 81), (79, 0, 80), (1, 12, 78), (1, 11, 75), (75, 1, 77), (75, 0, 76), (1, 9, 72), (72, 1, 74), (72, 0, 73), (1, 8, 56), (56, 2, 71), (56, 1, 64), (64, 15, 70), (64, 14, 69), (64, 13, 68), (64, 12, 67), (64, 11, 66), (64, 10, 65), (56, 0, 57), (57, 15, 63), (57, 14, 62), (57, 13, 61), (57, 12, 60), (57, 11, 59), (57, 10, 58), (1, 6, 40), (40, 2, 55), (40, 1, 48), (48, 15, 54), (48, 14, 53), (48, 13, 52), (48, 12, 51), (48, 11, 50), (48, 10, 49), (40, 0, 41), (41, 15, 47), (41, 14, 46), (41, 13, 45), (41, 12, 44), (41, 11, 43), (41, 10, 42), (1, 5, 37), (37, 1, 39), (37, 0, 38), (1, 4, 34), (34, 1, 36), (34, 0, 35), (1, 3, 31), (31, 2, 33), (31, 0, 32), (1, 2, 23), (23, 15, 30), (23, 14, 29), (23, 13, 28), (23, 7, 27), (23, 6, 26), (23, 4, 25), (23, 1, 24), (1, 1, 4), (4, 4, 22), (4, 3, 19), (19, 2, 21), (19, 0, 20), (4, 2, 16), (16, 2, 18), (16, 0, 17), (4, 1, 13), (13, 2, 15), (13, 0, 14), (4, 0, 5), (5, 15, 12), (5, 14, 11), (5, 13, 10), (5, 7, 9), (5, 6, 8), (5, 4, 7), (5, 1, 6), (1, 0, 2), (2, 0, 3)]
def all_w : List (Nat × Nat × Int32) := [(90, 3, (-1)), (79, 7, 0), (79, 4, 0), (1, 10, (-1)), (56, 4, (-1)), (56, 3, 0), (64, 1, (if 1 = 0 then 1 else (-1))), (64, 0, 1), (64, 9, 0), (64, 8, 0), (64, 7, 1), (64, 6, 0), (64, 5, 0), (64, 4, 0), (64, 3, 0), (64, 2, 0), (57, 1, (if 0 = 0 then 1 else (-1))), (57, 0, 0), (57, 9, 0), (57, 8, 0), (57, 7, 1), (57, 6, 0), (57, 5, 0), (57, 4, 0), (57, 3, 0), (57, 2, 0), (1, 7, 0), (40, 4, (-1)), (40, 3, 0), (48, 1, (if 1 = 0 then 1 else (-1))), (48, 0, 1), (48, 9, 0), (48, 8, 0), (48, 7, 1), (48, 6, 0), (48, 5, 0), (48, 4, 0), (48, 3, 0), (48, 2, 0), (41, 1, (if 0 = 0 then 1 else (-1))), (41, 0, 0), (41, 9, 0), (41, 8, 0), (41, 7, 1), (41, 6, 0), (41, 5, 0), (41, 4, 0), (41, 3, 0), (41, 2, 0), (37, 2, 0), (34, 2, 0), (31, 1, 0), (23, 16, 0), (23, 12, 6), (23, 11, 20), (23, 10, 4), (23, 9, 0), (23, 8, 0), (23, 5, 0), (23, 3, 0), (23, 2, 0), (23, 0, 40), (19, 1, 3), (20, 2, 1), (19, 1, 2), (20, 1, 1012), (19, 1, 1), (20, 0, 108), (19, 1, 0), (16, 1, 3), (17, 2, 1), (16, 1, 2), (17, 1, 1012), (16, 1, 1), (17, 0, 108), (16, 1, 0), (13, 1, 7), (14, 6, 3), (13, 1, 6), (14, 5, 0), (13, 1, 5), (14, 4, 1001), (13, 1, 4), (14, 3, 102), (13, 1, 3), (14, 2, 1), (13, 1, 2), (14, 1, 101), (13, 1, 1), (14, 0, 100), (13, 1, 0), (19, 1, 0), (16, 1, 0), (13, 1, 0), (5, 16, 0), (5, 12, 6), (5, 11, 20), (5, 10, 4), (5, 9, 0), (5, 8, 0), (5, 5, 0), (5, 3, 0), (5, 2, 0), (5, 0, 40), (2, 8, (-1)), (2, 7, 0), (2, 6, 0), (2, 5, 0), (2, 4, 0), (2, 3, 0), (2, 2, 0), (2, 1, 0)]
theorem all_lo : lo_shl = none :: (all_s.map some ++ [some (.inl (1, 1))]) := by decide +kernel
theorem all_ro : lo_rfl.all (fun q => decide (q ∈ all_r)) = true := by decide +kernel
def lp_ok (N : ax_N) : Prop := (∀ n x, n ≠ 432 → lo_sh n = some x → N.2.2.1 n = some x) ∧ ∀ q ∈ lo_rfl, N.1 q.1 q.2.1 = q.2.2
theorem lp_s {M : ax_M} (h : lp_ok M.2) (n : Nat) {x : (Nat × Nat) ⊕ Nat} (hx : lo_sh n = some x) (hn : n ≠ 432 := by decide) : M.2.2.2.1 n = some x := h.1 n x hn hx
theorem lp_r {M : ax_M} (h : lp_ok M.2) (i : Nat) {q : Nat × Nat × Nat} (hq : lo_rfl[i]? = some q) : M.2.1 q.1 q.2.1 = q.2.2 := h.2 q (List.mem_of_getElem? hq)
theorem lp_w_m_readWet {M : ax_M} (h : lp_ok M.2) {i : Nat} (hi : i < 4) : M.2.1 101 i = 102 + i := h.2 (101, i, 102 + i) ((show ∀ i, i < 4 → (101, i, 102 + i) ∈ lo_rfl by decide +kernel) i hi)
theorem lp_z_m_readWet {M : ax_M} (h : lp_ok M.2) {i : Nat} (hi : i < 4) : M.2.2.2.1 (102 + i) = some (.inl (0, 2)) := h.1 (102 + i) _ (by omega) ((show ∀ i, i < 4 → lo_sh (102 + i) = some (.inl (0, 2)) by decide +kernel) i hi)
theorem lp_w_m_wet {M : ax_M} (h : lp_ok M.2) {i : Nat} (hi : i < 4) : M.2.1 106 i = 107 + i := h.2 (106, i, 107 + i) ((show ∀ i, i < 4 → (106, i, 107 + i) ∈ lo_rfl by decide +kernel) i hi)
theorem lp_z_m_wet {M : ax_M} (h : lp_ok M.2) {i : Nat} (hi : i < 4) : M.2.2.2.1 (107 + i) = some (.inl (0, 2)) := h.1 (107 + i) _ (by omega) ((show ∀ i, i < 4 → lo_sh (107 + i) = some (.inl (0, 2)) by decide +kernel) i hi)
theorem all_len : all_s.length = 431 := by decide +kernel
theorem lp_of {A : ax_M} (h : ic ax_Z A 0 all_s all_r all_w) : lp_ok A.2 := by
  obtain ⟨-, -, -, h4, h5, -⟩ := h
  refine ⟨fun n x hn hx => ?_, fun q hq => ?_⟩
  · unfold lo_sh at hx
    rw [all_lo] at hx
    cases n with
    | zero => cases hx
    | succ j =>
      rw [List.getElem?_cons_succ] at hx
      by_cases hj : j < 431
      · rw [List.getElem?_append_left (by rw [List.length_map, all_len]; exact hj), List.getElem?_map] at hx
        cases e : all_s[j]? with
        | none => rw [e] at hx; cases hx
        | some y =>
          rw [e] at hx
          have := h4 j y e
          rw [show 0 + 1 + j = j + 1 by omega] at this
          rw [this]; exact hx
      · rw [List.getElem?_append_right (by rw [List.length_map, all_len]; omega), List.length_map, all_len, List.getElem?_eq_none (by show 1 ≤ j - 431; omega)] at hx
        cases hx
  · have := List.all_eq_true.mp all_ro q hq
    have := h5 q (of_decide_eq_true this)
    rw [Nat.zero_add, Nat.zero_add] at this
    exact this
section MY9
variable {l : Launch} {G : ax_G} {d : Nat} {M : ax_M}
theorem p_X10_tellsNothing (hok : lp_ok M.2) : ax_Met l G kX10_tellsNothing d 0 0 M [av_r 90] (fun o M2 => o = .inl none ∧ M2 = mk_tells M) := by
  refine ax_body (by decide) (Nat.le_of_ble_eq_true rfl) ?_
  have loop2 : ∀ (M1 : ax_M), lp_ok M1.2 → ax_pI (ax_pI (ax_fill M1 99 0 26 0) 99 25 4) 90 21 0 = mk_tells M → ∀ (q i : Nat), i + q = 26 → ax_W l G kX10_tellsNothing (ax_FQ G (fun o M2 => o = .inl none ∧ M2 = mk_tells M)) d 0 0 (ax_fill M1 99 0 i 0) 47 [some (av_r 90), some (av_i (nI i))] [] := by
    intro M1 hok hM1 q
    induction q with
    | zero =>
      intro i hi
      rw [show i = 26 by omega]
      refine ax_iload_n dX10_tellsNothing_47 rfl ?_
      refine ax_bipush (v := 26) dX10_tellsNothing_48 (by decide) ?_
      refine ax_icmp_ge (tgt := 66) dX10_tellsNothing_50 (by decide) (fun hc => ?_) (fun hc => ?_)
      · refine ax_aload_n dX10_tellsNothing_66 rfl ?_
        refine ax_getK (f := 17) 99 dX10_tellsNothing_67 acl_10 wd_1617 (by decide) rfl (lp_s hok 90 rfl) (lp_r hok 88 rfl) ?_
        refine ax_bipush (v := 25) dX10_tellsNothing_70 (by decide) ?_
        refine ax_iconst (v := 4) dX10_tellsNothing_72 (by decide) ?_
        refine ax_iast dX10_tellsNothing_73 (lp_s hok 99 rfl) (by unfold vp_in; decide) ?_
        refine ax_aload_n dX10_tellsNothing_74 rfl ?_
        refine ax_iconst (v := 0) dX10_tellsNothing_75 (by decide) ?_
        refine ax_putI (f := 21) dX10_tellsNothing_76 acl_10 wd_1621 (by decide) rfl rfl (ax_nfZ rfl (by first | decide | (split <;> decide))) (lp_s hok 90 rfl) ?_
        refine ax_vret dX10_tellsNothing_79 rfl ?_
        exact ⟨rfl, hM1⟩
      · exact absurd (by decide) hc
    | succ q ih =>
      intro i hi
      refine ax_iload_n dX10_tellsNothing_47 rfl ?_
      refine ax_bipush (v := 26) dX10_tellsNothing_48 (by decide) ?_
      refine ax_icmp_ge (tgt := 66) dX10_tellsNothing_50 (by decide) (fun hc => ?_) (fun hc => ?_)
      · exact absurd ((nI_leI (a := 26) (by omega) (by omega)).mp hc) (by omega)
      · refine ax_aload_n dX10_tellsNothing_53 rfl ?_
        refine ax_getK (f := 17) 99 dX10_tellsNothing_54 acl_10 wd_1617 (by decide) rfl (lp_s hok 90 rfl) (lp_r hok 88 rfl) ?_
        refine ax_iload_n dX10_tellsNothing_57 rfl ?_
        refine ax_iconst (v := 0) dX10_tellsNothing_58 (by decide) ?_
        refine ax_iast dX10_tellsNothing_59 (lp_s hok 99 rfl) (vp_in_nI (by omega) (by omega)) ?_
        refine ax_iinc (v := 1) dX10_tellsNothing_60 rfl (by decide) (by decide) rfl ?_
        refine ax_goto (tgt := 47) dX10_tellsNothing_63 (by decide) ?_
        rw [nI_clamp (by omega), ax_fill_s (by omega), nI_1]
        exact ih (i + 1) (by omega)
  have loop1 : ∀ (q i : Nat), i + q = 5 → 1 ≤ i → ax_W l G kX10_tellsNothing (ax_FQ G (fun o M2 => o = .inl none ∧ M2 = mk_tells M)) d 0 0 (ax_fill (ax_pI M 93 0 40) 93 1 i 0) 10 [some (av_r 90), some (av_i (nI i))] [] := by
    intro q
    induction q with
    | zero =>
      intro i hi h1
      rw [show i = 5 by omega]
      refine ax_iload_n dX10_tellsNothing_10 rfl ?_
      refine ax_iconst (v := 5) dX10_tellsNothing_11 (by decide) ?_
      refine ax_icmp_ge (tgt := 28) dX10_tellsNothing_12 (by decide) (fun hc => ?_) (fun hc => ?_)
      · refine ax_aload_n dX10_tellsNothing_28 rfl ?_
        refine ax_getK (f := 11) 93 dX10_tellsNothing_29 acl_10 wd_1611 (by decide) rfl (lp_s hok 90 rfl) (lp_r hok 82 rfl) ?_
        refine ax_iconst (v := 5) dX10_tellsNothing_32 (by decide) ?_
        refine ax_bipush (v := 20) dX10_tellsNothing_33 (by decide) ?_
        refine ax_iast dX10_tellsNothing_35 (lp_s hok 93 rfl) (by unfold vp_in; decide) ?_
        refine ax_aload_n dX10_tellsNothing_36 rfl ?_
        refine ax_getK (f := 11) 93 dX10_tellsNothing_37 acl_10 wd_1611 (by decide) rfl (lp_s hok 90 rfl) (lp_r hok 82 rfl) ?_
        refine ax_bipush (v := 6) dX10_tellsNothing_40 (by decide) ?_
        refine ax_bipush (v := 6) dX10_tellsNothing_42 (by decide) ?_
        refine ax_iast dX10_tellsNothing_44 (lp_s hok 93 rfl) (by unfold vp_in; decide) ?_
        refine ax_iconst (v := 0) dX10_tellsNothing_45 (by decide) ?_
        refine ax_istore_n dX10_tellsNothing_46 (by decide) rfl ?_
        have h := loop2 (ax_pI (ax_pI (ax_fill (ax_pI M 93 0 40) 93 1 5 0) 93 5 20) 93 6 6) hok rfl 26 0 rfl
        rw [ax_fill_0] at h
        exact h
      · exact absurd (by decide) hc
    | succ q ih =>
      intro i hi h1
      refine ax_iload_n dX10_tellsNothing_10 rfl ?_
      refine ax_iconst (v := 5) dX10_tellsNothing_11 (by decide) ?_
      refine ax_icmp_ge (tgt := 28) dX10_tellsNothing_12 (by decide) (fun hc => ?_) (fun hc => ?_)
      · exact absurd ((nI_leI (a := 5) (by omega) (by omega)).mp hc) (by omega)
      · refine ax_aload_n dX10_tellsNothing_15 rfl ?_
        refine ax_getK (f := 11) 93 dX10_tellsNothing_16 acl_10 wd_1611 (by decide) rfl (lp_s hok 90 rfl) (lp_r hok 82 rfl) ?_
        refine ax_iload_n dX10_tellsNothing_19 rfl ?_
        refine ax_iconst (v := 0) dX10_tellsNothing_20 (by decide) ?_
        refine ax_iast dX10_tellsNothing_21 (lp_s hok 93 rfl) (vp_in_nI (by omega) (by omega)) ?_
        refine ax_iinc (v := 1) dX10_tellsNothing_22 rfl (by decide) (by decide) rfl ?_
        refine ax_goto (tgt := 10) dX10_tellsNothing_25 (by decide) ?_
        rw [nI_clamp (by omega), ax_fill_s (by omega), nI_1]
        exact ih (i + 1) (by omega) (by omega)
  refine ax_aload_n dX10_tellsNothing_0 rfl ?_
  refine ax_getK (f := 11) 93 dX10_tellsNothing_1 acl_10 wd_1611 (by decide) rfl (lp_s hok 90 rfl) (lp_r hok 82 rfl) ?_
  refine ax_iconst (v := 0) dX10_tellsNothing_4 (by decide) ?_
  refine ax_bipush (v := 40) dX10_tellsNothing_5 (by decide) ?_
  refine ax_iast dX10_tellsNothing_7 (lp_s hok 93 rfl) (by unfold vp_in; decide) ?_
  refine ax_iconst (v := 1) dX10_tellsNothing_8 (by decide) ?_
  refine ax_istore_n dX10_tellsNothing_9 (by decide) rfl ?_
  have h := loop1 4 1 rfl (Nat.le_refl _)
  rw [ax_fill_0] at h
  exact h
theorem p_X10_standsNow (hok : lp_ok M.2) : ax_Met l G kX10_standsNow 1 0 0 M [av_r 90] (fun o M2 => o = .inl none ∧ M2 = mk_stands M) := by
  refine ax_body (by decide) (Nat.le_of_ble_eq_true rfl) ?_
  have loop2 : ∀ (M1 : ax_M), lp_ok M1.2 → ax_pI (ax_pI (ax_pI (ax_fill M1 111 0 3 0) 90 32 0) 90 33 0) 90 34 0 = mk_stands M → ∀ (q i : Nat), i + q = 3 → ax_W l G kX10_standsNow (ax_FQ G (fun o M2 => o = .inl none ∧ M2 = mk_stands M)) 1 0 0 (ax_fill M1 111 0 i 0) 82 [some (av_r 90), some (av_i (nI i))] [] := by
    intro M1 hok hM1 q
    induction q with
    | zero =>
      intro i hi
      rw [show i = 3 by omega]
      refine ax_iload_n dX10_standsNow_82 rfl ?_
      refine ax_iconst (v := 3) dX10_standsNow_83 (by decide) ?_
      refine ax_icmp_ge (tgt := 100) dX10_standsNow_84 (by decide) (fun hc => ?_) (fun hc => ?_)
      · refine ax_aload_n dX10_standsNow_100 rfl ?_
        refine ax_iconst (v := 0) dX10_standsNow_101 (by decide) ?_
        refine ax_putI (f := 32) dX10_standsNow_102 acl_10 wd_1632 (by decide) rfl rfl (ax_nfI rfl) (lp_s hok 90 rfl) ?_
        refine ax_aload_n dX10_standsNow_105 rfl ?_
        refine ax_iconst (v := 0) dX10_standsNow_106 (by decide) ?_
        refine ax_putI (f := 33) dX10_standsNow_107 acl_10 wd_1633 (by decide) rfl rfl (ax_nfI rfl) (lp_s hok 90 rfl) ?_
        refine ax_aload_n dX10_standsNow_110 rfl ?_
        refine ax_iconst (v := 0) dX10_standsNow_111 (by decide) ?_
        refine ax_putI (f := 34) dX10_standsNow_112 acl_10 wd_1634 (by decide) rfl rfl (ax_nfI rfl) (lp_s hok 90 rfl) ?_
        refine ax_vret dX10_standsNow_115 rfl ?_
        exact ⟨rfl, hM1⟩
      · exact absurd (by decide) hc
    | succ q ih =>
      intro i hi
      refine ax_iload_n dX10_standsNow_82 rfl ?_
      refine ax_iconst (v := 3) dX10_standsNow_83 (by decide) ?_
      refine ax_icmp_ge (tgt := 100) dX10_standsNow_84 (by decide) (fun hc => ?_) (fun hc => ?_)
      · exact absurd ((nI_leI (a := 3) (by omega) (by omega)).mp hc) (by omega)
      · refine ax_aload_n dX10_standsNow_87 rfl ?_
        refine ax_getK (f := 22) 111 dX10_standsNow_88 acl_10 wd_1622 (by decide) rfl (lp_s hok 90 rfl) (lp_r hok 92 rfl) ?_
        refine ax_iload_n dX10_standsNow_91 rfl ?_
        refine ax_iconst (v := 0) dX10_standsNow_92 (by decide) ?_
        refine ax_iast dX10_standsNow_93 (lp_s hok 111 rfl) (vp_in_nI (by omega) (by omega)) ?_
        refine ax_iinc (v := 1) dX10_standsNow_94 rfl (by decide) (by decide) rfl ?_
        refine ax_goto (tgt := 82) dX10_standsNow_97 (by decide) ?_
        rw [nI_clamp (by omega), ax_fill_s (by omega), nI_1]
        exact ih (i + 1) (by omega)
  have loop1 : ∀ (q i : Nat), i + q = 4 → ax_W l G kX10_standsNow (ax_FQ G (fun o M2 => o = .inl none ∧ M2 = mk_stands M)) 1 0 0 (mk_wets (ax_cp (ax_cp (ax_cp (ax_cp M 94 93 7) 96 95 2) 98 97 6) 100 99 26) i) 53 [some (av_r 90), some (av_i (nI i))] [] := by
    intro q
    induction q with
    | zero =>
      intro i hi
      rw [show i = 4 by omega]
      refine ax_iload_n dX10_standsNow_53 rfl ?_
      refine ax_iconst (v := 4) dX10_standsNow_54 (by decide) ?_
      refine ax_icmp_ge (tgt := 80) dX10_standsNow_55 (by decide) (fun hc => ?_) (fun hc => ?_)
      · refine ax_iconst (v := 0) dX10_standsNow_80 (by decide) ?_
        refine ax_istore_n dX10_standsNow_81 (by decide) rfl ?_
        have h := loop2 (mk_wets (ax_cp (ax_cp (ax_cp (ax_cp M 94 93 7) 96 95 2) 98 97 6) 100 99 26) 4) (by rw [mk_wets_2]; exact hok) rfl 3 0 rfl
        rw [ax_fill_0] at h
        exact h
      · exact absurd (by decide) hc
    | succ q ih =>
      intro i hi
      refine ax_gen (fun M1 hM1 => ?_)
      have hok : lp_ok M1.2 := by rw [hM1, mk_wets_2]; exact hok
      refine ax_iload_n dX10_standsNow_53 rfl ?_
      refine ax_iconst (v := 4) dX10_standsNow_54 (by decide) ?_
      refine ax_icmp_ge (tgt := 80) dX10_standsNow_55 (by decide) (fun hc => ?_) (fun hc => ?_)
      · exact absurd ((nI_leI (a := 4) (by omega) (by omega)).mp hc) (by omega)
      · refine ax_aload_n dX10_standsNow_58 rfl ?_
        refine ax_getK (f := 19) 101 dX10_standsNow_59 acl_10 wd_1619 (by decide) rfl (lp_s hok 90 rfl) (lp_r hok 90 rfl) ?_
        refine ax_iload_n dX10_standsNow_62 rfl ?_
        refine ax_aaldK2 (102 + i) dX10_standsNow_63 (lp_s hok 101 rfl) (vp_in_nI (by omega) (by omega)) (by rw [nI_clamp (by omega)]; exact lp_w_m_readWet hok (by omega)) ?_
        refine ax_aload_n dX10_standsNow_64 rfl ?_
        refine ax_getK (f := 20) 106 dX10_standsNow_65 acl_10 wd_1620 (by decide) rfl (lp_s hok 90 rfl) (lp_r hok 91 rfl) ?_
        refine ax_iload_n dX10_standsNow_68 rfl ?_
        refine ax_aaldK2 (107 + i) dX10_standsNow_69 (lp_s hok 106 rfl) (vp_in_nI (by omega) (by omega)) (by rw [nI_clamp (by omega)]; exact lp_w_m_wet hok (by omega)) ?_
        refine ax_iconst (v := 2) dX10_standsNow_70 (by decide) ?_
        refine ax_callS (As := _) (c1 := 0) (n1 := 0) (c_X10_copies (d := 0) (M := M1) (lf := 2) (lt := 2) (n := 2) (lp_z_m_readWet hok (i := i) (by omega)) (lp_z_m_wet hok (i := i) (by omega)) (by omega) (by omega) (by omega) (by omega) (by omega) rfl) dX10_standsNow_71 mX10_copies wd_1597 rfl (by omega) (by omega) (by omega) rfl rfl (fun _ _ h => by cases h.1) ?_
        rintro r M3 ⟨h1, hM3⟩; cases h1
        refine ax_iinc (v := 1) dX10_standsNow_74 rfl (by decide) (by decide) rfl ?_
        refine ax_goto (tgt := 53) dX10_standsNow_77 (by decide) ?_
        rw [hM3, hM1, nI_1]
        exact ih (i + 1) (by omega)
  refine ax_aload_n dX10_standsNow_0 rfl ?_
  refine ax_getK (f := 11) 93 dX10_standsNow_1 acl_10 wd_1611 (by decide) rfl (lp_s hok 90 rfl) (lp_r hok 82 rfl) ?_
  refine ax_aload_n dX10_standsNow_4 rfl ?_
  refine ax_getK (f := 12) 94 dX10_standsNow_5 acl_10 wd_1612 (by decide) rfl (lp_s hok 90 rfl) (lp_r hok 83 rfl) ?_
  refine ax_bipush (v := 7) dX10_standsNow_8 (by decide) ?_
  refine ax_callS (As := _) (c1 := 0) (n1 := 0) (c_X10_copies (d := 0) (M := M) (lf := 7) (lt := 7) (n := 7) (lp_s hok 93 rfl) (lp_s hok 94 rfl) (by omega) (by omega) (by omega) (by omega) (by omega) rfl) dX10_standsNow_10 mX10_copies wd_1597 rfl (by omega) (by omega) (by omega) rfl rfl (fun _ _ h => by cases h.1) ?_
  rintro r M1 ⟨h1, hM1⟩; cases h1
  have hok1 : lp_ok M1.2 := by rw [hM1]; exact hok
  have hok := hok1
  refine ax_aload_n dX10_standsNow_13 rfl ?_
  refine ax_getK (f := 13) 95 dX10_standsNow_14 acl_10 wd_1613 (by decide) rfl (lp_s hok 90 rfl) (lp_r hok 84 rfl) ?_
  refine ax_aload_n dX10_standsNow_17 rfl ?_
  refine ax_getK (f := 14) 96 dX10_standsNow_18 acl_10 wd_1614 (by decide) rfl (lp_s hok 90 rfl) (lp_r hok 85 rfl) ?_
  refine ax_iconst (v := 2) dX10_standsNow_21 (by decide) ?_
  refine ax_callS (As := _) (c1 := 0) (n1 := 0) (c_X10_copies (d := 0) (M := M1) (lf := 2) (lt := 2) (n := 2) (lp_s hok 95 rfl) (lp_s hok 96 rfl) (by omega) (by omega) (by omega) (by omega) (by omega) rfl) dX10_standsNow_22 mX10_copies wd_1597 rfl (by omega) (by omega) (by omega) rfl rfl (fun _ _ h => by cases h.1) ?_
  rintro r M2 ⟨h1, hM2⟩; cases h1
  have hok : lp_ok M2.2 := by rw [hM2]; exact hok
  refine ax_aload_n dX10_standsNow_25 rfl ?_
  refine ax_getK (f := 15) 97 dX10_standsNow_26 acl_10 wd_1615 (by decide) rfl (lp_s hok 90 rfl) (lp_r hok 86 rfl) ?_
  refine ax_aload_n dX10_standsNow_29 rfl ?_
  refine ax_getK (f := 16) 98 dX10_standsNow_30 acl_10 wd_1616 (by decide) rfl (lp_s hok 90 rfl) (lp_r hok 87 rfl) ?_
  refine ax_bipush (v := 6) dX10_standsNow_33 (by decide) ?_
  refine ax_callS (As := _) (c1 := 0) (n1 := 0) (c_X10_copies (d := 0) (M := M2) (lf := 6) (lt := 6) (n := 6) (lp_s hok 97 rfl) (lp_s hok 98 rfl) (by omega) (by omega) (by omega) (by omega) (by omega) rfl) dX10_standsNow_35 mX10_copies wd_1597 rfl (by omega) (by omega) (by omega) rfl rfl (fun _ _ h => by cases h.1) ?_
  rintro r M3 ⟨h1, hM3⟩; cases h1
  have hok : lp_ok M3.2 := by rw [hM3]; exact hok
  refine ax_aload_n dX10_standsNow_38 rfl ?_
  refine ax_getK (f := 17) 99 dX10_standsNow_39 acl_10 wd_1617 (by decide) rfl (lp_s hok 90 rfl) (lp_r hok 88 rfl) ?_
  refine ax_aload_n dX10_standsNow_42 rfl ?_
  refine ax_getK (f := 18) 100 dX10_standsNow_43 acl_10 wd_1618 (by decide) rfl (lp_s hok 90 rfl) (lp_r hok 89 rfl) ?_
  refine ax_bipush (v := 26) dX10_standsNow_46 (by decide) ?_
  refine ax_callS (As := _) (c1 := 0) (n1 := 0) (c_X10_copies (d := 0) (M := M3) (lf := 26) (lt := 26) (n := 26) (lp_s hok 99 rfl) (lp_s hok 100 rfl) (by omega) (by omega) (by omega) (by omega) (by omega) rfl) dX10_standsNow_48 mX10_copies wd_1597 rfl (by omega) (by omega) (by omega) rfl rfl (fun _ _ h => by cases h.1) ?_
  rintro r M4 ⟨h1, hM4⟩; cases h1
  refine ax_iconst (v := 0) dX10_standsNow_51 (by decide) ?_
  refine ax_istore_n dX10_standsNow_52 (by decide) rfl ?_
  have h := loop1 4 0 rfl
  rw [hM4, hM3, hM2, hM1]
  exact h
end MY9
section X99j
variable {l : Launch} {G : ax_G} {M : ax_M}
def st_sX10_init_22 : List ((Nat × Nat) ⊕ Nat) := [.inl (0, 600), .inl (0, 3), .inl (0, 7), .inl (0, 7), .inl (0, 2), .inl (0, 2), .inl (0, 6), .inl (0, 6), .inl (0, 26), .inl (0, 26), .inl (2, 4), .inl (0, 2), .inl (0, 2), .inl (0, 2), .inl (0, 2)]
def st_rX10_init_22 : List (Nat × Nat × Nat) := [(11, 0, 12), (11, 1, 13), (11, 2, 14), (11, 3, 15), (0, 18, 10), (0, 17, 9), (0, 16, 8), (0, 15, 7), (0, 14, 6), (0, 13, 5), (0, 12, 4), (0, 11, 3), (0, 10, 2), (0, 9, 1)]
def st_wX10_init_22 : List (Nat × Nat × Int32) := [(0, 3, (-1))]
def st_sX10_init_24 : List ((Nat × Nat) ⊕ Nat) := [.inl (0, 600), .inl (0, 3), .inl (0, 7), .inl (0, 7), .inl (0, 2), .inl (0, 2), .inl (0, 6), .inl (0, 6), .inl (0, 26), .inl (0, 26), .inl (2, 4), .inl (0, 2), .inl (0, 2), .inl (0, 2), .inl (0, 2), .inl (2, 4), .inl (0, 2), .inl (0, 2), .inl (0, 2), .inl (0, 2)]
def st_rX10_init_24 : List (Nat × Nat × Nat) := [(16, 0, 17), (16, 1, 18), (16, 2, 19), (16, 3, 20), (0, 19, 11), (11, 0, 12), (11, 1, 13), (11, 2, 14), (11, 3, 15), (0, 18, 10), (0, 17, 9), (0, 16, 8), (0, 15, 7), (0, 14, 6), (0, 13, 5), (0, 12, 4), (0, 11, 3), (0, 10, 2), (0, 9, 1)]
def st_wX10_init_24 : List (Nat × Nat × Int32) := [(0, 3, (-1))]
def st_sX10_init_28 : List ((Nat × Nat) ⊕ Nat) := [.inl (0, 600), .inl (0, 3), .inl (0, 7), .inl (0, 7), .inl (0, 2), .inl (0, 2), .inl (0, 6), .inl (0, 6), .inl (0, 26), .inl (0, 26), .inl (2, 4), .inl (0, 2), .inl (0, 2), .inl (0, 2), .inl (0, 2), .inl (2, 4), .inl (0, 2), .inl (0, 2), .inl (0, 2), .inl (0, 2), .inl (0, 3), .inl (2, 3), .inl (0, 320), .inl (0, 320), .inl (0, 320)]
def st_rX10_init_28 : List (Nat × Nat × Nat) := [(22, 0, 23), (22, 1, 24), (22, 2, 25), (0, 22, 21), (0, 20, 16), (16, 0, 17), (16, 1, 18), (16, 2, 19), (16, 3, 20), (0, 19, 11), (11, 0, 12), (11, 1, 13), (11, 2, 14), (11, 3, 15), (0, 18, 10), (0, 17, 9), (0, 16, 8), (0, 15, 7), (0, 14, 6), (0, 13, 5), (0, 12, 4), (0, 11, 3), (0, 10, 2), (0, 9, 1)]
def st_wX10_init_28 : List (Nat × Nat × Int32) := [(0, 3, (-1))]
def st_sX10_init_36 : List ((Nat × Nat) ⊕ Nat) := [.inl (0, 600), .inl (0, 3), .inl (0, 7), .inl (0, 7), .inl (0, 2), .inl (0, 2), .inl (0, 6), .inl (0, 6), .inl (0, 26), .inl (0, 26), .inl (2, 4), .inl (0, 2), .inl (0, 2), .inl (0, 2), .inl (0, 2), .inl (2, 4), .inl (0, 2), .inl (0, 2), .inl (0, 2), .inl (0, 2), .inl (0, 3), .inl (2, 3), .inl (0, 320), .inl (0, 320), .inl (0, 320), .inl (0, 320), .inl (0, 160), .inl (0, 12), .inl (2, 12), .inl (0, 2), .inl (0, 2), .inl (0, 2), .inl (0, 2), .inl (0, 2), .inl (0, 2), .inl (0, 2), .inl (0, 2), .inl (0, 2), .inl (0, 2), .inl (0, 2), .inl (0, 2)]
def st_rX10_init_36 : List (Nat × Nat × Nat) := [(29, 0, 30), (29, 1, 31), (29, 2, 32), (29, 3, 33), (29, 4, 34), (29, 5, 35), (29, 6, 36), (29, 7, 37), (29, 8, 38), (29, 9, 39), (29, 10, 40), (29, 11, 41), (0, 27, 28), (0, 26, 27), (0, 25, 26), (0, 24, 22), (22, 0, 23), (22, 1, 24), (22, 2, 25), (0, 22, 21), (0, 20, 16), (16, 0, 17), (16, 1, 18), (16, 2, 19), (16, 3, 20), (0, 19, 11), (11, 0, 12), (11, 1, 13), (11, 2, 14), (11, 3, 15), (0, 18, 10), (0, 17, 9), (0, 16, 8), (0, 15, 7), (0, 14, 6), (0, 13, 5), (0, 12, 4), (0, 11, 3), (0, 10, 2), (0, 9, 1)]
def st_wX10_init_36 : List (Nat × Nat × Int32) := [(0, 3, (-1))]
def st_sX10_init_38 : List ((Nat × Nat) ⊕ Nat) := [.inl (0, 600), .inl (0, 3), .inl (0, 7), .inl (0, 7), .inl (0, 2), .inl (0, 2), .inl (0, 6), .inl (0, 6), .inl (0, 26), .inl (0, 26), .inl (2, 4), .inl (0, 2), .inl (0, 2), .inl (0, 2), .inl (0, 2), .inl (2, 4), .inl (0, 2), .inl (0, 2), .inl (0, 2), .inl (0, 2), .inl (0, 3), .inl (2, 3), .inl (0, 320), .inl (0, 320), .inl (0, 320), .inl (0, 320), .inl (0, 160), .inl (0, 12), .inl (2, 12), .inl (0, 2), .inl (0, 2), .inl (0, 2), .inl (0, 2), .inl (0, 2), .inl (0, 2), .inl (0, 2), .inl (0, 2), .inl (0, 2), .inl (0, 2), .inl (0, 2), .inl (0, 2), .inl (2, 12), .inl (0, 2), .inl (0, 2), .inl (0, 2), .inl (0, 2), .inl (0, 2), .inl (0, 2), .inl (0, 2), .inl (0, 2), .inl (0, 2), .inl (0, 2), .inl (0, 2), .inl (0, 2)]
def st_rX10_init_38 : List (Nat × Nat × Nat) := [(42, 0, 43), (42, 1, 44), (42, 2, 45), (42, 3, 46), (42, 4, 47), (42, 5, 48), (42, 6, 49), (42, 7, 50), (42, 8, 51), (42, 9, 52), (42, 10, 53), (42, 11, 54), (0, 28, 29), (29, 0, 30), (29, 1, 31), (29, 2, 32), (29, 3, 33), (29, 4, 34), (29, 5, 35), (29, 6, 36), (29, 7, 37), (29, 8, 38), (29, 9, 39), (29, 10, 40), (29, 11, 41), (0, 27, 28), (0, 26, 27), (0, 25, 26), (0, 24, 22), (22, 0, 23), (22, 1, 24), (22, 2, 25), (0, 22, 21), (0, 20, 16), (16, 0, 17), (16, 1, 18), (16, 2, 19), (16, 3, 20), (0, 19, 11), (11, 0, 12), (11, 1, 13), (11, 2, 14), (11, 3, 15), (0, 18, 10), (0, 17, 9), (0, 16, 8), (0, 15, 7), (0, 14, 6), (0, 13, 5), (0, 12, 4), (0, 11, 3), (0, 10, 2), (0, 9, 1)]
def st_wX10_init_38 : List (Nat × Nat × Int32) := [(0, 3, (-1))]
def st_sX10_init_40 : List ((Nat × Nat) ⊕ Nat) := [.inl (0, 600), .inl (0, 3), .inl (0, 7), .inl (0, 7), .inl (0, 2), .inl (0, 2), .inl (0, 6), .inl (0, 6), .inl (0, 26), .inl (0, 26), .inl (2, 4), .inl (0, 2), .inl (0, 2), .inl (0, 2), .inl (0, 2), .inl (2, 4), .inl (0, 2), .inl (0, 2), .inl (0, 2), .inl (0, 2), .inl (0, 3), .inl (2, 3), .inl (0, 320), .inl (0, 320), .inl (0, 320), .inl (0, 320), .inl (0, 160), .inl (0, 12), .inl (2, 12), .inl (0, 2), .inl (0, 2), .inl (0, 2), .inl (0, 2), .inl (0, 2), .inl (0, 2), .inl (0, 2), .inl (0, 2), .inl (0, 2), .inl (0, 2), .inl (0, 2), .inl (0, 2), .inl (2, 12), .inl (0, 2), .inl (0, 2), .inl (0, 2), .inl (0, 2), .inl (0, 2), .inl (0, 2), .inl (0, 2), .inl (0, 2), .inl (0, 2), .inl (0, 2), .inl (0, 2), .inl (0, 2), .inl (2, 20), .inl (0, 26), .inl (0, 26), .inl (0, 26), .inl (0, 26), .inl (0, 26), .inl (0, 26), .inl (0, 26), .inl (0, 26), .inl (0, 26), .inl (0, 26), .inl (0, 26), .inl (0, 26), .inl (0, 26), .inl (0, 26), .inl (0, 26), .inl (0, 26), .inl (0, 26), .inl (0, 26), .inl (0, 26), .inl (0, 26)]
def st_rX10_init_40 : List (Nat × Nat × Nat) := [(55, 0, 56), (55, 1, 57), (55, 2, 58), (55, 3, 59), (55, 4, 60), (55, 5, 61), (55, 6, 62), (55, 7, 63), (55, 8, 64), (55, 9, 65), (55, 10, 66), (55, 11, 67), (55, 12, 68), (55, 13, 69), (55, 14, 70), (55, 15, 71), (55, 16, 72), (55, 17, 73), (55, 18, 74), (55, 19, 75), (0, 29, 42), (42, 0, 43), (42, 1, 44), (42, 2, 45), (42, 3, 46), (42, 4, 47), (42, 5, 48), (42, 6, 49), (42, 7, 50), (42, 8, 51), (42, 9, 52), (42, 10, 53), (42, 11, 54), (0, 28, 29), (29, 0, 30), (29, 1, 31), (29, 2, 32), (29, 3, 33), (29, 4, 34), (29, 5, 35), (29, 6, 36), (29, 7, 37), (29, 8, 38), (29, 9, 39), (29, 10, 40), (29, 11, 41), (0, 27, 28), (0, 26, 27), (0, 25, 26), (0, 24, 22), (22, 0, 23), (22, 1, 24), (22, 2, 25), (0, 22, 21), (0, 20, 16), (16, 0, 17), (16, 1, 18), (16, 2, 19), (16, 3, 20), (0, 19, 11), (11, 0, 12), (11, 1, 13), (11, 2, 14), (11, 3, 15), (0, 18, 10), (0, 17, 9), (0, 16, 8), (0, 15, 7), (0, 14, 6), (0, 13, 5), (0, 12, 4), (0, 11, 3), (0, 10, 2), (0, 9, 1)]
def st_wX10_init_40 : List (Nat × Nat × Int32) := [(0, 3, (-1))]
def st_sX10_init_42 : List ((Nat × Nat) ⊕ Nat) := [.inl (0, 600), .inl (0, 3), .inl (0, 7), .inl (0, 7), .inl (0, 2), .inl (0, 2), .inl (0, 6), .inl (0, 6), .inl (0, 26), .inl (0, 26), .inl (2, 4), .inl (0, 2), .inl (0, 2), .inl (0, 2), .inl (0, 2), .inl (2, 4), .inl (0, 2), .inl (0, 2), .inl (0, 2), .inl (0, 2), .inl (0, 3), .inl (2, 3), .inl (0, 320), .inl (0, 320), .inl (0, 320), .inl (0, 320), .inl (0, 160), .inl (0, 12), .inl (2, 12), .inl (0, 2), .inl (0, 2), .inl (0, 2), .inl (0, 2), .inl (0, 2), .inl (0, 2), .inl (0, 2), .inl (0, 2), .inl (0, 2), .inl (0, 2), .inl (0, 2), .inl (0, 2), .inl (2, 12), .inl (0, 2), .inl (0, 2), .inl (0, 2), .inl (0, 2), .inl (0, 2), .inl (0, 2), .inl (0, 2), .inl (0, 2), .inl (0, 2), .inl (0, 2), .inl (0, 2), .inl (0, 2), .inl (2, 20), .inl (0, 26), .inl (0, 26), .inl (0, 26), .inl (0, 26), .inl (0, 26), .inl (0, 26), .inl (0, 26), .inl (0, 26), .inl (0, 26), .inl (0, 26), .inl (0, 26), .inl (0, 26), .inl (0, 26), .inl (0, 26), .inl (0, 26), .inl (0, 26), .inl (0, 26), .inl (0, 26), .inl (0, 26), .inl (0, 26), .inl (2, 3), .inl (0, 547), .inl (0, 547), .inl (0, 547)]
def st_rX10_init_42 : List (Nat × Nat × Nat) := [(76, 0, 77), (76, 1, 78), (76, 2, 79), (0, 30, 55), (55, 0, 56), (55, 1, 57), (55, 2, 58), (55, 3, 59), (55, 4, 60), (55, 5, 61), (55, 6, 62), (55, 7, 63), (55, 8, 64), (55, 9, 65), (55, 10, 66), (55, 11, 67), (55, 12, 68), (55, 13, 69), (55, 14, 70), (55, 15, 71), (55, 16, 72), (55, 17, 73), (55, 18, 74), (55, 19, 75), (0, 29, 42), (42, 0, 43), (42, 1, 44), (42, 2, 45), (42, 3, 46), (42, 4, 47), (42, 5, 48), (42, 6, 49), (42, 7, 50), (42, 8, 51), (42, 9, 52), (42, 10, 53), (42, 11, 54), (0, 28, 29), (29, 0, 30), (29, 1, 31), (29, 2, 32), (29, 3, 33), (29, 4, 34), (29, 5, 35), (29, 6, 36), (29, 7, 37), (29, 8, 38), (29, 9, 39), (29, 10, 40), (29, 11, 41), (0, 27, 28), (0, 26, 27), (0, 25, 26), (0, 24, 22), (22, 0, 23), (22, 1, 24), (22, 2, 25), (0, 22, 21), (0, 20, 16), (16, 0, 17), (16, 1, 18), (16, 2, 19), (16, 3, 20), (0, 19, 11), (11, 0, 12), (11, 1, 13), (11, 2, 14), (11, 3, 15), (0, 18, 10), (0, 17, 9), (0, 16, 8), (0, 15, 7), (0, 14, 6), (0, 13, 5), (0, 12, 4), (0, 11, 3), (0, 10, 2), (0, 9, 1)]
def st_wX10_init_42 : List (Nat × Nat × Int32) := [(0, 3, (-1))]
def st_sX10_init_44 : List ((Nat × Nat) ⊕ Nat) := [.inl (0, 600), .inl (0, 3), .inl (0, 7), .inl (0, 7), .inl (0, 2), .inl (0, 2), .inl (0, 6), .inl (0, 6), .inl (0, 26), .inl (0, 26), .inl (2, 4), .inl (0, 2), .inl (0, 2), .inl (0, 2), .inl (0, 2), .inl (2, 4), .inl (0, 2), .inl (0, 2), .inl (0, 2), .inl (0, 2), .inl (0, 3), .inl (2, 3), .inl (0, 320), .inl (0, 320), .inl (0, 320), .inl (0, 320), .inl (0, 160), .inl (0, 12), .inl (2, 12), .inl (0, 2), .inl (0, 2), .inl (0, 2), .inl (0, 2), .inl (0, 2), .inl (0, 2), .inl (0, 2), .inl (0, 2), .inl (0, 2), .inl (0, 2), .inl (0, 2), .inl (0, 2), .inl (2, 12), .inl (0, 2), .inl (0, 2), .inl (0, 2), .inl (0, 2), .inl (0, 2), .inl (0, 2), .inl (0, 2), .inl (0, 2), .inl (0, 2), .inl (0, 2), .inl (0, 2), .inl (0, 2), .inl (2, 20), .inl (0, 26), .inl (0, 26), .inl (0, 26), .inl (0, 26), .inl (0, 26), .inl (0, 26), .inl (0, 26), .inl (0, 26), .inl (0, 26), .inl (0, 26), .inl (0, 26), .inl (0, 26), .inl (0, 26), .inl (0, 26), .inl (0, 26), .inl (0, 26), .inl (0, 26), .inl (0, 26), .inl (0, 26), .inl (0, 26), .inl (2, 3), .inl (0, 547), .inl (0, 547), .inl (0, 547), .inl (3, 2), .inl (2, 99), .inl (0, 6), .inl (0, 6), .inl (0, 6), .inl (0, 6), .inl (0, 6), .inl (0, 6), .inl (0, 6), .inl (0, 6), .inl (0, 6), .inl (0, 6), .inl (0, 6), .inl (0, 6), .inl (0, 6), .inl (0, 6), .inl (0, 6), .inl (0, 6), .inl (0, 6), .inl (0, 6), .inl (0, 6), .inl (0, 6), .inl (0, 6), .inl (0, 6), .inl (0, 6), .inl (0, 6), .inl (0, 6), .inl (0, 6), .inl (0, 6), .inl (0, 6), .inl (0, 6), .inl (0, 6), .inl (0, 6), .inl (0, 6), .inl (0, 6), .inl (0, 6), .inl (0, 6), .inl (0, 6), .inl (0, 6), .inl (0, 6), .inl (0, 6), .inl (0, 6), .inl (0, 6), .inl (0, 6), .inl (0, 6), .inl (0, 6), .inl (0, 6), .inl (0, 6), .inl (0, 6), .inl (0, 6), .inl (0, 6), .inl (0, 6), .inl (0, 6), .inl (0, 6), .inl (0, 6), .inl (0, 6), .inl (0, 6), .inl (0, 6), .inl (0, 6), .inl (0, 6), .inl (0, 6), .inl (0, 6), .inl (0, 6), .inl (0, 6), .inl (0, 6), .inl (0, 6), .inl (0, 6), .inl (0, 6), .inl (0, 6), .inl (0, 6), .inl (0, 6), .inl (0, 6), .inl (0, 6), .inl (0, 6), .inl (0, 6), .inl (0, 6), .inl (0, 6), .inl (0, 6), .inl (0, 6), .inl (0, 6), .inl (0, 6), .inl (0, 6), .inl (0, 6), .inl (0, 6), .inl (0, 6), .inl (0, 6), .inl (0, 6), .inl (0, 6), .inl (0, 6), .inl (0, 6), .inl (0, 6), .inl (0, 6), .inl (0, 6), .inl (0, 6), .inl (0, 6), .inl (0, 6), .inl (0, 6), .inl (0, 6), .inl (0, 6), .inl (0, 6), .inl (0, 6), .inl (2, 99), .inl (0, 6), .inl (0, 6), .inl (0, 6), .inl (0, 6), .inl (0, 6), .inl (0, 6), .inl (0, 6), .inl (0, 6), .inl (0, 6), .inl (0, 6), .inl (0, 6), .inl (0, 6), .inl (0, 6), .inl (0, 6), .inl (0, 6), .inl (0, 6), .inl (0, 6), .inl (0, 6), .inl (0, 6), .inl (0, 6), .inl (0, 6), .inl (0, 6), .inl (0, 6), .inl (0, 6), .inl (0, 6), .inl (0, 6), .inl (0, 6), .inl (0, 6), .inl (0, 6), .inl (0, 6), .inl (0, 6), .inl (0, 6), .inl (0, 6), .inl (0, 6), .inl (0, 6), .inl (0, 6), .inl (0, 6), .inl (0, 6), .inl (0, 6), .inl (0, 6), .inl (0, 6), .inl (0, 6), .inl (0, 6), .inl (0, 6), .inl (0, 6), .inl (0, 6), .inl (0, 6), .inl (0, 6), .inl (0, 6), .inl (0, 6), .inl (0, 6), .inl (0, 6), .inl (0, 6), .inl (0, 6), .inl (0, 6), .inl (0, 6), .inl (0, 6), .inl (0, 6), .inl (0, 6), .inl (0, 6), .inl (0, 6), .inl (0, 6), .inl (0, 6), .inl (0, 6), .inl (0, 6), .inl (0, 6), .inl (0, 6), .inl (0, 6), .inl (0, 6), .inl (0, 6), .inl (0, 6), .inl (0, 6), .inl (0, 6), .inl (0, 6), .inl (0, 6), .inl (0, 6), .inl (0, 6), .inl (0, 6), .inl (0, 6), .inl (0, 6), .inl (0, 6), .inl (0, 6), .inl (0, 6), .inl (0, 6), .inl (0, 6), .inl (0, 6), .inl (0, 6), .inl (0, 6), .inl (0, 6), .inl (0, 6), .inl (0, 6), .inl (0, 6), .inl (0, 6), .inl (0, 6), .inl (0, 6), .inl (0, 6), .inl (0, 6), .inl (0, 6), .inl (0, 6)]
def st_rX10_init_44 : List (Nat × Nat × Nat) := [(81, 0, 82), (81, 1, 83), (81, 2, 84), (81, 3, 85), (81, 4, 86), (81, 5, 87), (81, 6, 88), (81, 7, 89), (81, 8, 90), (81, 9, 91), (81, 10, 92), (81, 11, 93), (81, 12, 94), (81, 13, 95), (81, 14, 96), (81, 15, 97), (81, 16, 98), (81, 17, 99), (81, 18, 100), (81, 19, 101), (81, 20, 102), (81, 21, 103), (81, 22, 104), (81, 23, 105), (81, 24, 106), (81, 25, 107), (81, 26, 108), (81, 27, 109), (81, 28, 110), (81, 29, 111), (81, 30, 112), (81, 31, 113), (81, 32, 114), (81, 33, 115), (81, 34, 116), (81, 35, 117), (81, 36, 118), (81, 37, 119), (81, 38, 120), (81, 39, 121), (81, 40, 122), (81, 41, 123), (81, 42, 124), (81, 43, 125), (81, 44, 126), (81, 45, 127), (81, 46, 128), (81, 47, 129), (81, 48, 130), (81, 49, 131), (81, 50, 132), (81, 51, 133), (81, 52, 134), (81, 53, 135), (81, 54, 136), (81, 55, 137), (81, 56, 138), (81, 57, 139), (81, 58, 140), (81, 59, 141), (81, 60, 142), (81, 61, 143), (81, 62, 144), (81, 63, 145), (81, 64, 146), (81, 65, 147), (81, 66, 148), (81, 67, 149), (81, 68, 150), (81, 69, 151), (81, 70, 152), (81, 71, 153), (81, 72, 154), (81, 73, 155), (81, 74, 156), (81, 75, 157), (81, 76, 158), (81, 77, 159), (81, 78, 160), (81, 79, 161), (81, 80, 162), (81, 81, 163), (81, 82, 164), (81, 83, 165), (81, 84, 166), (81, 85, 167), (81, 86, 168), (81, 87, 169), (81, 88, 170), (81, 89, 171), (81, 90, 172), (81, 91, 173), (81, 92, 174), (81, 93, 175), (81, 94, 176), (81, 95, 177), (81, 96, 178), (81, 97, 179), (81, 98, 180), (181, 0, 182), (181, 1, 183), (181, 2, 184), (181, 3, 185), (181, 4, 186), (181, 5, 187), (181, 6, 188), (181, 7, 189), (181, 8, 190), (181, 9, 191), (181, 10, 192), (181, 11, 193), (181, 12, 194), (181, 13, 195), (181, 14, 196), (181, 15, 197), (181, 16, 198), (181, 17, 199), (181, 18, 200), (181, 19, 201), (181, 20, 202), (181, 21, 203), (181, 22, 204), (181, 23, 205), (181, 24, 206), (181, 25, 207), (181, 26, 208), (181, 27, 209), (181, 28, 210), (181, 29, 211), (181, 30, 212), (181, 31, 213), (181, 32, 214), (181, 33, 215), (181, 34, 216), (181, 35, 217), (181, 36, 218), (181, 37, 219), (181, 38, 220), (181, 39, 221), (181, 40, 222), (181, 41, 223), (181, 42, 224), (181, 43, 225), (181, 44, 226), (181, 45, 227), (181, 46, 228), (181, 47, 229), (181, 48, 230), (181, 49, 231), (181, 50, 232), (181, 51, 233), (181, 52, 234), (181, 53, 235), (181, 54, 236), (181, 55, 237), (181, 56, 238), (181, 57, 239), (181, 58, 240), (181, 59, 241), (181, 60, 242), (181, 61, 243), (181, 62, 244), (181, 63, 245), (181, 64, 246), (181, 65, 247), (181, 66, 248), (181, 67, 249), (181, 68, 250), (181, 69, 251), (181, 70, 252), (181, 71, 253), (181, 72, 254), (181, 73, 255), (181, 74, 256), (181, 75, 257), (181, 76, 258), (181, 77, 259), (181, 78, 260), (181, 79, 261), (181, 80, 262), (181, 81, 263), (181, 82, 264), (181, 83, 265), (181, 84, 266), (181, 85, 267), (181, 86, 268), (181, 87, 269), (181, 88, 270), (181, 89, 271), (181, 90, 272), (181, 91, 273), (181, 92, 274), (181, 93, 275), (181, 94, 276), (181, 95, 277), (181, 96, 278), (181, 97, 279), (181, 98, 280), (80, 0, 81), (80, 1, 181), (0, 31, 76), (76, 0, 77), (76, 1, 78), (76, 2, 79), (0, 30, 55), (55, 0, 56), (55, 1, 57), (55, 2, 58), (55, 3, 59), (55, 4, 60), (55, 5, 61), (55, 6, 62), (55, 7, 63), (55, 8, 64), (55, 9, 65), (55, 10, 66), (55, 11, 67), (55, 12, 68), (55, 13, 69), (55, 14, 70), (55, 15, 71), (55, 16, 72), (55, 17, 73), (55, 18, 74), (55, 19, 75), (0, 29, 42), (42, 0, 43), (42, 1, 44), (42, 2, 45), (42, 3, 46), (42, 4, 47), (42, 5, 48), (42, 6, 49), (42, 7, 50), (42, 8, 51), (42, 9, 52), (42, 10, 53), (42, 11, 54), (0, 28, 29), (29, 0, 30), (29, 1, 31), (29, 2, 32), (29, 3, 33), (29, 4, 34), (29, 5, 35), (29, 6, 36), (29, 7, 37), (29, 8, 38), (29, 9, 39), (29, 10, 40), (29, 11, 41), (0, 27, 28), (0, 26, 27), (0, 25, 26), (0, 24, 22), (22, 0, 23), (22, 1, 24), (22, 2, 25), (0, 22, 21), (0, 20, 16), (16, 0, 17), (16, 1, 18), (16, 2, 19), (16, 3, 20), (0, 19, 11), (11, 0, 12), (11, 1, 13), (11, 2, 14), (11, 3, 15), (0, 18, 10), (0, 17, 9), (0, 16, 8), (0, 15, 7), (0, 14, 6), (0, 13, 5), (0, 12, 4), (0, 11, 3), (0, 10, 2), (0, 9, 1)]
def st_wX10_init_44 : List (Nat × Nat × Int32) := [(0, 3, (-1))]
def st_sX10_init_46 : List ((Nat × Nat) ⊕ Nat) := [.inl (0, 600), .inl (0, 3), .inl (0, 7), .inl (0, 7), .inl (0, 2), .inl (0, 2), .inl (0, 6), .inl (0, 6), .inl (0, 26), .inl (0, 26), .inl (2, 4), .inl (0, 2), .inl (0, 2), .inl (0, 2), .inl (0, 2), .inl (2, 4), .inl (0, 2), .inl (0, 2), .inl (0, 2), .inl (0, 2), .inl (0, 3), .inl (2, 3), .inl (0, 320), .inl (0, 320), .inl (0, 320), .inl (0, 320), .inl (0, 160), .inl (0, 12), .inl (2, 12), .inl (0, 2), .inl (0, 2), .inl (0, 2), .inl (0, 2), .inl (0, 2), .inl (0, 2), .inl (0, 2), .inl (0, 2), .inl (0, 2), .inl (0, 2), .inl (0, 2), .inl (0, 2), .inl (2, 12), .inl (0, 2), .inl (0, 2), .inl (0, 2), .inl (0, 2), .inl (0, 2), .inl (0, 2), .inl (0, 2), .inl (0, 2), .inl (0, 2), .inl (0, 2), .inl (0, 2), .inl (0, 2), .inl (2, 20), .inl (0, 26), .inl (0, 26), .inl (0, 26), .inl (0, 26), .inl (0, 26), .inl (0, 26), .inl (0, 26), .inl (0, 26), .inl (0, 26), .inl (0, 26), .inl (0, 26), .inl (0, 26), .inl (0, 26), .inl (0, 26), .inl (0, 26), .inl (0, 26), .inl (0, 26), .inl (0, 26), .inl (0, 26), .inl (0, 26), .inl (2, 3), .inl (0, 547), .inl (0, 547), .inl (0, 547), .inl (3, 2), .inl (2, 99), .inl (0, 6), .inl (0, 6), .inl (0, 6), .inl (0, 6), .inl (0, 6), .inl (0, 6), .inl (0, 6), .inl (0, 6), .inl (0, 6), .inl (0, 6), .inl (0, 6), .inl (0, 6), .inl (0, 6), .inl (0, 6), .inl (0, 6), .inl (0, 6), .inl (0, 6), .inl (0, 6), .inl (0, 6), .inl (0, 6), .inl (0, 6), .inl (0, 6), .inl (0, 6), .inl (0, 6), .inl (0, 6), .inl (0, 6), .inl (0, 6), .inl (0, 6), .inl (0, 6), .inl (0, 6), .inl (0, 6), .inl (0, 6), .inl (0, 6), .inl (0, 6), .inl (0, 6), .inl (0, 6), .inl (0, 6), .inl (0, 6), .inl (0, 6), .inl (0, 6), .inl (0, 6), .inl (0, 6), .inl (0, 6), .inl (0, 6), .inl (0, 6), .inl (0, 6), .inl (0, 6), .inl (0, 6), .inl (0, 6), .inl (0, 6), .inl (0, 6), .inl (0, 6), .inl (0, 6), .inl (0, 6), .inl (0, 6), .inl (0, 6), .inl (0, 6), .inl (0, 6), .inl (0, 6), .inl (0, 6), .inl (0, 6), .inl (0, 6), .inl (0, 6), .inl (0, 6), .inl (0, 6), .inl (0, 6), .inl (0, 6), .inl (0, 6), .inl (0, 6), .inl (0, 6), .inl (0, 6), .inl (0, 6), .inl (0, 6), .inl (0, 6), .inl (0, 6), .inl (0, 6), .inl (0, 6), .inl (0, 6), .inl (0, 6), .inl (0, 6), .inl (0, 6), .inl (0, 6), .inl (0, 6), .inl (0, 6), .inl (0, 6), .inl (0, 6), .inl (0, 6), .inl (0, 6), .inl (0, 6), .inl (0, 6), .inl (0, 6), .inl (0, 6), .inl (0, 6), .inl (0, 6), .inl (0, 6), .inl (0, 6), .inl (0, 6), .inl (0, 6), .inl (0, 6), .inl (2, 99), .inl (0, 6), .inl (0, 6), .inl (0, 6), .inl (0, 6), .inl (0, 6), .inl (0, 6), .inl (0, 6), .inl (0, 6), .inl (0, 6), .inl (0, 6), .inl (0, 6), .inl (0, 6), .inl (0, 6), .inl (0, 6), .inl (0, 6), .inl (0, 6), .inl (0, 6), .inl (0, 6), .inl (0, 6), .inl (0, 6), .inl (0, 6), .inl (0, 6), .inl (0, 6), .inl (0, 6), .inl (0, 6), .inl (0, 6), .inl (0, 6), .inl (0, 6), .inl (0, 6), .inl (0, 6), .inl (0, 6), .inl (0, 6), .inl (0, 6), .inl (0, 6), .inl (0, 6), .inl (0, 6), .inl (0, 6), .inl (0, 6), .inl (0, 6), .inl (0, 6), .inl (0, 6), .inl (0, 6), .inl (0, 6), .inl (0, 6), .inl (0, 6), .inl (0, 6), .inl (0, 6), .inl (0, 6), .inl (0, 6), .inl (0, 6), .inl (0, 6), .inl (0, 6), .inl (0, 6), .inl (0, 6), .inl (0, 6), .inl (0, 6), .inl (0, 6), .inl (0, 6), .inl (0, 6), .inl (0, 6), .inl (0, 6), .inl (0, 6), .inl (0, 6), .inl (0, 6), .inl (0, 6), .inl (0, 6), .inl (0, 6), .inl (0, 6), .inl (0, 6), .inl (0, 6), .inl (0, 6), .inl (0, 6), .inl (0, 6), .inl (0, 6), .inl (0, 6), .inl (0, 6), .inl (0, 6), .inl (0, 6), .inl (0, 6), .inl (0, 6), .inl (0, 6), .inl (0, 6), .inl (0, 6), .inl (0, 6), .inl (0, 6), .inl (0, 6), .inl (0, 6), .inl (0, 6), .inl (0, 6), .inl (0, 6), .inl (0, 6), .inl (0, 6), .inl (0, 6), .inl (0, 6), .inl (0, 6), .inl (0, 6), .inl (0, 6), .inl (0, 6), .inl (0, 6), .inl (2, 2), .inl (0, 10), .inl (0, 10)]
def st_rX10_init_46 : List (Nat × Nat × Nat) := [(281, 0, 282), (281, 1, 283), (0, 36, 80), (81, 0, 82), (81, 1, 83), (81, 2, 84), (81, 3, 85), (81, 4, 86), (81, 5, 87), (81, 6, 88), (81, 7, 89), (81, 8, 90), (81, 9, 91), (81, 10, 92), (81, 11, 93), (81, 12, 94), (81, 13, 95), (81, 14, 96), (81, 15, 97), (81, 16, 98), (81, 17, 99), (81, 18, 100), (81, 19, 101), (81, 20, 102), (81, 21, 103), (81, 22, 104), (81, 23, 105), (81, 24, 106), (81, 25, 107), (81, 26, 108), (81, 27, 109), (81, 28, 110), (81, 29, 111), (81, 30, 112), (81, 31, 113), (81, 32, 114), (81, 33, 115), (81, 34, 116), (81, 35, 117), (81, 36, 118), (81, 37, 119), (81, 38, 120), (81, 39, 121), (81, 40, 122), (81, 41, 123), (81, 42, 124), (81, 43, 125), (81, 44, 126), (81, 45, 127), (81, 46, 128), (81, 47, 129), (81, 48, 130), (81, 49, 131), (81, 50, 132), (81, 51, 133), (81, 52, 134), (81, 53, 135), (81, 54, 136), (81, 55, 137), (81, 56, 138), (81, 57, 139), (81, 58, 140), (81, 59, 141), (81, 60, 142), (81, 61, 143), (81, 62, 144), (81, 63, 145), (81, 64, 146), (81, 65, 147), (81, 66, 148), (81, 67, 149), (81, 68, 150), (81, 69, 151), (81, 70, 152), (81, 71, 153), (81, 72, 154), (81, 73, 155), (81, 74, 156), (81, 75, 157), (81, 76, 158), (81, 77, 159), (81, 78, 160), (81, 79, 161), (81, 80, 162), (81, 81, 163), (81, 82, 164), (81, 83, 165), (81, 84, 166), (81, 85, 167), (81, 86, 168), (81, 87, 169), (81, 88, 170), (81, 89, 171), (81, 90, 172), (81, 91, 173), (81, 92, 174), (81, 93, 175), (81, 94, 176), (81, 95, 177), (81, 96, 178), (81, 97, 179), (81, 98, 180), (181, 0, 182), (181, 1, 183), (181, 2, 184), (181, 3, 185), (181, 4, 186), (181, 5, 187), (181, 6, 188), (181, 7, 189), (181, 8, 190), (181, 9, 191), (181, 10, 192), (181, 11, 193), (181, 12, 194), (181, 13, 195), (181, 14, 196), (181, 15, 197), (181, 16, 198), (181, 17, 199), (181, 18, 200), (181, 19, 201), (181, 20, 202), (181, 21, 203), (181, 22, 204), (181, 23, 205), (181, 24, 206), (181, 25, 207), (181, 26, 208), (181, 27, 209), (181, 28, 210), (181, 29, 211), (181, 30, 212), (181, 31, 213), (181, 32, 214), (181, 33, 215), (181, 34, 216), (181, 35, 217), (181, 36, 218), (181, 37, 219), (181, 38, 220), (181, 39, 221), (181, 40, 222), (181, 41, 223), (181, 42, 224), (181, 43, 225), (181, 44, 226), (181, 45, 227), (181, 46, 228), (181, 47, 229), (181, 48, 230), (181, 49, 231), (181, 50, 232), (181, 51, 233), (181, 52, 234), (181, 53, 235), (181, 54, 236), (181, 55, 237), (181, 56, 238), (181, 57, 239), (181, 58, 240), (181, 59, 241), (181, 60, 242), (181, 61, 243), (181, 62, 244), (181, 63, 245), (181, 64, 246), (181, 65, 247), (181, 66, 248), (181, 67, 249), (181, 68, 250), (181, 69, 251), (181, 70, 252), (181, 71, 253), (181, 72, 254), (181, 73, 255), (181, 74, 256), (181, 75, 257), (181, 76, 258), (181, 77, 259), (181, 78, 260), (181, 79, 261), (181, 80, 262), (181, 81, 263), (181, 82, 264), (181, 83, 265), (181, 84, 266), (181, 85, 267), (181, 86, 268), (181, 87, 269), (181, 88, 270), (181, 89, 271), (181, 90, 272), (181, 91, 273), (181, 92, 274), (181, 93, 275), (181, 94, 276), (181, 95, 277), (181, 96, 278), (181, 97, 279), (181, 98, 280), (80, 0, 81), (80, 1, 181), (0, 31, 76), (76, 0, 77), (76, 1, 78), (76, 2, 79), (0, 30, 55), (55, 0, 56), (55, 1, 57), (55, 2, 58), (55, 3, 59), (55, 4, 60), (55, 5, 61), (55, 6, 62), (55, 7, 63), (55, 8, 64), (55, 9, 65), (55, 10, 66), (55, 11, 67), (55, 12, 68), (55, 13, 69), (55, 14, 70), (55, 15, 71), (55, 16, 72), (55, 17, 73), (55, 18, 74), (55, 19, 75), (0, 29, 42), (42, 0, 43), (42, 1, 44), (42, 2, 45), (42, 3, 46), (42, 4, 47), (42, 5, 48), (42, 6, 49), (42, 7, 50), (42, 8, 51), (42, 9, 52), (42, 10, 53), (42, 11, 54), (0, 28, 29), (29, 0, 30), (29, 1, 31), (29, 2, 32), (29, 3, 33), (29, 4, 34), (29, 5, 35), (29, 6, 36), (29, 7, 37), (29, 8, 38), (29, 9, 39), (29, 10, 40), (29, 11, 41), (0, 27, 28), (0, 26, 27), (0, 25, 26), (0, 24, 22), (22, 0, 23), (22, 1, 24), (22, 2, 25), (0, 22, 21), (0, 20, 16), (16, 0, 17), (16, 1, 18), (16, 2, 19), (16, 3, 20), (0, 19, 11), (11, 0, 12), (11, 1, 13), (11, 2, 14), (11, 3, 15), (0, 18, 10), (0, 17, 9), (0, 16, 8), (0, 15, 7), (0, 14, 6), (0, 13, 5), (0, 12, 4), (0, 11, 3), (0, 10, 2), (0, 9, 1)]
def st_wX10_init_46 : List (Nat × Nat × Int32) := [(0, 3, (-1))]
def st_sX10_init_48 : List ((Nat × Nat) ⊕ Nat) := [.inl (0, 600), .inl (0, 3), .inl (0, 7), .inl (0, 7), .inl (0, 2), .inl (0, 2), .inl (0, 6), .inl (0, 6), .inl (0, 26), .inl (0, 26), .inl (2, 4), .inl (0, 2), .inl (0, 2), .inl (0, 2), .inl (0, 2), .inl (2, 4), .inl (0, 2), .inl (0, 2), .inl (0, 2), .inl (0, 2), .inl (0, 3), .inl (2, 3), .inl (0, 320), .inl (0, 320), .inl (0, 320), .inl (0, 320), .inl (0, 160), .inl (0, 12), .inl (2, 12), .inl (0, 2), .inl (0, 2), .inl (0, 2), .inl (0, 2), .inl (0, 2), .inl (0, 2), .inl (0, 2), .inl (0, 2), .inl (0, 2), .inl (0, 2), .inl (0, 2), .inl (0, 2), .inl (2, 12), .inl (0, 2), .inl (0, 2), .inl (0, 2), .inl (0, 2), .inl (0, 2), .inl (0, 2), .inl (0, 2), .inl (0, 2), .inl (0, 2), .inl (0, 2), .inl (0, 2), .inl (0, 2), .inl (2, 20), .inl (0, 26), .inl (0, 26), .inl (0, 26), .inl (0, 26), .inl (0, 26), .inl (0, 26), .inl (0, 26), .inl (0, 26), .inl (0, 26), .inl (0, 26), .inl (0, 26), .inl (0, 26), .inl (0, 26), .inl (0, 26), .inl (0, 26), .inl (0, 26), .inl (0, 26), .inl (0, 26), .inl (0, 26), .inl (0, 26), .inl (2, 3), .inl (0, 547), .inl (0, 547), .inl (0, 547), .inl (3, 2), .inl (2, 99), .inl (0, 6), .inl (0, 6), .inl (0, 6), .inl (0, 6), .inl (0, 6), .inl (0, 6), .inl (0, 6), .inl (0, 6), .inl (0, 6), .inl (0, 6), .inl (0, 6), .inl (0, 6), .inl (0, 6), .inl (0, 6), .inl (0, 6), .inl (0, 6), .inl (0, 6), .inl (0, 6), .inl (0, 6), .inl (0, 6), .inl (0, 6), .inl (0, 6), .inl (0, 6), .inl (0, 6), .inl (0, 6), .inl (0, 6), .inl (0, 6), .inl (0, 6), .inl (0, 6), .inl (0, 6), .inl (0, 6), .inl (0, 6), .inl (0, 6), .inl (0, 6), .inl (0, 6), .inl (0, 6), .inl (0, 6), .inl (0, 6), .inl (0, 6), .inl (0, 6), .inl (0, 6), .inl (0, 6), .inl (0, 6), .inl (0, 6), .inl (0, 6), .inl (0, 6), .inl (0, 6), .inl (0, 6), .inl (0, 6), .inl (0, 6), .inl (0, 6), .inl (0, 6), .inl (0, 6), .inl (0, 6), .inl (0, 6), .inl (0, 6), .inl (0, 6), .inl (0, 6), .inl (0, 6), .inl (0, 6), .inl (0, 6), .inl (0, 6), .inl (0, 6), .inl (0, 6), .inl (0, 6), .inl (0, 6), .inl (0, 6), .inl (0, 6), .inl (0, 6), .inl (0, 6), .inl (0, 6), .inl (0, 6), .inl (0, 6), .inl (0, 6), .inl (0, 6), .inl (0, 6), .inl (0, 6), .inl (0, 6), .inl (0, 6), .inl (0, 6), .inl (0, 6), .inl (0, 6), .inl (0, 6), .inl (0, 6), .inl (0, 6), .inl (0, 6), .inl (0, 6), .inl (0, 6), .inl (0, 6), .inl (0, 6), .inl (0, 6), .inl (0, 6), .inl (0, 6), .inl (0, 6), .inl (0, 6), .inl (0, 6), .inl (0, 6), .inl (0, 6), .inl (0, 6), .inl (2, 99), .inl (0, 6), .inl (0, 6), .inl (0, 6), .inl (0, 6), .inl (0, 6), .inl (0, 6), .inl (0, 6), .inl (0, 6), .inl (0, 6), .inl (0, 6), .inl (0, 6), .inl (0, 6), .inl (0, 6), .inl (0, 6), .inl (0, 6), .inl (0, 6), .inl (0, 6), .inl (0, 6), .inl (0, 6), .inl (0, 6), .inl (0, 6), .inl (0, 6), .inl (0, 6), .inl (0, 6), .inl (0, 6), .inl (0, 6), .inl (0, 6), .inl (0, 6), .inl (0, 6), .inl (0, 6), .inl (0, 6), .inl (0, 6), .inl (0, 6), .inl (0, 6), .inl (0, 6), .inl (0, 6), .inl (0, 6), .inl (0, 6), .inl (0, 6), .inl (0, 6), .inl (0, 6), .inl (0, 6), .inl (0, 6), .inl (0, 6), .inl (0, 6), .inl (0, 6), .inl (0, 6), .inl (0, 6), .inl (0, 6), .inl (0, 6), .inl (0, 6), .inl (0, 6), .inl (0, 6), .inl (0, 6), .inl (0, 6), .inl (0, 6), .inl (0, 6), .inl (0, 6), .inl (0, 6), .inl (0, 6), .inl (0, 6), .inl (0, 6), .inl (0, 6), .inl (0, 6), .inl (0, 6), .inl (0, 6), .inl (0, 6), .inl (0, 6), .inl (0, 6), .inl (0, 6), .inl (0, 6), .inl (0, 6), .inl (0, 6), .inl (0, 6), .inl (0, 6), .inl (0, 6), .inl (0, 6), .inl (0, 6), .inl (0, 6), .inl (0, 6), .inl (0, 6), .inl (0, 6), .inl (0, 6), .inl (0, 6), .inl (0, 6), .inl (0, 6), .inl (0, 6), .inl (0, 6), .inl (0, 6), .inl (0, 6), .inl (0, 6), .inl (0, 6), .inl (0, 6), .inl (0, 6), .inl (0, 6), .inl (0, 6), .inl (0, 6), .inl (0, 6), .inl (0, 6), .inl (2, 2), .inl (0, 10), .inl (0, 10), .inl (2, 2), .inl (0, 10), .inl (0, 10)]
def st_rX10_init_48 : List (Nat × Nat × Nat) := [(284, 0, 285), (284, 1, 286), (0, 37, 281), (281, 0, 282), (281, 1, 283), (0, 36, 80), (81, 0, 82), (81, 1, 83), (81, 2, 84), (81, 3, 85), (81, 4, 86), (81, 5, 87), (81, 6, 88), (81, 7, 89), (81, 8, 90), (81, 9, 91), (81, 10, 92), (81, 11, 93), (81, 12, 94), (81, 13, 95), (81, 14, 96), (81, 15, 97), (81, 16, 98), (81, 17, 99), (81, 18, 100), (81, 19, 101), (81, 20, 102), (81, 21, 103), (81, 22, 104), (81, 23, 105), (81, 24, 106), (81, 25, 107), (81, 26, 108), (81, 27, 109), (81, 28, 110), (81, 29, 111), (81, 30, 112), (81, 31, 113), (81, 32, 114), (81, 33, 115), (81, 34, 116), (81, 35, 117), (81, 36, 118), (81, 37, 119), (81, 38, 120), (81, 39, 121), (81, 40, 122), (81, 41, 123), (81, 42, 124), (81, 43, 125), (81, 44, 126), (81, 45, 127), (81, 46, 128), (81, 47, 129), (81, 48, 130), (81, 49, 131), (81, 50, 132), (81, 51, 133), (81, 52, 134), (81, 53, 135), (81, 54, 136), (81, 55, 137), (81, 56, 138), (81, 57, 139), (81, 58, 140), (81, 59, 141), (81, 60, 142), (81, 61, 143), (81, 62, 144), (81, 63, 145), (81, 64, 146), (81, 65, 147), (81, 66, 148), (81, 67, 149), (81, 68, 150), (81, 69, 151), (81, 70, 152), (81, 71, 153), (81, 72, 154), (81, 73, 155), (81, 74, 156), (81, 75, 157), (81, 76, 158), (81, 77, 159), (81, 78, 160), (81, 79, 161), (81, 80, 162), (81, 81, 163), (81, 82, 164), (81, 83, 165), (81, 84, 166), (81, 85, 167), (81, 86, 168), (81, 87, 169), (81, 88, 170), (81, 89, 171), (81, 90, 172), (81, 91, 173), (81, 92, 174), (81, 93, 175), (81, 94, 176), (81, 95, 177), (81, 96, 178), (81, 97, 179), (81, 98, 180), (181, 0, 182), (181, 1, 183), (181, 2, 184), (181, 3, 185), (181, 4, 186), (181, 5, 187), (181, 6, 188), (181, 7, 189), (181, 8, 190), (181, 9, 191), (181, 10, 192), (181, 11, 193), (181, 12, 194), (181, 13, 195), (181, 14, 196), (181, 15, 197), (181, 16, 198), (181, 17, 199), (181, 18, 200), (181, 19, 201), (181, 20, 202), (181, 21, 203), (181, 22, 204), (181, 23, 205), (181, 24, 206), (181, 25, 207), (181, 26, 208), (181, 27, 209), (181, 28, 210), (181, 29, 211), (181, 30, 212), (181, 31, 213), (181, 32, 214), (181, 33, 215), (181, 34, 216), (181, 35, 217), (181, 36, 218), (181, 37, 219), (181, 38, 220), (181, 39, 221), (181, 40, 222), (181, 41, 223), (181, 42, 224), (181, 43, 225), (181, 44, 226), (181, 45, 227), (181, 46, 228), (181, 47, 229), (181, 48, 230), (181, 49, 231), (181, 50, 232), (181, 51, 233), (181, 52, 234), (181, 53, 235), (181, 54, 236), (181, 55, 237), (181, 56, 238), (181, 57, 239), (181, 58, 240), (181, 59, 241), (181, 60, 242), (181, 61, 243), (181, 62, 244), (181, 63, 245), (181, 64, 246), (181, 65, 247), (181, 66, 248), (181, 67, 249), (181, 68, 250), (181, 69, 251), (181, 70, 252), (181, 71, 253), (181, 72, 254), (181, 73, 255), (181, 74, 256), (181, 75, 257), (181, 76, 258), (181, 77, 259), (181, 78, 260), (181, 79, 261), (181, 80, 262), (181, 81, 263), (181, 82, 264), (181, 83, 265), (181, 84, 266), (181, 85, 267), (181, 86, 268), (181, 87, 269), (181, 88, 270), (181, 89, 271), (181, 90, 272), (181, 91, 273), (181, 92, 274), (181, 93, 275), (181, 94, 276), (181, 95, 277), (181, 96, 278), (181, 97, 279), (181, 98, 280), (80, 0, 81), (80, 1, 181), (0, 31, 76), (76, 0, 77), (76, 1, 78), (76, 2, 79), (0, 30, 55), (55, 0, 56), (55, 1, 57), (55, 2, 58), (55, 3, 59), (55, 4, 60), (55, 5, 61), (55, 6, 62), (55, 7, 63), (55, 8, 64), (55, 9, 65), (55, 10, 66), (55, 11, 67), (55, 12, 68), (55, 13, 69), (55, 14, 70), (55, 15, 71), (55, 16, 72), (55, 17, 73), (55, 18, 74), (55, 19, 75), (0, 29, 42), (42, 0, 43), (42, 1, 44), (42, 2, 45), (42, 3, 46), (42, 4, 47), (42, 5, 48), (42, 6, 49), (42, 7, 50), (42, 8, 51), (42, 9, 52), (42, 10, 53), (42, 11, 54), (0, 28, 29), (29, 0, 30), (29, 1, 31), (29, 2, 32), (29, 3, 33), (29, 4, 34), (29, 5, 35), (29, 6, 36), (29, 7, 37), (29, 8, 38), (29, 9, 39), (29, 10, 40), (29, 11, 41), (0, 27, 28), (0, 26, 27), (0, 25, 26), (0, 24, 22), (22, 0, 23), (22, 1, 24), (22, 2, 25), (0, 22, 21), (0, 20, 16), (16, 0, 17), (16, 1, 18), (16, 2, 19), (16, 3, 20), (0, 19, 11), (11, 0, 12), (11, 1, 13), (11, 2, 14), (11, 3, 15), (0, 18, 10), (0, 17, 9), (0, 16, 8), (0, 15, 7), (0, 14, 6), (0, 13, 5), (0, 12, 4), (0, 11, 3), (0, 10, 2), (0, 9, 1)]
def st_wX10_init_48 : List (Nat × Nat × Int32) := [(0, 3, (-1))]
def st_sX10_init_64 : List ((Nat × Nat) ⊕ Nat) := [.inl (0, 600), .inl (0, 3), .inl (0, 7), .inl (0, 7), .inl (0, 2), .inl (0, 2), .inl (0, 6), .inl (0, 6), .inl (0, 26), .inl (0, 26), .inl (2, 4), .inl (0, 2), .inl (0, 2), .inl (0, 2), .inl (0, 2), .inl (2, 4), .inl (0, 2), .inl (0, 2), .inl (0, 2), .inl (0, 2), .inl (0, 3), .inl (2, 3), .inl (0, 320), .inl (0, 320), .inl (0, 320), .inl (0, 320), .inl (0, 160), .inl (0, 12), .inl (2, 12), .inl (0, 2), .inl (0, 2), .inl (0, 2), .inl (0, 2), .inl (0, 2), .inl (0, 2), .inl (0, 2), .inl (0, 2), .inl (0, 2), .inl (0, 2), .inl (0, 2), .inl (0, 2), .inl (2, 12), .inl (0, 2), .inl (0, 2), .inl (0, 2), .inl (0, 2), .inl (0, 2), .inl (0, 2), .inl (0, 2), .inl (0, 2), .inl (0, 2), .inl (0, 2), .inl (0, 2), .inl (0, 2), .inl (2, 20), .inl (0, 26), .inl (0, 26), .inl (0, 26), .inl (0, 26), .inl (0, 26), .inl (0, 26), .inl (0, 26), .inl (0, 26), .inl (0, 26), .inl (0, 26), .inl (0, 26), .inl (0, 26), .inl (0, 26), .inl (0, 26), .inl (0, 26), .inl (0, 26), .inl (0, 26), .inl (0, 26), .inl (0, 26), .inl (0, 26), .inl (2, 3), .inl (0, 547), .inl (0, 547), .inl (0, 547), .inl (3, 2), .inl (2, 99), .inl (0, 6), .inl (0, 6), .inl (0, 6), .inl (0, 6), .inl (0, 6), .inl (0, 6), .inl (0, 6), .inl (0, 6), .inl (0, 6), .inl (0, 6), .inl (0, 6), .inl (0, 6), .inl (0, 6), .inl (0, 6), .inl (0, 6), .inl (0, 6), .inl (0, 6), .inl (0, 6), .inl (0, 6), .inl (0, 6), .inl (0, 6), .inl (0, 6), .inl (0, 6), .inl (0, 6), .inl (0, 6), .inl (0, 6), .inl (0, 6), .inl (0, 6), .inl (0, 6), .inl (0, 6), .inl (0, 6), .inl (0, 6), .inl (0, 6), .inl (0, 6), .inl (0, 6), .inl (0, 6), .inl (0, 6), .inl (0, 6), .inl (0, 6), .inl (0, 6), .inl (0, 6), .inl (0, 6), .inl (0, 6), .inl (0, 6), .inl (0, 6), .inl (0, 6), .inl (0, 6), .inl (0, 6), .inl (0, 6), .inl (0, 6), .inl (0, 6), .inl (0, 6), .inl (0, 6), .inl (0, 6), .inl (0, 6), .inl (0, 6), .inl (0, 6), .inl (0, 6), .inl (0, 6), .inl (0, 6), .inl (0, 6), .inl (0, 6), .inl (0, 6), .inl (0, 6), .inl (0, 6), .inl (0, 6), .inl (0, 6), .inl (0, 6), .inl (0, 6), .inl (0, 6), .inl (0, 6), .inl (0, 6), .inl (0, 6), .inl (0, 6), .inl (0, 6), .inl (0, 6), .inl (0, 6), .inl (0, 6), .inl (0, 6), .inl (0, 6), .inl (0, 6), .inl (0, 6), .inl (0, 6), .inl (0, 6), .inl (0, 6), .inl (0, 6), .inl (0, 6), .inl (0, 6), .inl (0, 6), .inl (0, 6), .inl (0, 6), .inl (0, 6), .inl (0, 6), .inl (0, 6), .inl (0, 6), .inl (0, 6), .inl (0, 6), .inl (0, 6), .inl (0, 6), .inl (2, 99), .inl (0, 6), .inl (0, 6), .inl (0, 6), .inl (0, 6), .inl (0, 6), .inl (0, 6), .inl (0, 6), .inl (0, 6), .inl (0, 6), .inl (0, 6), .inl (0, 6), .inl (0, 6), .inl (0, 6), .inl (0, 6), .inl (0, 6), .inl (0, 6), .inl (0, 6), .inl (0, 6), .inl (0, 6), .inl (0, 6), .inl (0, 6), .inl (0, 6), .inl (0, 6), .inl (0, 6), .inl (0, 6), .inl (0, 6), .inl (0, 6), .inl (0, 6), .inl (0, 6), .inl (0, 6), .inl (0, 6), .inl (0, 6), .inl (0, 6), .inl (0, 6), .inl (0, 6), .inl (0, 6), .inl (0, 6), .inl (0, 6), .inl (0, 6), .inl (0, 6), .inl (0, 6), .inl (0, 6), .inl (0, 6), .inl (0, 6), .inl (0, 6), .inl (0, 6), .inl (0, 6), .inl (0, 6), .inl (0, 6), .inl (0, 6), .inl (0, 6), .inl (0, 6), .inl (0, 6), .inl (0, 6), .inl (0, 6), .inl (0, 6), .inl (0, 6), .inl (0, 6), .inl (0, 6), .inl (0, 6), .inl (0, 6), .inl (0, 6), .inl (0, 6), .inl (0, 6), .inl (0, 6), .inl (0, 6), .inl (0, 6), .inl (0, 6), .inl (0, 6), .inl (0, 6), .inl (0, 6), .inl (0, 6), .inl (0, 6), .inl (0, 6), .inl (0, 6), .inl (0, 6), .inl (0, 6), .inl (0, 6), .inl (0, 6), .inl (0, 6), .inl (0, 6), .inl (0, 6), .inl (0, 6), .inl (0, 6), .inl (0, 6), .inl (0, 6), .inl (0, 6), .inl (0, 6), .inl (0, 6), .inl (0, 6), .inl (0, 6), .inl (0, 6), .inl (0, 6), .inl (0, 6), .inl (0, 6), .inl (0, 6), .inl (0, 6), .inl (0, 6), .inl (0, 6), .inl (2, 2), .inl (0, 10), .inl (0, 10), .inl (2, 2), .inl (0, 10), .inl (0, 10), .inl (0, 2), .inl (0, 2), .inl (0, 2), .inl (0, 2), .inl (0, 2), .inl (0, 2), .inl (0, 2), .inl (3, 2), .inl (2, 21), .inl (0, 21), .inl (0, 21), .inl (0, 21), .inl (0, 21), .inl (0, 21), .inl (0, 21), .inl (0, 21), .inl (0, 21), .inl (0, 21), .inl (0, 21), .inl (0, 21), .inl (0, 21), .inl (0, 21), .inl (0, 21), .inl (0, 21), .inl (0, 21), .inl (0, 21), .inl (0, 21), .inl (0, 21), .inl (0, 21), .inl (0, 21), .inl (2, 21), .inl (0, 21), .inl (0, 21), .inl (0, 21), .inl (0, 21), .inl (0, 21), .inl (0, 21), .inl (0, 21), .inl (0, 21), .inl (0, 21), .inl (0, 21), .inl (0, 21), .inl (0, 21), .inl (0, 21), .inl (0, 21), .inl (0, 21), .inl (0, 21), .inl (0, 21), .inl (0, 21), .inl (0, 21), .inl (0, 21), .inl (0, 21)]
def st_rX10_init_64 : List (Nat × Nat × Nat) := [(295, 0, 296), (295, 1, 297), (295, 2, 298), (295, 3, 299), (295, 4, 300), (295, 5, 301), (295, 6, 302), (295, 7, 303), (295, 8, 304), (295, 9, 305), (295, 10, 306), (295, 11, 307), (295, 12, 308), (295, 13, 309), (295, 14, 310), (295, 15, 311), (295, 16, 312), (295, 17, 313), (295, 18, 314), (295, 19, 315), (295, 20, 316), (317, 0, 318), (317, 1, 319), (317, 2, 320), (317, 3, 321), (317, 4, 322), (317, 5, 323), (317, 6, 324), (317, 7, 325), (317, 8, 326), (317, 9, 327), (317, 10, 328), (317, 11, 329), (317, 12, 330), (317, 13, 331), (317, 14, 332), (317, 15, 333), (317, 16, 334), (317, 17, 335), (317, 18, 336), (317, 19, 337), (317, 20, 338), (294, 0, 295), (294, 1, 317), (0, 45, 293), (0, 44, 292), (0, 43, 291), (0, 42, 290), (0, 41, 289), (0, 40, 288), (0, 39, 287), (0, 38, 284), (284, 0, 285), (284, 1, 286), (0, 37, 281), (281, 0, 282), (281, 1, 283), (0, 36, 80), (81, 0, 82), (81, 1, 83), (81, 2, 84), (81, 3, 85), (81, 4, 86), (81, 5, 87), (81, 6, 88), (81, 7, 89), (81, 8, 90), (81, 9, 91), (81, 10, 92), (81, 11, 93), (81, 12, 94), (81, 13, 95), (81, 14, 96), (81, 15, 97), (81, 16, 98), (81, 17, 99), (81, 18, 100), (81, 19, 101), (81, 20, 102), (81, 21, 103), (81, 22, 104), (81, 23, 105), (81, 24, 106), (81, 25, 107), (81, 26, 108), (81, 27, 109), (81, 28, 110), (81, 29, 111), (81, 30, 112), (81, 31, 113), (81, 32, 114), (81, 33, 115), (81, 34, 116), (81, 35, 117), (81, 36, 118), (81, 37, 119), (81, 38, 120), (81, 39, 121), (81, 40, 122), (81, 41, 123), (81, 42, 124), (81, 43, 125), (81, 44, 126), (81, 45, 127), (81, 46, 128), (81, 47, 129), (81, 48, 130), (81, 49, 131), (81, 50, 132), (81, 51, 133), (81, 52, 134), (81, 53, 135), (81, 54, 136), (81, 55, 137), (81, 56, 138), (81, 57, 139), (81, 58, 140), (81, 59, 141), (81, 60, 142), (81, 61, 143), (81, 62, 144), (81, 63, 145), (81, 64, 146), (81, 65, 147), (81, 66, 148), (81, 67, 149), (81, 68, 150), (81, 69, 151), (81, 70, 152), (81, 71, 153), (81, 72, 154), (81, 73, 155), (81, 74, 156), (81, 75, 157), (81, 76, 158), (81, 77, 159), (81, 78, 160), (81, 79, 161), (81, 80, 162), (81, 81, 163), (81, 82, 164), (81, 83, 165), (81, 84, 166), (81, 85, 167), (81, 86, 168), (81, 87, 169), (81, 88, 170), (81, 89, 171), (81, 90, 172), (81, 91, 173), (81, 92, 174), (81, 93, 175), (81, 94, 176), (81, 95, 177), (81, 96, 178), (81, 97, 179), (81, 98, 180), (181, 0, 182), (181, 1, 183), (181, 2, 184), (181, 3, 185), (181, 4, 186), (181, 5, 187), (181, 6, 188), (181, 7, 189), (181, 8, 190), (181, 9, 191), (181, 10, 192), (181, 11, 193), (181, 12, 194), (181, 13, 195), (181, 14, 196), (181, 15, 197), (181, 16, 198), (181, 17, 199), (181, 18, 200), (181, 19, 201), (181, 20, 202), (181, 21, 203), (181, 22, 204), (181, 23, 205), (181, 24, 206), (181, 25, 207), (181, 26, 208), (181, 27, 209), (181, 28, 210), (181, 29, 211), (181, 30, 212), (181, 31, 213), (181, 32, 214), (181, 33, 215), (181, 34, 216), (181, 35, 217), (181, 36, 218), (181, 37, 219), (181, 38, 220), (181, 39, 221), (181, 40, 222), (181, 41, 223), (181, 42, 224), (181, 43, 225), (181, 44, 226), (181, 45, 227), (181, 46, 228), (181, 47, 229), (181, 48, 230), (181, 49, 231), (181, 50, 232), (181, 51, 233), (181, 52, 234), (181, 53, 235), (181, 54, 236), (181, 55, 237), (181, 56, 238), (181, 57, 239), (181, 58, 240), (181, 59, 241), (181, 60, 242), (181, 61, 243), (181, 62, 244), (181, 63, 245), (181, 64, 246), (181, 65, 247), (181, 66, 248), (181, 67, 249), (181, 68, 250), (181, 69, 251), (181, 70, 252), (181, 71, 253), (181, 72, 254), (181, 73, 255), (181, 74, 256), (181, 75, 257), (181, 76, 258), (181, 77, 259), (181, 78, 260), (181, 79, 261), (181, 80, 262), (181, 81, 263), (181, 82, 264), (181, 83, 265), (181, 84, 266), (181, 85, 267), (181, 86, 268), (181, 87, 269), (181, 88, 270), (181, 89, 271), (181, 90, 272), (181, 91, 273), (181, 92, 274), (181, 93, 275), (181, 94, 276), (181, 95, 277), (181, 96, 278), (181, 97, 279), (181, 98, 280), (80, 0, 81), (80, 1, 181), (0, 31, 76), (76, 0, 77), (76, 1, 78), (76, 2, 79), (0, 30, 55), (55, 0, 56), (55, 1, 57), (55, 2, 58), (55, 3, 59), (55, 4, 60), (55, 5, 61), (55, 6, 62), (55, 7, 63), (55, 8, 64), (55, 9, 65), (55, 10, 66), (55, 11, 67), (55, 12, 68), (55, 13, 69), (55, 14, 70), (55, 15, 71), (55, 16, 72), (55, 17, 73), (55, 18, 74), (55, 19, 75), (0, 29, 42), (42, 0, 43), (42, 1, 44), (42, 2, 45), (42, 3, 46), (42, 4, 47), (42, 5, 48), (42, 6, 49), (42, 7, 50), (42, 8, 51), (42, 9, 52), (42, 10, 53), (42, 11, 54), (0, 28, 29), (29, 0, 30), (29, 1, 31), (29, 2, 32), (29, 3, 33), (29, 4, 34), (29, 5, 35), (29, 6, 36), (29, 7, 37), (29, 8, 38), (29, 9, 39), (29, 10, 40), (29, 11, 41), (0, 27, 28), (0, 26, 27), (0, 25, 26), (0, 24, 22), (22, 0, 23), (22, 1, 24), (22, 2, 25), (0, 22, 21), (0, 20, 16), (16, 0, 17), (16, 1, 18), (16, 2, 19), (16, 3, 20), (0, 19, 11), (11, 0, 12), (11, 1, 13), (11, 2, 14), (11, 3, 15), (0, 18, 10), (0, 17, 9), (0, 16, 8), (0, 15, 7), (0, 14, 6), (0, 13, 5), (0, 12, 4), (0, 11, 3), (0, 10, 2), (0, 9, 1)]
def st_wX10_init_64 : List (Nat × Nat × Int32) := [(0, 3, (-1))]
set_option maxHeartbeats 8000000 in
theorem i_X10_init {a : Nat} (h90 : a = 90) (hX : ic ax_Z M 0 x_s x_r x_w) (hn : M.2.2.2.2 = a) (hs : M.2.2.2.1 a = some (.inr 10)) (ha : a ≠ 0) (hz : ∀ i k, M.1 (a + i) k = 0) : ax_MetE l G kX10_init 3 341 6941 M [av_r a] (fun o M2 => o = .inl none ∧ ∃ A, ic ax_Z A 0 all_s all_r all_w ∧ M2 = mk_stands (mk_tells A)) := by
  refine ax_bodyE (by decide) (Nat.le_of_ble_eq_true rfl) ?_
  refine ax_gen (fun A0 hA0 => ?_)
  have i0 : ic M A0 a [] [] [] := by rw [hA0]; exact ic_0 hn hz
  have n0 : A0.2.2.2.2 = a := by rw [hA0]; exact hn
  have s0 : A0.2.2.2.1 a = some (.inr 10) := by rw [hA0]; exact hs
  clear hA0
  refine ax_aload_n dX10_init_0 rfl ?_
  refine ax_objInit dX10_init_1 wd_1585 (ax_in1 (List.mem_of_getElem? (i := 31) rfl)) (ax_in1 (List.mem_of_getElem? (i := 32) rfl)) ha (by omega) rfl ?_
  refine ax_aload_n dX10_init_4 rfl ?_
  refine ax_iconst (v := (-1)) dX10_init_5 (by decide) ?_
  refine ax_putI (f := 3) dX10_init_6 acl_10 wd_1603 (by decide) rfl rfl (ax_nfI rfl) s0 ?_
  refine ax_gen (fun A1 hA1 => ?_)
  have i1 := ic_putI (i := 0) i0 hA1 (by omega)
  have n1 : A1.2.2.2.2 = a := i1.1
  have s1 : A1.2.2.2.1 a = some (.inr 10) := (i1.2.1 a (Nat.le_refl _)).trans hs
  clear hA1
  refine ax_aload_n dX10_init_9 rfl ?_
  refine ax_sipush (v := 600) dX10_init_10 (by decide) ?_
  refine ax_newa (kd := 0) (len := 600) (c1 := 340) (n1 := 6341) dX10_init_13 rfl (by decide) (ax_in1 (List.mem_of_getElem? (i := 73) rfl)) (by decide) (by decide) (by decide) (by omega) (by omega) ?_
  refine ax_gen (fun A2 hA2 => ?_)
  rw [show A1.2.2.2.2 + 1 = a + 1 by omega]
  have i2 := ic_new i1 hA2 (by decide +kernel) (by decide +kernel)
  have n2 : A2.2.2.2.2 = a + 1 := ic_n i2 (by decide +kernel)
  have s2 : A2.2.2.2.1 a = some (.inr 10) := (i2.2.1 a (Nat.le_refl _)).trans hs
  clear hA2 i1 n1 s1
  refine ax_putRF (f := 9) dX10_init_15 acl_10 wd_1609 (by decide) rfl rfl rfl rfl (ax_nfR (Or.inr ⟨_, rfl⟩)) s2 ?_
  refine ax_gen (fun A3 hA3 => ?_)
  have i3 := ic_putR (i := 0) (j := 1) i2 hA3 (by omega) (by omega) (by decide +kernel)
  have n3 : A3.2.2.2.2 = a + 1 := ic_n i3 (by decide +kernel)
  have s3 : A3.2.2.2.1 a = some (.inr 10) := (i3.2.1 a (Nat.le_refl _)).trans hs
  clear hA3 i2 n2 s2
  refine ax_aload_n dX10_init_18 rfl ?_
  refine ax_iconst (v := 3) dX10_init_19 (by decide) ?_
  refine ax_newa (kd := 0) (len := 3) (c1 := 339) (n1 := 6338) dX10_init_20 rfl (by decide) (ax_in1 (List.mem_of_getElem? (i := 73) rfl)) (by decide) (by decide) (by decide) (by omega) (by omega) ?_
  refine ax_gen (fun A4 hA4 => ?_)
  rw [show A3.2.2.2.2 + 1 = a + 2 by omega]
  have i4 := ic_new i3 hA4 (by decide +kernel) (by decide +kernel)
  have n4 : A4.2.2.2.2 = a + 2 := ic_n i4 (by decide +kernel)
  have s4 : A4.2.2.2.1 a = some (.inr 10) := (i4.2.1 a (Nat.le_refl _)).trans hs
  clear hA4 i3 n3 s3
  refine ax_putRF (f := 10) dX10_init_22 acl_10 wd_1610 (by decide) rfl rfl rfl rfl (ax_nfR (Or.inr ⟨_, rfl⟩)) s4 ?_
  refine ax_gen (fun A5 hA5 => ?_)
  have i5 := ic_putR (i := 0) (j := 2) i4 hA5 (by omega) (by omega) (by decide +kernel)
  have n5 : A5.2.2.2.2 = a + 2 := ic_n i5 (by decide +kernel)
  have s5 : A5.2.2.2.1 a = some (.inr 10) := (i5.2.1 a (Nat.le_refl _)).trans hs
  clear hA5 i4 n4 s4
  refine ax_aload_n dX10_init_25 rfl ?_
  refine ax_bipush (v := 7) dX10_init_26 (by decide) ?_
  refine ax_newa (kd := 0) (len := 7) (c1 := 338) (n1 := 6331) dX10_init_28 rfl (by decide) (ax_in1 (List.mem_of_getElem? (i := 73) rfl)) (by decide) (by decide) (by decide) (by omega) (by omega) ?_
  refine ax_gen (fun A6 hA6 => ?_)
  rw [show A5.2.2.2.2 + 1 = a + 3 by omega]
  have i6 := ic_new i5 hA6 (by decide +kernel) (by decide +kernel)
  have n6 : A6.2.2.2.2 = a + 3 := ic_n i6 (by decide +kernel)
  have s6 : A6.2.2.2.1 a = some (.inr 10) := (i6.2.1 a (Nat.le_refl _)).trans hs
  clear hA6 i5 n5 s5
  refine ax_putRF (f := 11) dX10_init_30 acl_10 wd_1611 (by decide) rfl rfl rfl rfl (ax_nfR (Or.inr ⟨_, rfl⟩)) s6 ?_
  refine ax_gen (fun A7 hA7 => ?_)
  have i7 := ic_putR (i := 0) (j := 3) i6 hA7 (by omega) (by omega) (by decide +kernel)
  have n7 : A7.2.2.2.2 = a + 3 := ic_n i7 (by decide +kernel)
  have s7 : A7.2.2.2.1 a = some (.inr 10) := (i7.2.1 a (Nat.le_refl _)).trans hs
  clear hA7 i6 n6 s6
  refine ax_aload_n dX10_init_33 rfl ?_
  refine ax_bipush (v := 7) dX10_init_34 (by decide) ?_
  refine ax_newa (kd := 0) (len := 7) (c1 := 337) (n1 := 6324) dX10_init_36 rfl (by decide) (ax_in1 (List.mem_of_getElem? (i := 73) rfl)) (by decide) (by decide) (by decide) (by omega) (by omega) ?_
  refine ax_gen (fun A8 hA8 => ?_)
  rw [show A7.2.2.2.2 + 1 = a + 4 by omega]
  have i8 := ic_new i7 hA8 (by decide +kernel) (by decide +kernel)
  have n8 : A8.2.2.2.2 = a + 4 := ic_n i8 (by decide +kernel)
  have s8 : A8.2.2.2.1 a = some (.inr 10) := (i8.2.1 a (Nat.le_refl _)).trans hs
  clear hA8 i7 n7 s7
  refine ax_putRF (f := 12) dX10_init_38 acl_10 wd_1612 (by decide) rfl rfl rfl rfl (ax_nfR (Or.inr ⟨_, rfl⟩)) s8 ?_
  refine ax_gen (fun A9 hA9 => ?_)
  have i9 := ic_putR (i := 0) (j := 4) i8 hA9 (by omega) (by omega) (by decide +kernel)
  have n9 : A9.2.2.2.2 = a + 4 := ic_n i9 (by decide +kernel)
  have s9 : A9.2.2.2.1 a = some (.inr 10) := (i9.2.1 a (Nat.le_refl _)).trans hs
  clear hA9 i8 n8 s8
  refine ax_aload_n dX10_init_41 rfl ?_
  refine ax_iconst (v := 2) dX10_init_42 (by decide) ?_
  refine ax_newa (kd := 0) (len := 2) (c1 := 336) (n1 := 6322) dX10_init_43 rfl (by decide) (ax_in1 (List.mem_of_getElem? (i := 73) rfl)) (by decide) (by decide) (by decide) (by omega) (by omega) ?_
  refine ax_gen (fun A10 hA10 => ?_)
  rw [show A9.2.2.2.2 + 1 = a + 5 by omega]
  have i10 := ic_new i9 hA10 (by decide +kernel) (by decide +kernel)
  have n10 : A10.2.2.2.2 = a + 5 := ic_n i10 (by decide +kernel)
  have s10 : A10.2.2.2.1 a = some (.inr 10) := (i10.2.1 a (Nat.le_refl _)).trans hs
  clear hA10 i9 n9 s9
  refine ax_putRF (f := 13) dX10_init_45 acl_10 wd_1613 (by decide) rfl rfl rfl rfl (ax_nfR (Or.inr ⟨_, rfl⟩)) s10 ?_
  refine ax_gen (fun A11 hA11 => ?_)
  have i11 := ic_putR (i := 0) (j := 5) i10 hA11 (by omega) (by omega) (by decide +kernel)
  have n11 : A11.2.2.2.2 = a + 5 := ic_n i11 (by decide +kernel)
  have s11 : A11.2.2.2.1 a = some (.inr 10) := (i11.2.1 a (Nat.le_refl _)).trans hs
  clear hA11 i10 n10 s10
  refine ax_aload_n dX10_init_48 rfl ?_
  refine ax_iconst (v := 2) dX10_init_49 (by decide) ?_
  refine ax_newa (kd := 0) (len := 2) (c1 := 335) (n1 := 6320) dX10_init_50 rfl (by decide) (ax_in1 (List.mem_of_getElem? (i := 73) rfl)) (by decide) (by decide) (by decide) (by omega) (by omega) ?_
  refine ax_gen (fun A12 hA12 => ?_)
  rw [show A11.2.2.2.2 + 1 = a + 6 by omega]
  have i12 := ic_new i11 hA12 (by decide +kernel) (by decide +kernel)
  have n12 : A12.2.2.2.2 = a + 6 := ic_n i12 (by decide +kernel)
  have s12 : A12.2.2.2.1 a = some (.inr 10) := (i12.2.1 a (Nat.le_refl _)).trans hs
  clear hA12 i11 n11 s11
  refine ax_putRF (f := 14) dX10_init_52 acl_10 wd_1614 (by decide) rfl rfl rfl rfl (ax_nfR (Or.inr ⟨_, rfl⟩)) s12 ?_
  refine ax_gen (fun A13 hA13 => ?_)
  have i13 := ic_putR (i := 0) (j := 6) i12 hA13 (by omega) (by omega) (by decide +kernel)
  have n13 : A13.2.2.2.2 = a + 6 := ic_n i13 (by decide +kernel)
  have s13 : A13.2.2.2.1 a = some (.inr 10) := (i13.2.1 a (Nat.le_refl _)).trans hs
  clear hA13 i12 n12 s12
  refine ax_aload_n dX10_init_55 rfl ?_
  refine ax_bipush (v := 6) dX10_init_56 (by decide) ?_
  refine ax_newa (kd := 0) (len := 6) (c1 := 334) (n1 := 6314) dX10_init_58 rfl (by decide) (ax_in1 (List.mem_of_getElem? (i := 73) rfl)) (by decide) (by decide) (by decide) (by omega) (by omega) ?_
  refine ax_gen (fun A14 hA14 => ?_)
  rw [show A13.2.2.2.2 + 1 = a + 7 by omega]
  have i14 := ic_new i13 hA14 (by decide +kernel) (by decide +kernel)
  have n14 : A14.2.2.2.2 = a + 7 := ic_n i14 (by decide +kernel)
  have s14 : A14.2.2.2.1 a = some (.inr 10) := (i14.2.1 a (Nat.le_refl _)).trans hs
  clear hA14 i13 n13 s13
  refine ax_putRF (f := 15) dX10_init_60 acl_10 wd_1615 (by decide) rfl rfl rfl rfl (ax_nfR (Or.inr ⟨_, rfl⟩)) s14 ?_
  refine ax_gen (fun A15 hA15 => ?_)
  have i15 := ic_putR (i := 0) (j := 7) i14 hA15 (by omega) (by omega) (by decide +kernel)
  have n15 : A15.2.2.2.2 = a + 7 := ic_n i15 (by decide +kernel)
  have s15 : A15.2.2.2.1 a = some (.inr 10) := (i15.2.1 a (Nat.le_refl _)).trans hs
  clear hA15 i14 n14 s14
  refine ax_aload_n dX10_init_63 rfl ?_
  refine ax_bipush (v := 6) dX10_init_64 (by decide) ?_
  refine ax_newa (kd := 0) (len := 6) (c1 := 333) (n1 := 6308) dX10_init_66 rfl (by decide) (ax_in1 (List.mem_of_getElem? (i := 73) rfl)) (by decide) (by decide) (by decide) (by omega) (by omega) ?_
  refine ax_gen (fun A16 hA16 => ?_)
  rw [show A15.2.2.2.2 + 1 = a + 8 by omega]
  have i16 := ic_new i15 hA16 (by decide +kernel) (by decide +kernel)
  have n16 : A16.2.2.2.2 = a + 8 := ic_n i16 (by decide +kernel)
  have s16 : A16.2.2.2.1 a = some (.inr 10) := (i16.2.1 a (Nat.le_refl _)).trans hs
  clear hA16 i15 n15 s15
  refine ax_putRF (f := 16) dX10_init_68 acl_10 wd_1616 (by decide) rfl rfl rfl rfl (ax_nfR (Or.inr ⟨_, rfl⟩)) s16 ?_
  refine ax_gen (fun A17 hA17 => ?_)
  have i17 := ic_putR (i := 0) (j := 8) i16 hA17 (by omega) (by omega) (by decide +kernel)
  have n17 : A17.2.2.2.2 = a + 8 := ic_n i17 (by decide +kernel)
  have s17 : A17.2.2.2.1 a = some (.inr 10) := (i17.2.1 a (Nat.le_refl _)).trans hs
  clear hA17 i16 n16 s16
  refine ax_aload_n dX10_init_71 rfl ?_
  refine ax_bipush (v := 26) dX10_init_72 (by decide) ?_
  refine ax_newa (kd := 0) (len := 26) (c1 := 332) (n1 := 6282) dX10_init_74 rfl (by decide) (ax_in1 (List.mem_of_getElem? (i := 73) rfl)) (by decide) (by decide) (by decide) (by omega) (by omega) ?_
  refine ax_gen (fun A18 hA18 => ?_)
  rw [show A17.2.2.2.2 + 1 = a + 9 by omega]
  have i18 := ic_new i17 hA18 (by decide +kernel) (by decide +kernel)
  have n18 : A18.2.2.2.2 = a + 9 := ic_n i18 (by decide +kernel)
  have s18 : A18.2.2.2.1 a = some (.inr 10) := (i18.2.1 a (Nat.le_refl _)).trans hs
  clear hA18 i17 n17 s17
  refine ax_putRF (f := 17) dX10_init_76 acl_10 wd_1617 (by decide) rfl rfl rfl rfl (ax_nfR (Or.inr ⟨_, rfl⟩)) s18 ?_
  refine ax_gen (fun A19 hA19 => ?_)
  have i19 := ic_putR (i := 0) (j := 9) i18 hA19 (by omega) (by omega) (by decide +kernel)
  have n19 : A19.2.2.2.2 = a + 9 := ic_n i19 (by decide +kernel)
  have s19 : A19.2.2.2.1 a = some (.inr 10) := (i19.2.1 a (Nat.le_refl _)).trans hs
  clear hA19 i18 n18 s18
  refine ax_aload_n dX10_init_79 rfl ?_
  refine ax_bipush (v := 26) dX10_init_80 (by decide) ?_
  refine ax_newa (kd := 0) (len := 26) (c1 := 331) (n1 := 6256) dX10_init_82 rfl (by decide) (ax_in1 (List.mem_of_getElem? (i := 73) rfl)) (by decide) (by decide) (by decide) (by omega) (by omega) ?_
  refine ax_gen (fun A20 hA20 => ?_)
  rw [show A19.2.2.2.2 + 1 = a + 10 by omega]
  have i20 := ic_new i19 hA20 (by decide +kernel) (by decide +kernel)
  have n20 : A20.2.2.2.2 = a + 10 := ic_n i20 (by decide +kernel)
  have s20 : A20.2.2.2.1 a = some (.inr 10) := (i20.2.1 a (Nat.le_refl _)).trans hs
  clear hA20 i19 n19 s19
  refine ax_putRF (f := 18) dX10_init_84 acl_10 wd_1618 (by decide) rfl rfl rfl rfl (ax_nfR (Or.inr ⟨_, rfl⟩)) s20 ?_
  refine ax_gen (fun A21 hA21 => ?_)
  have i21 := ic_putR (i := 0) (j := 10) i20 hA21 (by omega) (by omega) (by decide +kernel)
  have n21 : A21.2.2.2.2 = a + 10 := ic_n i21 (by decide +kernel)
  have s21 : A21.2.2.2.1 a = some (.inr 10) := (i21.2.1 a (Nat.le_refl _)).trans hs
  clear hA21 i20 n20 s20
  refine ax_aload_n dX10_init_87 rfl ?_
  refine ax_iconst (v := 4) dX10_init_88 (by decide) ?_
  refine ax_iconst (v := 2) dX10_init_89 (by decide) ?_
  refine ax_mna2 (N := 4) (K := 2) (c1 := 326) (n1 := 6244) dX10_init_90 wd_1586 rfl rfl (by decide) (by decide) (by omega) (by omega) ?_
  refine ax_gen (fun A22 hA22 => ?_)
  rw [show A21.2.2.2.2 + 1 = a + 11 by omega]
  rw [n21] at hA22
  have i22 := ic_alm (rf2 := (List.range 4).map (fun j => (11, j, 12 + j))) i21 hA22 (by decide +kernel) (by decide +kernel) (by decide +kernel) (al2 10 4 2 a)
  replace i22 := ic_eq (sh2 := st_sX10_init_22) (rf2 := st_rX10_init_22) (w2 := st_wX10_init_22) i22 (by decide +kernel) (by decide +kernel) (by decide +kernel)
  have n22 : A22.2.2.2.2 = a + 15 := ic_n i22 (by decide +kernel)
  have s22 : A22.2.2.2.1 a = some (.inr 10) := (i22.2.1 a (Nat.le_refl _)).trans hs
  clear hA22 i21 n21 s21
  refine ax_putRF (f := 19) dX10_init_94 acl_10 wd_1619 (by decide) rfl rfl rfl rfl (ax_nfR (Or.inr ⟨_, rfl⟩)) s22 ?_
  refine ax_gen (fun A23 hA23 => ?_)
  have i23 := ic_putR (i := 0) (j := 11) i22 hA23 (by omega) (by omega) (by decide +kernel)
  have n23 : A23.2.2.2.2 = a + 15 := ic_n i23 (by decide +kernel)
  have s23 : A23.2.2.2.1 a = some (.inr 10) := (i23.2.1 a (Nat.le_refl _)).trans hs
  clear hA23 i22 n22 s22
  refine ax_aload_n dX10_init_97 rfl ?_
  refine ax_iconst (v := 4) dX10_init_98 (by decide) ?_
  refine ax_iconst (v := 2) dX10_init_99 (by decide) ?_
  refine ax_mna2 (N := 4) (K := 2) (c1 := 321) (n1 := 6232) dX10_init_100 wd_1586 rfl rfl (by decide) (by decide) (by omega) (by omega) ?_
  refine ax_gen (fun A24 hA24 => ?_)
  rw [show A23.2.2.2.2 + 1 = a + 16 by omega]
  rw [n23] at hA24
  have i24 := ic_alm (rf2 := (List.range 4).map (fun j => (16, j, 17 + j))) i23 hA24 (by decide +kernel) (by decide +kernel) (by decide +kernel) (al2 15 4 2 a)
  replace i24 := ic_eq (sh2 := st_sX10_init_24) (rf2 := st_rX10_init_24) (w2 := st_wX10_init_24) i24 (by decide +kernel) (by decide +kernel) (by decide +kernel)
  have n24 : A24.2.2.2.2 = a + 20 := ic_n i24 (by decide +kernel)
  have s24 : A24.2.2.2.1 a = some (.inr 10) := (i24.2.1 a (Nat.le_refl _)).trans hs
  clear hA24 i23 n23 s23
  refine ax_putRF (f := 20) dX10_init_104 acl_10 wd_1620 (by decide) rfl rfl rfl rfl (ax_nfR (Or.inr ⟨_, rfl⟩)) s24 ?_
  refine ax_gen (fun A25 hA25 => ?_)
  have i25 := ic_putR (i := 0) (j := 16) i24 hA25 (by omega) (by omega) (by decide +kernel)
  have n25 : A25.2.2.2.2 = a + 20 := ic_n i25 (by decide +kernel)
  have s25 : A25.2.2.2.1 a = some (.inr 10) := (i25.2.1 a (Nat.le_refl _)).trans hs
  clear hA25 i24 n24 s24
  refine ax_aload_n dX10_init_107 rfl ?_
  refine ax_iconst (v := 3) dX10_init_108 (by decide) ?_
  refine ax_newa (kd := 0) (len := 3) (c1 := 320) (n1 := 6229) dX10_init_109 rfl (by decide) (ax_in1 (List.mem_of_getElem? (i := 73) rfl)) (by decide) (by decide) (by decide) (by omega) (by omega) ?_
  refine ax_gen (fun A26 hA26 => ?_)
  rw [show A25.2.2.2.2 + 1 = a + 21 by omega]
  have i26 := ic_new i25 hA26 (by decide +kernel) (by decide +kernel)
  have n26 : A26.2.2.2.2 = a + 21 := ic_n i26 (by decide +kernel)
  have s26 : A26.2.2.2.1 a = some (.inr 10) := (i26.2.1 a (Nat.le_refl _)).trans hs
  clear hA26 i25 n25 s25
  refine ax_putRF (f := 22) dX10_init_111 acl_10 wd_1622 (by decide) rfl rfl rfl rfl (ax_nfR (Or.inr ⟨_, rfl⟩)) s26 ?_
  refine ax_gen (fun A27 hA27 => ?_)
  have i27 := ic_putR (i := 0) (j := 21) i26 hA27 (by omega) (by omega) (by decide +kernel)
  have n27 : A27.2.2.2.2 = a + 21 := ic_n i27 (by decide +kernel)
  have s27 : A27.2.2.2.1 a = some (.inr 10) := (i27.2.1 a (Nat.le_refl _)).trans hs
  clear hA27 i26 n26 s26
  refine ax_aload_n dX10_init_114 rfl ?_
  refine ax_iconst (v := 3) dX10_init_115 (by decide) ?_
  refine ax_sipush (v := 320) dX10_init_116 (by decide) ?_
  refine ax_mna2 (N := 3) (K := 320) (c1 := 316) (n1 := 5266) dX10_init_119 wd_1586 rfl rfl (by decide) (by decide) (by omega) (by omega) ?_
  refine ax_gen (fun A28 hA28 => ?_)
  rw [show A27.2.2.2.2 + 1 = a + 22 by omega]
  rw [n27] at hA28
  have i28 := ic_alm (rf2 := (List.range 3).map (fun j => (22, j, 23 + j))) i27 hA28 (by decide +kernel) (by decide +kernel) (by decide +kernel) (al2 21 3 320 a)
  replace i28 := ic_eq (sh2 := st_sX10_init_28) (rf2 := st_rX10_init_28) (w2 := st_wX10_init_28) i28 (by decide +kernel) (by decide +kernel) (by decide +kernel)
  have n28 : A28.2.2.2.2 = a + 25 := ic_n i28 (by decide +kernel)
  have s28 : A28.2.2.2.1 a = some (.inr 10) := (i28.2.1 a (Nat.le_refl _)).trans hs
  clear hA28 i27 n27 s27
  refine ax_putRF (f := 24) dX10_init_123 acl_10 wd_1624 (by decide) rfl rfl rfl rfl (ax_nfR (Or.inr ⟨_, rfl⟩)) s28 ?_
  refine ax_gen (fun A29 hA29 => ?_)
  have i29 := ic_putR (i := 0) (j := 22) i28 hA29 (by omega) (by omega) (by decide +kernel)
  have n29 : A29.2.2.2.2 = a + 25 := ic_n i29 (by decide +kernel)
  have s29 : A29.2.2.2.1 a = some (.inr 10) := (i29.2.1 a (Nat.le_refl _)).trans hs
  clear hA29 i28 n28 s28
  refine ax_aload_n dX10_init_126 rfl ?_
  refine ax_sipush (v := 320) dX10_init_127 (by decide) ?_
  refine ax_newa (kd := 0) (len := 320) (c1 := 315) (n1 := 4946) dX10_init_130 rfl (by decide) (ax_in1 (List.mem_of_getElem? (i := 73) rfl)) (by decide) (by decide) (by decide) (by omega) (by omega) ?_
  refine ax_gen (fun A30 hA30 => ?_)
  rw [show A29.2.2.2.2 + 1 = a + 26 by omega]
  have i30 := ic_new i29 hA30 (by decide +kernel) (by decide +kernel)
  have n30 : A30.2.2.2.2 = a + 26 := ic_n i30 (by decide +kernel)
  have s30 : A30.2.2.2.1 a = some (.inr 10) := (i30.2.1 a (Nat.le_refl _)).trans hs
  clear hA30 i29 n29 s29
  refine ax_putRF (f := 25) dX10_init_132 acl_10 wd_1625 (by decide) rfl rfl rfl rfl (ax_nfR (Or.inr ⟨_, rfl⟩)) s30 ?_
  refine ax_gen (fun A31 hA31 => ?_)
  have i31 := ic_putR (i := 0) (j := 26) i30 hA31 (by omega) (by omega) (by decide +kernel)
  have n31 : A31.2.2.2.2 = a + 26 := ic_n i31 (by decide +kernel)
  have s31 : A31.2.2.2.1 a = some (.inr 10) := (i31.2.1 a (Nat.le_refl _)).trans hs
  clear hA31 i30 n30 s30
  refine ax_aload_n dX10_init_135 rfl ?_
  refine ax_sipush (v := 160) dX10_init_136 (by decide) ?_
  refine ax_newa (kd := 0) (len := 160) (c1 := 314) (n1 := 4786) dX10_init_139 rfl (by decide) (ax_in1 (List.mem_of_getElem? (i := 73) rfl)) (by decide) (by decide) (by decide) (by omega) (by omega) ?_
  refine ax_gen (fun A32 hA32 => ?_)
  rw [show A31.2.2.2.2 + 1 = a + 27 by omega]
  have i32 := ic_new i31 hA32 (by decide +kernel) (by decide +kernel)
  have n32 : A32.2.2.2.2 = a + 27 := ic_n i32 (by decide +kernel)
  have s32 : A32.2.2.2.1 a = some (.inr 10) := (i32.2.1 a (Nat.le_refl _)).trans hs
  clear hA32 i31 n31 s31
  refine ax_putRF (f := 26) dX10_init_141 acl_10 wd_1626 (by decide) rfl rfl rfl rfl (ax_nfR (Or.inr ⟨_, rfl⟩)) s32 ?_
  refine ax_gen (fun A33 hA33 => ?_)
  have i33 := ic_putR (i := 0) (j := 27) i32 hA33 (by omega) (by omega) (by decide +kernel)
  have n33 : A33.2.2.2.2 = a + 27 := ic_n i33 (by decide +kernel)
  have s33 : A33.2.2.2.1 a = some (.inr 10) := (i33.2.1 a (Nat.le_refl _)).trans hs
  clear hA33 i32 n32 s32
  refine ax_aload_n dX10_init_144 rfl ?_
  refine ax_bipush (v := 12) dX10_init_145 (by decide) ?_
  refine ax_newa (kd := 0) (len := 12) (c1 := 313) (n1 := 4774) dX10_init_147 rfl (by decide) (ax_in1 (List.mem_of_getElem? (i := 73) rfl)) (by decide) (by decide) (by decide) (by omega) (by omega) ?_
  refine ax_gen (fun A34 hA34 => ?_)
  rw [show A33.2.2.2.2 + 1 = a + 28 by omega]
  have i34 := ic_new i33 hA34 (by decide +kernel) (by decide +kernel)
  have n34 : A34.2.2.2.2 = a + 28 := ic_n i34 (by decide +kernel)
  have s34 : A34.2.2.2.1 a = some (.inr 10) := (i34.2.1 a (Nat.le_refl _)).trans hs
  clear hA34 i33 n33 s33
  refine ax_putRF (f := 27) dX10_init_149 acl_10 wd_1627 (by decide) rfl rfl rfl rfl (ax_nfR (Or.inr ⟨_, rfl⟩)) s34 ?_
  refine ax_gen (fun A35 hA35 => ?_)
  have i35 := ic_putR (i := 0) (j := 28) i34 hA35 (by omega) (by omega) (by decide +kernel)
  have n35 : A35.2.2.2.2 = a + 28 := ic_n i35 (by decide +kernel)
  have s35 : A35.2.2.2.1 a = some (.inr 10) := (i35.2.1 a (Nat.le_refl _)).trans hs
  clear hA35 i34 n34 s34
  refine ax_aload_n dX10_init_152 rfl ?_
  refine ax_bipush (v := 12) dX10_init_153 (by decide) ?_
  refine ax_iconst (v := 2) dX10_init_155 (by decide) ?_
  refine ax_mna2 (N := 12) (K := 2) (c1 := 300) (n1 := 4738) dX10_init_156 wd_1586 rfl rfl (by decide) (by decide) (by omega) (by omega) ?_
  refine ax_gen (fun A36 hA36 => ?_)
  rw [show A35.2.2.2.2 + 1 = a + 29 by omega]
  rw [n35] at hA36
  have i36 := ic_alm (rf2 := (List.range 12).map (fun j => (29, j, 30 + j))) i35 hA36 (by decide +kernel) (by decide +kernel) (by decide +kernel) (al2 28 12 2 a)
  replace i36 := ic_eq (sh2 := st_sX10_init_36) (rf2 := st_rX10_init_36) (w2 := st_wX10_init_36) i36 (by decide +kernel) (by decide +kernel) (by decide +kernel)
  have n36 : A36.2.2.2.2 = a + 41 := ic_n i36 (by decide +kernel)
  have s36 : A36.2.2.2.1 a = some (.inr 10) := (i36.2.1 a (Nat.le_refl _)).trans hs
  clear hA36 i35 n35 s35
  refine ax_putRF (f := 28) dX10_init_160 acl_10 wd_1628 (by decide) rfl rfl rfl rfl (ax_nfR (Or.inr ⟨_, rfl⟩)) s36 ?_
  refine ax_gen (fun A37 hA37 => ?_)
  have i37 := ic_putR (i := 0) (j := 29) i36 hA37 (by omega) (by omega) (by decide +kernel)
  have n37 : A37.2.2.2.2 = a + 41 := ic_n i37 (by decide +kernel)
  have s37 : A37.2.2.2.1 a = some (.inr 10) := (i37.2.1 a (Nat.le_refl _)).trans hs
  clear hA37 i36 n36 s36
  refine ax_aload_n dX10_init_163 rfl ?_
  refine ax_bipush (v := 12) dX10_init_164 (by decide) ?_
  refine ax_iconst (v := 2) dX10_init_166 (by decide) ?_
  refine ax_mna2 (N := 12) (K := 2) (c1 := 287) (n1 := 4702) dX10_init_167 wd_1586 rfl rfl (by decide) (by decide) (by omega) (by omega) ?_
  refine ax_gen (fun A38 hA38 => ?_)
  rw [show A37.2.2.2.2 + 1 = a + 42 by omega]
  rw [n37] at hA38
  have i38 := ic_alm (rf2 := (List.range 12).map (fun j => (42, j, 43 + j))) i37 hA38 (by decide +kernel) (by decide +kernel) (by decide +kernel) (al2 41 12 2 a)
  replace i38 := ic_eq (sh2 := st_sX10_init_38) (rf2 := st_rX10_init_38) (w2 := st_wX10_init_38) i38 (by decide +kernel) (by decide +kernel) (by decide +kernel)
  have n38 : A38.2.2.2.2 = a + 54 := ic_n i38 (by decide +kernel)
  have s38 : A38.2.2.2.1 a = some (.inr 10) := (i38.2.1 a (Nat.le_refl _)).trans hs
  clear hA38 i37 n37 s37
  refine ax_putRF (f := 29) dX10_init_171 acl_10 wd_1629 (by decide) rfl rfl rfl rfl (ax_nfR (Or.inr ⟨_, rfl⟩)) s38 ?_
  refine ax_gen (fun A39 hA39 => ?_)
  have i39 := ic_putR (i := 0) (j := 42) i38 hA39 (by omega) (by omega) (by decide +kernel)
  have n39 : A39.2.2.2.2 = a + 54 := ic_n i39 (by decide +kernel)
  have s39 : A39.2.2.2.1 a = some (.inr 10) := (i39.2.1 a (Nat.le_refl _)).trans hs
  clear hA39 i38 n38 s38
  refine ax_aload_n dX10_init_174 rfl ?_
  refine ax_bipush (v := 20) dX10_init_175 (by decide) ?_
  refine ax_bipush (v := 26) dX10_init_177 (by decide) ?_
  refine ax_mna2 (N := 20) (K := 26) (c1 := 266) (n1 := 4162) dX10_init_179 wd_1586 rfl rfl (by decide) (by decide) (by omega) (by omega) ?_
  refine ax_gen (fun A40 hA40 => ?_)
  rw [show A39.2.2.2.2 + 1 = a + 55 by omega]
  rw [n39] at hA40
  have i40 := ic_alm (rf2 := (List.range 20).map (fun j => (55, j, 56 + j))) i39 hA40 (by decide +kernel) (by decide +kernel) (by decide +kernel) (al2 54 20 26 a)
  replace i40 := ic_eq (sh2 := st_sX10_init_40) (rf2 := st_rX10_init_40) (w2 := st_wX10_init_40) i40 (by decide +kernel) (by decide +kernel) (by decide +kernel)
  have n40 : A40.2.2.2.2 = a + 75 := ic_n i40 (by decide +kernel)
  have s40 : A40.2.2.2.1 a = some (.inr 10) := (i40.2.1 a (Nat.le_refl _)).trans hs
  clear hA40 i39 n39 s39
  refine ax_putRF (f := 30) dX10_init_183 acl_10 wd_1630 (by decide) rfl rfl rfl rfl (ax_nfR (Or.inr ⟨_, rfl⟩)) s40 ?_
  refine ax_gen (fun A41 hA41 => ?_)
  have i41 := ic_putR (i := 0) (j := 55) i40 hA41 (by omega) (by omega) (by decide +kernel)
  have n41 : A41.2.2.2.2 = a + 75 := ic_n i41 (by decide +kernel)
  have s41 : A41.2.2.2.1 a = some (.inr 10) := (i41.2.1 a (Nat.le_refl _)).trans hs
  clear hA41 i40 n40 s40
  refine ax_aload_n dX10_init_186 rfl ?_
  refine ax_iconst (v := 3) dX10_init_187 (by decide) ?_
  refine ax_sipush (v := 547) dX10_init_188 (by decide) ?_
  refine ax_mna2 (N := 3) (K := 547) (c1 := 262) (n1 := 2518) dX10_init_191 wd_1586 rfl rfl (by decide) (by decide) (by omega) (by omega) ?_
  refine ax_gen (fun A42 hA42 => ?_)
  rw [show A41.2.2.2.2 + 1 = a + 76 by omega]
  rw [n41] at hA42
  have i42 := ic_alm (rf2 := (List.range 3).map (fun j => (76, j, 77 + j))) i41 hA42 (by decide +kernel) (by decide +kernel) (by decide +kernel) (al2 75 3 547 a)
  replace i42 := ic_eq (sh2 := st_sX10_init_42) (rf2 := st_rX10_init_42) (w2 := st_wX10_init_42) i42 (by decide +kernel) (by decide +kernel) (by decide +kernel)
  have n42 : A42.2.2.2.2 = a + 79 := ic_n i42 (by decide +kernel)
  have s42 : A42.2.2.2.1 a = some (.inr 10) := (i42.2.1 a (Nat.le_refl _)).trans hs
  clear hA42 i41 n41 s41
  refine ax_putRF (f := 31) dX10_init_195 acl_10 wd_1631 (by decide) rfl rfl rfl rfl (ax_nfR (Or.inr ⟨_, rfl⟩)) s42 ?_
  refine ax_gen (fun A43 hA43 => ?_)
  have i43 := ic_putR (i := 0) (j := 76) i42 hA43 (by omega) (by omega) (by decide +kernel)
  have n43 : A43.2.2.2.2 = a + 79 := ic_n i43 (by decide +kernel)
  have s43 : A43.2.2.2.1 a = some (.inr 10) := (i43.2.1 a (Nat.le_refl _)).trans hs
  clear hA43 i42 n42 s42
  refine ax_aload_n dX10_init_198 rfl ?_
  refine ax_iconst (v := 2) dX10_init_199 (by decide) ?_
  refine ax_bipush (v := 99) dX10_init_200 (by decide) ?_
  refine ax_bipush (v := 6) dX10_init_202 (by decide) ?_
  refine ax_mna3 (N := 2) (K := 99) (B := 6) (c1 := 61) (n1 := 1130) dX10_init_204 wd_1587 rfl rfl rfl (by decide) (by decide) (by decide) (by omega) (by omega) ?_
  refine ax_gen (fun A44 hA44 => ?_)
  rw [show A43.2.2.2.2 + 1 = a + 80 by omega]
  rw [n43] at hA44
  have i44 := ic_alm (rf2 := al3l 79 2 99) i43 hA44 (by decide +kernel) (by decide +kernel) (by decide +kernel) (al3 79 2 99 6 a)
  replace i44 := ic_eq (sh2 := st_sX10_init_44) (rf2 := st_rX10_init_44) (w2 := st_wX10_init_44) i44 (by decide +kernel) (by decide +kernel) (by decide +kernel)
  have n44 : A44.2.2.2.2 = a + 280 := ic_n i44 (by decide +kernel)
  have s44 : A44.2.2.2.1 a = some (.inr 10) := (i44.2.1 a (Nat.le_refl _)).trans hs
  clear hA44 i43 n43 s43
  refine ax_putRF (f := 36) dX10_init_208 acl_10 wd_1636 (by decide) rfl rfl rfl rfl (ax_nfR (Or.inr ⟨_, rfl⟩)) s44 ?_
  refine ax_gen (fun A45 hA45 => ?_)
  have i45 := ic_putR (i := 0) (j := 80) i44 hA45 (by omega) (by omega) (by decide +kernel)
  have n45 : A45.2.2.2.2 = a + 280 := ic_n i45 (by decide +kernel)
  have s45 : A45.2.2.2.1 a = some (.inr 10) := (i45.2.1 a (Nat.le_refl _)).trans hs
  clear hA45 i44 n44 s44
  refine ax_aload_n dX10_init_211 rfl ?_
  refine ax_iconst (v := 2) dX10_init_212 (by decide) ?_
  refine ax_bipush (v := 10) dX10_init_213 (by decide) ?_
  refine ax_mna2 (N := 2) (K := 10) (c1 := 58) (n1 := 1108) dX10_init_215 wd_1586 rfl rfl (by decide) (by decide) (by omega) (by omega) ?_
  refine ax_gen (fun A46 hA46 => ?_)
  rw [show A45.2.2.2.2 + 1 = a + 281 by omega]
  rw [n45] at hA46
  have i46 := ic_alm (rf2 := (List.range 2).map (fun j => (281, j, 282 + j))) i45 hA46 (by decide +kernel) (by decide +kernel) (by decide +kernel) (al2 280 2 10 a)
  replace i46 := ic_eq (sh2 := st_sX10_init_46) (rf2 := st_rX10_init_46) (w2 := st_wX10_init_46) i46 (by decide +kernel) (by decide +kernel) (by decide +kernel)
  have n46 : A46.2.2.2.2 = a + 283 := ic_n i46 (by decide +kernel)
  have s46 : A46.2.2.2.1 a = some (.inr 10) := (i46.2.1 a (Nat.le_refl _)).trans hs
  clear hA46 i45 n45 s45
  refine ax_putRF (f := 37) dX10_init_219 acl_10 wd_1637 (by decide) rfl rfl rfl rfl (ax_nfR (Or.inr ⟨_, rfl⟩)) s46 ?_
  refine ax_gen (fun A47 hA47 => ?_)
  have i47 := ic_putR (i := 0) (j := 281) i46 hA47 (by omega) (by omega) (by decide +kernel)
  have n47 : A47.2.2.2.2 = a + 283 := ic_n i47 (by decide +kernel)
  have s47 : A47.2.2.2.1 a = some (.inr 10) := (i47.2.1 a (Nat.le_refl _)).trans hs
  clear hA47 i46 n46 s46
  refine ax_aload_n dX10_init_222 rfl ?_
  refine ax_iconst (v := 2) dX10_init_223 (by decide) ?_
  refine ax_bipush (v := 10) dX10_init_224 (by decide) ?_
  refine ax_mna2 (N := 2) (K := 10) (c1 := 55) (n1 := 1086) dX10_init_226 wd_1586 rfl rfl (by decide) (by decide) (by omega) (by omega) ?_
  refine ax_gen (fun A48 hA48 => ?_)
  rw [show A47.2.2.2.2 + 1 = a + 284 by omega]
  rw [n47] at hA48
  have i48 := ic_alm (rf2 := (List.range 2).map (fun j => (284, j, 285 + j))) i47 hA48 (by decide +kernel) (by decide +kernel) (by decide +kernel) (al2 283 2 10 a)
  replace i48 := ic_eq (sh2 := st_sX10_init_48) (rf2 := st_rX10_init_48) (w2 := st_wX10_init_48) i48 (by decide +kernel) (by decide +kernel) (by decide +kernel)
  have n48 : A48.2.2.2.2 = a + 286 := ic_n i48 (by decide +kernel)
  have s48 : A48.2.2.2.1 a = some (.inr 10) := (i48.2.1 a (Nat.le_refl _)).trans hs
  clear hA48 i47 n47 s47
  refine ax_putRF (f := 38) dX10_init_230 acl_10 wd_1638 (by decide) rfl rfl rfl rfl (ax_nfR (Or.inr ⟨_, rfl⟩)) s48 ?_
  refine ax_gen (fun A49 hA49 => ?_)
  have i49 := ic_putR (i := 0) (j := 284) i48 hA49 (by omega) (by omega) (by decide +kernel)
  have n49 : A49.2.2.2.2 = a + 286 := ic_n i49 (by decide +kernel)
  have s49 : A49.2.2.2.1 a = some (.inr 10) := (i49.2.1 a (Nat.le_refl _)).trans hs
  clear hA49 i48 n48 s48
  refine ax_aload_n dX10_init_233 rfl ?_
  refine ax_iconst (v := 2) dX10_init_234 (by decide) ?_
  refine ax_newa (kd := 0) (len := 2) (c1 := 54) (n1 := 1084) dX10_init_235 rfl (by decide) (ax_in1 (List.mem_of_getElem? (i := 73) rfl)) (by decide) (by decide) (by decide) (by omega) (by omega) ?_
  refine ax_gen (fun A50 hA50 => ?_)
  rw [show A49.2.2.2.2 + 1 = a + 287 by omega]
  have i50 := ic_new i49 hA50 (by decide +kernel) (by decide +kernel)
  have n50 : A50.2.2.2.2 = a + 287 := ic_n i50 (by decide +kernel)
  have s50 : A50.2.2.2.1 a = some (.inr 10) := (i50.2.1 a (Nat.le_refl _)).trans hs
  clear hA50 i49 n49 s49
  refine ax_putRF (f := 39) dX10_init_237 acl_10 wd_1639 (by decide) rfl rfl rfl rfl (ax_nfR (Or.inr ⟨_, rfl⟩)) s50 ?_
  refine ax_gen (fun A51 hA51 => ?_)
  have i51 := ic_putR (i := 0) (j := 287) i50 hA51 (by omega) (by omega) (by decide +kernel)
  have n51 : A51.2.2.2.2 = a + 287 := ic_n i51 (by decide +kernel)
  have s51 : A51.2.2.2.1 a = some (.inr 10) := (i51.2.1 a (Nat.le_refl _)).trans hs
  clear hA51 i50 n50 s50
  refine ax_aload_n dX10_init_240 rfl ?_
  refine ax_iconst (v := 2) dX10_init_241 (by decide) ?_
  refine ax_newa (kd := 0) (len := 2) (c1 := 53) (n1 := 1082) dX10_init_242 rfl (by decide) (ax_in1 (List.mem_of_getElem? (i := 73) rfl)) (by decide) (by decide) (by decide) (by omega) (by omega) ?_
  refine ax_gen (fun A52 hA52 => ?_)
  rw [show A51.2.2.2.2 + 1 = a + 288 by omega]
  have i52 := ic_new i51 hA52 (by decide +kernel) (by decide +kernel)
  have n52 : A52.2.2.2.2 = a + 288 := ic_n i52 (by decide +kernel)
  have s52 : A52.2.2.2.1 a = some (.inr 10) := (i52.2.1 a (Nat.le_refl _)).trans hs
  clear hA52 i51 n51 s51
  refine ax_putRF (f := 40) dX10_init_244 acl_10 wd_1640 (by decide) rfl rfl rfl rfl (ax_nfR (Or.inr ⟨_, rfl⟩)) s52 ?_
  refine ax_gen (fun A53 hA53 => ?_)
  have i53 := ic_putR (i := 0) (j := 288) i52 hA53 (by omega) (by omega) (by decide +kernel)
  have n53 : A53.2.2.2.2 = a + 288 := ic_n i53 (by decide +kernel)
  have s53 : A53.2.2.2.1 a = some (.inr 10) := (i53.2.1 a (Nat.le_refl _)).trans hs
  clear hA53 i52 n52 s52
  refine ax_aload_n dX10_init_247 rfl ?_
  refine ax_iconst (v := 2) dX10_init_248 (by decide) ?_
  refine ax_newa (kd := 0) (len := 2) (c1 := 52) (n1 := 1080) dX10_init_249 rfl (by decide) (ax_in1 (List.mem_of_getElem? (i := 73) rfl)) (by decide) (by decide) (by decide) (by omega) (by omega) ?_
  refine ax_gen (fun A54 hA54 => ?_)
  rw [show A53.2.2.2.2 + 1 = a + 289 by omega]
  have i54 := ic_new i53 hA54 (by decide +kernel) (by decide +kernel)
  have n54 : A54.2.2.2.2 = a + 289 := ic_n i54 (by decide +kernel)
  have s54 : A54.2.2.2.1 a = some (.inr 10) := (i54.2.1 a (Nat.le_refl _)).trans hs
  clear hA54 i53 n53 s53
  refine ax_putRF (f := 41) dX10_init_251 acl_10 wd_1641 (by decide) rfl rfl rfl rfl (ax_nfR (Or.inr ⟨_, rfl⟩)) s54 ?_
  refine ax_gen (fun A55 hA55 => ?_)
  have i55 := ic_putR (i := 0) (j := 289) i54 hA55 (by omega) (by omega) (by decide +kernel)
  have n55 : A55.2.2.2.2 = a + 289 := ic_n i55 (by decide +kernel)
  have s55 : A55.2.2.2.1 a = some (.inr 10) := (i55.2.1 a (Nat.le_refl _)).trans hs
  clear hA55 i54 n54 s54
  refine ax_aload_n dX10_init_254 rfl ?_
  refine ax_iconst (v := 2) dX10_init_255 (by decide) ?_
  refine ax_newa (kd := 0) (len := 2) (c1 := 51) (n1 := 1078) dX10_init_256 rfl (by decide) (ax_in1 (List.mem_of_getElem? (i := 73) rfl)) (by decide) (by decide) (by decide) (by omega) (by omega) ?_
  refine ax_gen (fun A56 hA56 => ?_)
  rw [show A55.2.2.2.2 + 1 = a + 290 by omega]
  have i56 := ic_new i55 hA56 (by decide +kernel) (by decide +kernel)
  have n56 : A56.2.2.2.2 = a + 290 := ic_n i56 (by decide +kernel)
  have s56 : A56.2.2.2.1 a = some (.inr 10) := (i56.2.1 a (Nat.le_refl _)).trans hs
  clear hA56 i55 n55 s55
  refine ax_putRF (f := 42) dX10_init_258 acl_10 wd_1642 (by decide) rfl rfl rfl rfl (ax_nfR (Or.inr ⟨_, rfl⟩)) s56 ?_
  refine ax_gen (fun A57 hA57 => ?_)
  have i57 := ic_putR (i := 0) (j := 290) i56 hA57 (by omega) (by omega) (by decide +kernel)
  have n57 : A57.2.2.2.2 = a + 290 := ic_n i57 (by decide +kernel)
  have s57 : A57.2.2.2.1 a = some (.inr 10) := (i57.2.1 a (Nat.le_refl _)).trans hs
  clear hA57 i56 n56 s56
  refine ax_aload_n dX10_init_261 rfl ?_
  refine ax_iconst (v := 2) dX10_init_262 (by decide) ?_
  refine ax_newa (kd := 0) (len := 2) (c1 := 50) (n1 := 1076) dX10_init_263 rfl (by decide) (ax_in1 (List.mem_of_getElem? (i := 73) rfl)) (by decide) (by decide) (by decide) (by omega) (by omega) ?_
  refine ax_gen (fun A58 hA58 => ?_)
  rw [show A57.2.2.2.2 + 1 = a + 291 by omega]
  have i58 := ic_new i57 hA58 (by decide +kernel) (by decide +kernel)
  have n58 : A58.2.2.2.2 = a + 291 := ic_n i58 (by decide +kernel)
  have s58 : A58.2.2.2.1 a = some (.inr 10) := (i58.2.1 a (Nat.le_refl _)).trans hs
  clear hA58 i57 n57 s57
  refine ax_putRF (f := 43) dX10_init_265 acl_10 wd_1643 (by decide) rfl rfl rfl rfl (ax_nfR (Or.inr ⟨_, rfl⟩)) s58 ?_
  refine ax_gen (fun A59 hA59 => ?_)
  have i59 := ic_putR (i := 0) (j := 291) i58 hA59 (by omega) (by omega) (by decide +kernel)
  have n59 : A59.2.2.2.2 = a + 291 := ic_n i59 (by decide +kernel)
  have s59 : A59.2.2.2.1 a = some (.inr 10) := (i59.2.1 a (Nat.le_refl _)).trans hs
  clear hA59 i58 n58 s58
  refine ax_aload_n dX10_init_268 rfl ?_
  refine ax_iconst (v := 2) dX10_init_269 (by decide) ?_
  refine ax_newa (kd := 0) (len := 2) (c1 := 49) (n1 := 1074) dX10_init_270 rfl (by decide) (ax_in1 (List.mem_of_getElem? (i := 73) rfl)) (by decide) (by decide) (by decide) (by omega) (by omega) ?_
  refine ax_gen (fun A60 hA60 => ?_)
  rw [show A59.2.2.2.2 + 1 = a + 292 by omega]
  have i60 := ic_new i59 hA60 (by decide +kernel) (by decide +kernel)
  have n60 : A60.2.2.2.2 = a + 292 := ic_n i60 (by decide +kernel)
  have s60 : A60.2.2.2.1 a = some (.inr 10) := (i60.2.1 a (Nat.le_refl _)).trans hs
  clear hA60 i59 n59 s59
  refine ax_putRF (f := 44) dX10_init_272 acl_10 wd_1644 (by decide) rfl rfl rfl rfl (ax_nfR (Or.inr ⟨_, rfl⟩)) s60 ?_
  refine ax_gen (fun A61 hA61 => ?_)
  have i61 := ic_putR (i := 0) (j := 292) i60 hA61 (by omega) (by omega) (by decide +kernel)
  have n61 : A61.2.2.2.2 = a + 292 := ic_n i61 (by decide +kernel)
  have s61 : A61.2.2.2.1 a = some (.inr 10) := (i61.2.1 a (Nat.le_refl _)).trans hs
  clear hA61 i60 n60 s60
  refine ax_aload_n dX10_init_275 rfl ?_
  refine ax_iconst (v := 2) dX10_init_276 (by decide) ?_
  refine ax_newa (kd := 0) (len := 2) (c1 := 48) (n1 := 1072) dX10_init_277 rfl (by decide) (ax_in1 (List.mem_of_getElem? (i := 73) rfl)) (by decide) (by decide) (by decide) (by omega) (by omega) ?_
  refine ax_gen (fun A62 hA62 => ?_)
  rw [show A61.2.2.2.2 + 1 = a + 293 by omega]
  have i62 := ic_new i61 hA62 (by decide +kernel) (by decide +kernel)
  have n62 : A62.2.2.2.2 = a + 293 := ic_n i62 (by decide +kernel)
  have s62 : A62.2.2.2.1 a = some (.inr 10) := (i62.2.1 a (Nat.le_refl _)).trans hs
  clear hA62 i61 n61 s61
  refine ax_putRF (f := 45) dX10_init_279 acl_10 wd_1645 (by decide) rfl rfl rfl rfl (ax_nfR (Or.inr ⟨_, rfl⟩)) s62 ?_
  refine ax_gen (fun A63 hA63 => ?_)
  have i63 := ic_putR (i := 0) (j := 293) i62 hA63 (by omega) (by omega) (by decide +kernel)
  have n63 : A63.2.2.2.2 = a + 293 := ic_n i63 (by decide +kernel)
  have s63 : A63.2.2.2.1 a = some (.inr 10) := (i63.2.1 a (Nat.le_refl _)).trans hs
  clear hA63 i62 n62 s62
  refine ax_aload_n dX10_init_282 rfl ?_
  refine ax_iconst (v := 2) dX10_init_283 (by decide) ?_
  refine ax_bipush (v := 21) dX10_init_284 (by decide) ?_
  refine ax_bipush (v := 21) dX10_init_286 (by decide) ?_
  refine ax_mna3 (N := 2) (K := 21) (B := 21) (c1 := 3) (n1 := 146) dX10_init_288 wd_1587 rfl rfl rfl (by decide) (by decide) (by decide) (by omega) (by omega) ?_
  refine ax_gen (fun A64 hA64 => ?_)
  rw [show A63.2.2.2.2 + 1 = a + 294 by omega]
  rw [n63] at hA64
  have i64 := ic_alm (rf2 := al3l 293 2 21) i63 hA64 (by decide +kernel) (by decide +kernel) (by decide +kernel) (al3 293 2 21 21 a)
  replace i64 := ic_eq (sh2 := st_sX10_init_64) (rf2 := st_rX10_init_64) (w2 := st_wX10_init_64) i64 (by decide +kernel) (by decide +kernel) (by decide +kernel)
  have n64 : A64.2.2.2.2 = a + 338 := ic_n i64 (by decide +kernel)
  have s64 : A64.2.2.2.1 a = some (.inr 10) := (i64.2.1 a (Nat.le_refl _)).trans hs
  clear hA64 i63 n63 s63
  refine ax_putRF (f := 48) dX10_init_292 acl_10 wd_1648 (by decide) rfl rfl rfl rfl (ax_nfR (Or.inr ⟨_, rfl⟩)) s64 ?_
  refine ax_gen (fun A65 hA65 => ?_)
  have i65 := ic_putR (i := 0) (j := 294) i64 hA65 (by omega) (by omega) (by decide +kernel)
  have n65 : A65.2.2.2.2 = a + 338 := ic_n i65 (by decide +kernel)
  have s65 : A65.2.2.2.1 a = some (.inr 10) := (i65.2.1 a (Nat.le_refl _)).trans hs
  clear hA65 i64 n64 s64
  refine ax_aload_n dX10_init_295 rfl ?_
  refine ax_bipush (v := 21) dX10_init_296 (by decide) ?_
  refine ax_newa (kd := 0) (len := 21) (c1 := 2) (n1 := 125) dX10_init_298 rfl (by decide) (ax_in1 (List.mem_of_getElem? (i := 73) rfl)) (by decide) (by decide) (by decide) (by omega) (by omega) ?_
  refine ax_gen (fun A66 hA66 => ?_)
  rw [show A65.2.2.2.2 + 1 = a + 339 by omega]
  have i66 := ic_new i65 hA66 (by decide +kernel) (by decide +kernel)
  have n66 : A66.2.2.2.2 = a + 339 := ic_n i66 (by decide +kernel)
  have s66 : A66.2.2.2.1 a = some (.inr 10) := (i66.2.1 a (Nat.le_refl _)).trans hs
  clear hA66 i65 n65 s65
  refine ax_putRF (f := 49) dX10_init_300 acl_10 wd_1649 (by decide) rfl rfl rfl rfl (ax_nfR (Or.inr ⟨_, rfl⟩)) s66 ?_
  refine ax_gen (fun A67 hA67 => ?_)
  have i67 := ic_putR (i := 0) (j := 339) i66 hA67 (by omega) (by omega) (by decide +kernel)
  have n67 : A67.2.2.2.2 = a + 339 := ic_n i67 (by decide +kernel)
  have s67 : A67.2.2.2.1 a = some (.inr 10) := (i67.2.1 a (Nat.le_refl _)).trans hs
  clear hA67 i66 n66 s66
  refine ax_aload_n dX10_init_303 rfl ?_
  refine ax_bipush (v := 99) dX10_init_304 (by decide) ?_
  refine ax_newa (kd := 0) (len := 99) (c1 := 1) (n1 := 26) dX10_init_306 rfl (by decide) (ax_in1 (List.mem_of_getElem? (i := 73) rfl)) (by decide) (by decide) (by decide) (by omega) (by omega) ?_
  refine ax_gen (fun A68 hA68 => ?_)
  rw [show A67.2.2.2.2 + 1 = a + 340 by omega]
  have i68 := ic_new i67 hA68 (by decide +kernel) (by decide +kernel)
  have n68 : A68.2.2.2.2 = a + 340 := ic_n i68 (by decide +kernel)
  have s68 : A68.2.2.2.1 a = some (.inr 10) := (i68.2.1 a (Nat.le_refl _)).trans hs
  clear hA68 i67 n67 s67
  refine ax_putRF (f := 50) dX10_init_308 acl_10 wd_1650 (by decide) rfl rfl rfl rfl (ax_nfR (Or.inr ⟨_, rfl⟩)) s68 ?_
  refine ax_gen (fun A69 hA69 => ?_)
  have i69 := ic_putR (i := 0) (j := 340) i68 hA69 (by omega) (by omega) (by decide +kernel)
  have n69 : A69.2.2.2.2 = a + 340 := ic_n i69 (by decide +kernel)
  have s69 : A69.2.2.2.1 a = some (.inr 10) := (i69.2.1 a (Nat.le_refl _)).trans hs
  clear hA69 i68 n68 s68
  refine ax_aload_n dX10_init_311 rfl ?_
  refine ax_bipush (v := 26) dX10_init_312 (by decide) ?_
  refine ax_newa (kd := 0) (len := 26) (c1 := 0) (n1 := 0) dX10_init_314 rfl (by decide) (ax_in1 (List.mem_of_getElem? (i := 73) rfl)) (by decide) (by decide) (by decide) (by omega) (by omega) ?_
  refine ax_gen (fun A70 hA70 => ?_)
  rw [show A69.2.2.2.2 + 1 = a + 341 by omega]
  have i70 := ic_new i69 hA70 (by decide +kernel) (by decide +kernel)
  have n70 : A70.2.2.2.2 = a + 341 := ic_n i70 (by decide +kernel)
  have s70 : A70.2.2.2.1 a = some (.inr 10) := (i70.2.1 a (Nat.le_refl _)).trans hs
  clear hA70 i69 n69 s69
  refine ax_putRF (f := 51) dX10_init_316 acl_10 wd_1651 (by decide) rfl rfl rfl rfl (ax_nfR (Or.inr ⟨_, rfl⟩)) s70 ?_
  refine ax_gen (fun A71 hA71 => ?_)
  have i71 := ic_putR (i := 0) (j := 341) i70 hA71 (by omega) (by omega) (by decide +kernel)
  have n71 : A71.2.2.2.2 = a + 341 := ic_n i71 (by decide +kernel)
  have s71 : A71.2.2.2.1 a = some (.inr 10) := (i71.2.1 a (Nat.le_refl _)).trans hs
  clear hA71 i70 n70 s70
  refine ax_aload_n dX10_init_319 rfl ?_
  subst h90
  have J := ic_ch (a := 0) (m := 90) hX (show ic M A71 (0 + 90) _ _ _ by rw [Nat.zero_add]; exact i71) (by decide +kernel) (by decide +kernel) (by decide +kernel)
  replace J := ic_eq (sh2 := all_s) (rf2 := all_r) (w2 := all_w) J (by decide +kernel) (by decide +kernel) (by decide +kernel)
  have hok := lp_of J
  refine ax_callV (As := []) (d2 := _) (c1 := 0) (n1 := 0) (p_X10_tellsNothing (d := 1) (M := A71) hok) dX10_init_320 mX10_tellsNothing wd_1589 acl_10 (lp_s hok 90 rfl) rfl (by omega) (by omega) (by omega) rfl rfl (fun _ _ h => by cases h.1) ?_
  rintro r9 B1 ⟨q9, hB1⟩
  cases q9
  have hok1 : lp_ok B1.2 := by rw [hB1]; exact hok
  refine ax_aload_n dX10_init_323 rfl ?_
  refine ax_callV (As := []) (d2 := _) (c1 := 0) (n1 := 0) (p_X10_standsNow (M := B1) hok1) dX10_init_324 mX10_standsNow wd_1593 acl_10 (lp_s hok1 90 rfl) rfl (by omega) (by omega) (by omega) rfl rfl (fun _ _ h => by cases h.1) ?_
  rintro r9 B2 ⟨q9, hB2⟩
  cases q9
  refine ax_FE_of ?_
  refine ax_vret dX10_init_327 rfl ?_
  exact ⟨rfl, _, J, by rw [hB2, hB1]⟩
end X99j

