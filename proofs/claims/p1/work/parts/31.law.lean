/-! the law behind its two constructors, printed by wip/p1/genw.py -/
abbrev xr_no : Nat → Nat → List Value → List xr_C → Bool → Option xr_Out := fun _ _ _ _ _ => none
set_option maxRecDepth 100000 in
def xr_W0_0 (t : List xr_C) : List xr_C := .inl (11, [.ref 1, .ref 3, .ref 8, .ref 11, .ref 14, .ref 18, .ref 25, .ref 28, .ref 33, .ref 42, .null, .null, .int (Int32.ofNat 0), .int (Int32.ofNat 0), .int (Int32.ofNat 0)]) ::
  .inl (8, [.ref 2, .int (Int32.ofNat 0), .int (Int32.ofNat 0), .int (Int32.ofNat 4294967295), .int (Int32.ofNat 0), .int (Int32.ofNat 0), .int (Int32.ofNat 0), .int (Int32.ofNat 0), .int (Int32.ofNat 0)]) ::
  .inr (1, 600, []) ::
  .inl (6, [.ref 4, .ref 5, .ref 6, .ref 7, .int (Int32.ofNat 7), .int (Int32.ofNat 0)]) ::
  .inr (0, 150, [(6, .int (Int32.ofNat 2001)), (5, .int (Int32.ofNat 2003)), (4, .int (Int32.ofNat 4)), (3, .int (Int32.ofNat 1005)), (2, .int (Int32.ofNat 2000)), (1, .int (Int32.ofNat 1001)), (0, .int (Int32.ofNat 1000))]) ::
  .inr (0, 150, []) ::
  .inr (0, 150, []) ::
  .inr (0, 9, []) ::
  .inl (10, [.ref 9, .ref 10, .ref 44, .ref 3]) ::
  .inr (0, 72, [(70, .int (Int32.ofNat 1)), (23, .int (Int32.ofNat 4294967295)), (17, .int (Int32.ofNat 4294967295)), (11, .int (Int32.ofNat 9)), (22, .int (Int32.ofNat 4294967295)), (16, .int (Int32.ofNat 4294967295)), (10, .int (Int32.ofNat 9)), (21, .int (Int32.ofNat 4294967295)), (15, .int (Int32.ofNat 4294967295)), (9, .int (Int32.ofNat 9)), (20, .int (Int32.ofNat 4294967295)), (14, .int (Int32.ofNat 4294967295)), (8, .int (Int32.ofNat 9)), (19, .int (Int32.ofNat 4294967295)), (13, .int (Int32.ofNat 4294967295)), (7, .int (Int32.ofNat 9)), (18, .int (Int32.ofNat 4294967295)), (12, .int (Int32.ofNat 4294967295)), (6, .int (Int32.ofNat 9)), (5, .int (Int32.ofNat 0)), (4, .int (Int32.ofNat 0)), (3, .int (Int32.ofNat 0)), (2, .int (Int32.ofNat 0)), (1, .int (Int32.ofNat 0)), (0, .int (Int32.ofNat 0)), (71, .int (Int32.ofNat 0)), (70, .int (Int32.ofNat 0)), (69, .int (Int32.ofNat 0)), (68, .int (Int32.ofNat 0)), (67, .int (Int32.ofNat 0)), (66, .int (Int32.ofNat 0)), (65, .int (Int32.ofNat 0)), (64, .int (Int32.ofNat 0)), (63, .int (Int32.ofNat 0)), (62, .int (Int32.ofNat 0)), (61, .int (Int32.ofNat 0)), (60, .int (Int32.ofNat 0)), (59, .int (Int32.ofNat 0)), (58, .int (Int32.ofNat 0)), (57, .int (Int32.ofNat 0)), (56, .int (Int32.ofNat 0)), (55, .int (Int32.ofNat 0)), (54, .int (Int32.ofNat 0)), (53, .int (Int32.ofNat 0)), (52, .int (Int32.ofNat 0)), (51, .int (Int32.ofNat 0)), (50, .int (Int32.ofNat 0)), (49, .int (Int32.ofNat 0)), (48, .int (Int32.ofNat 0)), (47, .int (Int32.ofNat 0)), (46, .int (Int32.ofNat 0)), (45, .int (Int32.ofNat 0)), (44, .int (Int32.ofNat 0)), (43, .int (Int32.ofNat 0)), (42, .int (Int32.ofNat 0)), (41, .int (Int32.ofNat 0)), (40, .int (Int32.ofNat 0)), (39, .int (Int32.ofNat 0)), (38, .int (Int32.ofNat 0)), (37, .int (Int32.ofNat 0)), (36, .int (Int32.ofNat 0)), (35, .int (Int32.ofNat 0)), (34, .int (Int32.ofNat 0)), (33, .int (Int32.ofNat 0)), (32, .int (Int32.ofNat 0)), (31, .int (Int32.ofNat 0)), (30, .int (Int32.ofNat 0)), (29, .int (Int32.ofNat 0)), (28, .int (Int32.ofNat 0)), (27, .int (Int32.ofNat 0)), (26, .int (Int32.ofNat 0)), (25, .int (Int32.ofNat 0)), (24, .int (Int32.ofNat 0)), (23, .int (Int32.ofNat 0)), (22, .int (Int32.ofNat 0)), (21, .int (Int32.ofNat 0)), (20, .int (Int32.ofNat 0)), (19, .int (Int32.ofNat 0)), (18, .int (Int32.ofNat 0)), (17, .int (Int32.ofNat 0)), (16, .int (Int32.ofNat 0)), (15, .int (Int32.ofNat 0)), (14, .int (Int32.ofNat 0)), (13, .int (Int32.ofNat 0)), (12, .int (Int32.ofNat 0)), (11, .int (Int32.ofNat 0)), (10, .int (Int32.ofNat 0)), (9, .int (Int32.ofNat 0)), (8, .int (Int32.ofNat 0)), (7, .int (Int32.ofNat 0)), (6, .int (Int32.ofNat 0)), (5, .int (Int32.ofNat 0)), (4, .int (Int32.ofNat 0)), (3, .int (Int32.ofNat 0)), (2, .int (Int32.ofNat 0)), (1, .int (Int32.ofNat 0)), (0, .int (Int32.ofNat 0))]) ::
  .inr (0, 6, []) ::
  .inl (10, [.ref 12, .ref 13, .ref 44, .ref 3]) ::
  .inr (0, 72, [(70, .int (Int32.ofNat 1)), (23, .int (Int32.ofNat 4294967295)), (17, .int (Int32.ofNat 4294967295)), (11, .int (Int32.ofNat 9)), (22, .int (Int32.ofNat 4294967295)), (16, .int (Int32.ofNat 4294967295)), (10, .int (Int32.ofNat 9)), (21, .int (Int32.ofNat 4294967295)), (15, .int (Int32.ofNat 4294967295)), (9, .int (Int32.ofNat 9)), (20, .int (Int32.ofNat 4294967295)), (14, .int (Int32.ofNat 4294967295)), (8, .int (Int32.ofNat 9)), (19, .int (Int32.ofNat 4294967295)), (13, .int (Int32.ofNat 4294967295)), (7, .int (Int32.ofNat 9)), (18, .int (Int32.ofNat 4294967295)), (12, .int (Int32.ofNat 4294967295)), (6, .int (Int32.ofNat 9)), (5, .int (Int32.ofNat 0)), (4, .int (Int32.ofNat 0)), (3, .int (Int32.ofNat 0)), (2, .int (Int32.ofNat 0)), (1, .int (Int32.ofNat 0)), (0, .int (Int32.ofNat 0)), (71, .int (Int32.ofNat 0)), (70, .int (Int32.ofNat 0)), (69, .int (Int32.ofNat 0)), (68, .int (Int32.ofNat 0)), (67, .int (Int32.ofNat 0)), (66, .int (Int32.ofNat 0)), (65, .int (Int32.ofNat 0)), (64, .int (Int32.ofNat 0)), (63, .int (Int32.ofNat 0)), (62, .int (Int32.ofNat 0)), (61, .int (Int32.ofNat 0)), (60, .int (Int32.ofNat 0)), (59, .int (Int32.ofNat 0)), (58, .int (Int32.ofNat 0)), (57, .int (Int32.ofNat 0)), (56, .int (Int32.ofNat 0)), (55, .int (Int32.ofNat 0)), (54, .int (Int32.ofNat 0)), (53, .int (Int32.ofNat 0)), (52, .int (Int32.ofNat 0)), (51, .int (Int32.ofNat 0)), (50, .int (Int32.ofNat 0)), (49, .int (Int32.ofNat 0)), (48, .int (Int32.ofNat 0)), (47, .int (Int32.ofNat 0)), (46, .int (Int32.ofNat 0)), (45, .int (Int32.ofNat 0)), (44, .int (Int32.ofNat 0)), (43, .int (Int32.ofNat 0)), (42, .int (Int32.ofNat 0)), (41, .int (Int32.ofNat 0)), (40, .int (Int32.ofNat 0)), (39, .int (Int32.ofNat 0)), (38, .int (Int32.ofNat 0)), (37, .int (Int32.ofNat 0)), (36, .int (Int32.ofNat 0)), (35, .int (Int32.ofNat 0)), (34, .int (Int32.ofNat 0)), (33, .int (Int32.ofNat 0)), (32, .int (Int32.ofNat 0)), (31, .int (Int32.ofNat 0)), (30, .int (Int32.ofNat 0)), (29, .int (Int32.ofNat 0)), (28, .int (Int32.ofNat 0)), (27, .int (Int32.ofNat 0)), (26, .int (Int32.ofNat 0)), (25, .int (Int32.ofNat 0)), (24, .int (Int32.ofNat 0)), (23, .int (Int32.ofNat 0)), (22, .int (Int32.ofNat 0)), (21, .int (Int32.ofNat 0)), (20, .int (Int32.ofNat 0)), (19, .int (Int32.ofNat 0)), (18, .int (Int32.ofNat 0)), (17, .int (Int32.ofNat 0)), (16, .int (Int32.ofNat 0)), (15, .int (Int32.ofNat 0)), (14, .int (Int32.ofNat 0)), (13, .int (Int32.ofNat 0)), (12, .int (Int32.ofNat 0)), (11, .int (Int32.ofNat 0)), (10, .int (Int32.ofNat 0)), (9, .int (Int32.ofNat 0)), (8, .int (Int32.ofNat 0)), (7, .int (Int32.ofNat 0)), (6, .int (Int32.ofNat 0)), (5, .int (Int32.ofNat 0)), (4, .int (Int32.ofNat 0)), (3, .int (Int32.ofNat 0)), (2, .int (Int32.ofNat 0)), (1, .int (Int32.ofNat 0)), (0, .int (Int32.ofNat 0))]) ::
  .inr (0, 6, []) ::
  .inl (9, [.int (Int32.ofNat 0), .int (Int32.ofNat 0), .int (Int32.ofNat 0), .ref 8, .ref 15, .ref 16, .ref 17, .int (Int32.ofNat 0)]) ::
  .inr (0, 50, []) ::
  .inr (0, 50, []) ::
  .inr (0, 50, []) ::
  .inl (7, [.int (Int32.ofNat 0), .int (Int32.ofNat 0), .int (Int32.ofNat 0), .int (Int32.ofNat 0), .ref 8, .ref 3, .ref 19, .ref 20, .ref 21, .ref 22, .ref 23, .ref 24, .int (Int32.ofNat 0), .int (Int32.ofNat 0), .int (Int32.ofNat 0)]) ::
  .inr (0, 798, []) ::
  .inr (0, 294, []) ::
  .inr (0, 3500, []) ::
  .inr (0, 7, []) ::
  .inr (0, 6, []) ::
  .inr (0, 6, []) ::
  .inl (2, [.ref 26, .int (Int32.ofNat 0), .ref 27, .int (Int32.ofNat 0), .ref 44, .int (Int32.ofNat 0)]) ::
  .inr (0, 64, []) ::
  .inr (0, 64, []) ::
  .inl (1, [.int (Int32.ofNat 0), .ref 29, .ref 30, .int (Int32.ofNat 0), .ref 31, .ref 32]) ::
  .inr (0, 6, []) ::
  .inr (0, 6, []) ::
  .inr (0, 6, []) ::
  .inr (0, 6, []) ::
  .inl (4, [.int (Int32.ofNat 0), .int (Int32.ofNat 0), .int (Int32.ofNat 0), .int (Int32.ofNat 0), .ref 28, .ref 44, .int (Int32.ofNat 0), .int (Int32.ofNat 0), .int (Int32.ofNat 0), .ref 34, .ref 35, .ref 36, .int (Int32.ofNat 0), .ref 37, .ref 38, .ref 39, .ref 40, .ref 41]) ::
  .inr (0, 7, []) ::
  .inr (0, 7, []) ::
  .inr (0, 6, []) ::
  .inr (0, 4116, []) ::
  .inr (0, 686, []) ::
  .inr (0, 1600, []) ::
  .inr (0, 686, []) ::
  .inr (0, 1600, []) ::
  .inl (0, [.int (Int32.ofNat 0), .int (Int32.ofNat 0), .int (Int32.ofNat 0), .ref 11, .ref 43]) ::
  .inr (0, 120, []) :: t
set_option maxRecDepth 100000 in
def xr_W0_1 (t : List xr_C) : List xr_C := .inl (3, [.int (Int32.ofNat 0), .int (Int32.ofNat 0), .int (Int32.ofNat 0), .int (Int32.ofNat 20), .int (Int32.ofNat 0), .int (Int32.ofNat 0), .int (Int32.ofNat 0), .long (Int64.ofNat 0), .ref 45, .ref 46, .ref 47, .ref 48, .ref 49, .ref 50, .ref 51, .ref 52]) ::
  .inr (0, 6, []) ::
  .inr (0, 6, []) ::
  .inr (0, 6, []) ::
  .inr (0, 6, []) ::
  .inr (0, 10, []) ::
  .inr (0, 10, []) ::
  .inr (0, 10, []) ::
  .inr (0, 10, []) ::
  .inl (12, [.int (Int32.ofNat 0), .int (Int32.ofNat 0), .int (Int32.ofNat 0), .int (Int32.ofNat 4294967295), .int (Int32.ofNat 0), .int (Int32.ofNat 0), .int (Int32.ofNat 0), .int (Int32.ofNat 0), .int (Int32.ofNat 0), .ref 54, .ref 55, .ref 56, .ref 57, .ref 58, .ref 59, .ref 60, .ref 61, .ref 68, .ref 75, .ref 86, .int (Int32.ofNat 0), .int (Int32.ofNat 0), .ref 97, .ref 258, .ref 419, .ref 426, .ref 433, .ref 434, .ref 435, .int (Int32.ofNat 0), .ref 496, .ref 497, .ref 498, .ref 519, .int (Int32.ofNat 0), .int (Int32.ofNat 0), .int (Int32.ofNat 0), .int (Int32.ofNat 0), .int (Int32.ofNat 0), .ref 523, .int (Int32.ofNat 0), .int (Int32.ofNat 0), .ref 524, .ref 525, .ref 526, .int (Int32.ofNat 0), .int (Int32.ofNat 0), .int (Int32.ofNat 0), .int (Int32.ofNat 0)]) ::
  .inr (0, 600, []) ::
  .inr (0, 2, []) ::
  .inr (0, 7, [(3, .int (Int32.ofNat 20)), (6, .int (Int32.ofNat 0)), (5, .int (Int32.ofNat 0)), (4, .int (Int32.ofNat 0)), (3, .int (Int32.ofNat 0)), (2, .int (Int32.ofNat 0)), (1, .int (Int32.ofNat 0)), (0, .int (Int32.ofNat 0))]) ::
  .inr (0, 7, [(6, .int (Int32.ofNat 0)), (5, .int (Int32.ofNat 0)), (4, .int (Int32.ofNat 0)), (3, .int (Int32.ofNat 20)), (2, .int (Int32.ofNat 0)), (1, .int (Int32.ofNat 0)), (0, .int (Int32.ofNat 0))]) ::
  .inr (0, 6, []) ::
  .inr (0, 6, []) ::
  .inr (0, 6, []) ::
  .inr (3, 6, [(5, .ref 67), (4, .ref 66), (3, .ref 65), (2, .ref 64), (1, .ref 63), (0, .ref 62)]) ::
  .inr (0, 3, []) ::
  .inr (0, 3, []) ::
  .inr (0, 3, []) ::
  .inr (0, 3, []) ::
  .inr (0, 3, []) ::
  .inr (0, 3, []) ::
  .inr (3, 6, [(5, .ref 74), (4, .ref 73), (3, .ref 72), (2, .ref 71), (1, .ref 70), (0, .ref 69)]) ::
  .inr (0, 3, []) ::
  .inr (0, 3, []) ::
  .inr (0, 3, []) ::
  .inr (0, 3, []) ::
  .inr (0, 3, []) ::
  .inr (0, 3, []) ::
  .inr (3, 10, [(9, .ref 85), (8, .ref 84), (7, .ref 83), (6, .ref 82), (5, .ref 81), (4, .ref 80), (3, .ref 79), (2, .ref 78), (1, .ref 77), (0, .ref 76)]) ::
  .inr (0, 4, []) ::
  .inr (0, 4, []) ::
  .inr (0, 4, []) ::
  .inr (0, 4, []) ::
  .inr (0, 4, []) ::
  .inr (0, 4, []) ::
  .inr (0, 4, []) ::
  .inr (0, 4, []) ::
  .inr (0, 4, []) ::
  .inr (0, 4, []) ::
  .inr (3, 10, [(9, .ref 96), (8, .ref 95), (7, .ref 94), (6, .ref 93), (5, .ref 92), (4, .ref 91), (3, .ref 90), (2, .ref 89), (1, .ref 88), (0, .ref 87)]) ::
  .inr (0, 4, []) :: t
set_option maxRecDepth 100000 in
def xr_W0_2 (t : List xr_C) : List xr_C := .inr (0, 4, []) ::
  .inr (0, 4, []) ::
  .inr (0, 4, []) ::
  .inr (0, 4, []) ::
  .inr (0, 4, []) ::
  .inr (0, 4, []) ::
  .inr (0, 4, []) ::
  .inr (0, 4, []) ::
  .inr (0, 4, []) ::
  .inr (3, 160, [(159, .ref 257), (158, .ref 256), (157, .ref 255), (156, .ref 254), (155, .ref 253), (154, .ref 252), (153, .ref 251), (152, .ref 250), (151, .ref 249), (150, .ref 248), (149, .ref 247), (148, .ref 246), (147, .ref 245), (146, .ref 244), (145, .ref 243), (144, .ref 242), (143, .ref 241), (142, .ref 240), (141, .ref 239), (140, .ref 238), (139, .ref 237), (138, .ref 236), (137, .ref 235), (136, .ref 234), (135, .ref 233), (134, .ref 232), (133, .ref 231), (132, .ref 230), (131, .ref 229), (130, .ref 228), (129, .ref 227), (128, .ref 226), (127, .ref 225), (126, .ref 224), (125, .ref 223), (124, .ref 222), (123, .ref 221), (122, .ref 220), (121, .ref 219), (120, .ref 218), (119, .ref 217), (118, .ref 216), (117, .ref 215), (116, .ref 214), (115, .ref 213), (114, .ref 212), (113, .ref 211), (112, .ref 210), (111, .ref 209), (110, .ref 208), (109, .ref 207), (108, .ref 206), (107, .ref 205), (106, .ref 204), (105, .ref 203), (104, .ref 202), (103, .ref 201), (102, .ref 200), (101, .ref 199), (100, .ref 198), (99, .ref 197), (98, .ref 196), (97, .ref 195), (96, .ref 194), (95, .ref 193), (94, .ref 192), (93, .ref 191), (92, .ref 190), (91, .ref 189), (90, .ref 188), (89, .ref 187), (88, .ref 186), (87, .ref 185), (86, .ref 184), (85, .ref 183), (84, .ref 182), (83, .ref 181), (82, .ref 180), (81, .ref 179), (80, .ref 178), (79, .ref 177), (78, .ref 176), (77, .ref 175), (76, .ref 174), (75, .ref 173), (74, .ref 172), (73, .ref 171), (72, .ref 170), (71, .ref 169), (70, .ref 168), (69, .ref 167), (68, .ref 166), (67, .ref 165), (66, .ref 164), (65, .ref 163), (64, .ref 162), (63, .ref 161), (62, .ref 160), (61, .ref 159), (60, .ref 158), (59, .ref 157), (58, .ref 156), (57, .ref 155), (56, .ref 154), (55, .ref 153), (54, .ref 152), (53, .ref 151), (52, .ref 150), (51, .ref 149), (50, .ref 148), (49, .ref 147), (48, .ref 146), (47, .ref 145), (46, .ref 144), (45, .ref 143), (44, .ref 142), (43, .ref 141), (42, .ref 140), (41, .ref 139), (40, .ref 138), (39, .ref 137), (38, .ref 136), (37, .ref 135), (36, .ref 134), (35, .ref 133), (34, .ref 132), (33, .ref 131), (32, .ref 130), (31, .ref 129), (30, .ref 128), (29, .ref 127), (28, .ref 126), (27, .ref 125), (26, .ref 124), (25, .ref 123), (24, .ref 122), (23, .ref 121), (22, .ref 120), (21, .ref 119), (20, .ref 118), (19, .ref 117), (18, .ref 116), (17, .ref 115), (16, .ref 114), (15, .ref 113), (14, .ref 112), (13, .ref 111), (12, .ref 110), (11, .ref 109), (10, .ref 108), (9, .ref 107), (8, .ref 106), (7, .ref 105), (6, .ref 104), (5, .ref 103), (4, .ref 102), (3, .ref 101), (2, .ref 100), (1, .ref 99), (0, .ref 98)]) ::
  .inr (0, 2, []) ::
  .inr (0, 2, []) ::
  .inr (0, 2, []) ::
  .inr (0, 2, []) ::
  .inr (0, 2, []) ::
  .inr (0, 2, []) ::
  .inr (0, 2, []) ::
  .inr (0, 2, []) ::
  .inr (0, 2, []) ::
  .inr (0, 2, []) ::
  .inr (0, 2, []) ::
  .inr (0, 2, []) ::
  .inr (0, 2, []) ::
  .inr (0, 2, []) ::
  .inr (0, 2, []) ::
  .inr (0, 2, []) ::
  .inr (0, 2, []) ::
  .inr (0, 2, []) ::
  .inr (0, 2, []) ::
  .inr (0, 2, []) ::
  .inr (0, 2, []) ::
  .inr (0, 2, []) ::
  .inr (0, 2, []) ::
  .inr (0, 2, []) ::
  .inr (0, 2, []) ::
  .inr (0, 2, []) ::
  .inr (0, 2, []) ::
  .inr (0, 2, []) ::
  .inr (0, 2, []) ::
  .inr (0, 2, []) ::
  .inr (0, 2, []) ::
  .inr (0, 2, []) ::
  .inr (0, 2, []) ::
  .inr (0, 2, []) :: t
set_option maxRecDepth 100000 in
def xr_W0_3 (t : List xr_C) : List xr_C := .inr (0, 2, []) ::
  .inr (0, 2, []) ::
  .inr (0, 2, []) ::
  .inr (0, 2, []) ::
  .inr (0, 2, []) ::
  .inr (0, 2, []) ::
  .inr (0, 2, []) ::
  .inr (0, 2, []) ::
  .inr (0, 2, []) ::
  .inr (0, 2, []) ::
  .inr (0, 2, []) ::
  .inr (0, 2, []) ::
  .inr (0, 2, []) ::
  .inr (0, 2, []) ::
  .inr (0, 2, []) ::
  .inr (0, 2, []) ::
  .inr (0, 2, []) ::
  .inr (0, 2, []) ::
  .inr (0, 2, []) ::
  .inr (0, 2, []) ::
  .inr (0, 2, []) ::
  .inr (0, 2, []) ::
  .inr (0, 2, []) ::
  .inr (0, 2, []) ::
  .inr (0, 2, []) ::
  .inr (0, 2, []) ::
  .inr (0, 2, []) ::
  .inr (0, 2, []) ::
  .inr (0, 2, []) ::
  .inr (0, 2, []) ::
  .inr (0, 2, []) ::
  .inr (0, 2, []) ::
  .inr (0, 2, []) ::
  .inr (0, 2, []) ::
  .inr (0, 2, []) ::
  .inr (0, 2, []) ::
  .inr (0, 2, []) ::
  .inr (0, 2, []) ::
  .inr (0, 2, []) ::
  .inr (0, 2, []) ::
  .inr (0, 2, []) ::
  .inr (0, 2, []) ::
  .inr (0, 2, []) ::
  .inr (0, 2, []) :: t
set_option maxRecDepth 100000 in
def xr_W0_4 (t : List xr_C) : List xr_C := .inr (0, 2, []) ::
  .inr (0, 2, []) ::
  .inr (0, 2, []) ::
  .inr (0, 2, []) ::
  .inr (0, 2, []) ::
  .inr (0, 2, []) ::
  .inr (0, 2, []) ::
  .inr (0, 2, []) ::
  .inr (0, 2, []) ::
  .inr (0, 2, []) ::
  .inr (0, 2, []) ::
  .inr (0, 2, []) ::
  .inr (0, 2, []) ::
  .inr (0, 2, []) ::
  .inr (0, 2, []) ::
  .inr (0, 2, []) ::
  .inr (0, 2, []) ::
  .inr (0, 2, []) ::
  .inr (0, 2, []) ::
  .inr (0, 2, []) ::
  .inr (0, 2, []) ::
  .inr (0, 2, []) ::
  .inr (0, 2, []) ::
  .inr (0, 2, []) ::
  .inr (0, 2, []) ::
  .inr (0, 2, []) ::
  .inr (0, 2, []) ::
  .inr (0, 2, []) ::
  .inr (0, 2, []) ::
  .inr (0, 2, []) ::
  .inr (0, 2, []) ::
  .inr (0, 2, []) ::
  .inr (0, 2, []) ::
  .inr (0, 2, []) ::
  .inr (0, 2, []) ::
  .inr (0, 2, []) ::
  .inr (0, 2, []) ::
  .inr (0, 2, []) ::
  .inr (0, 2, []) ::
  .inr (0, 2, []) ::
  .inr (0, 2, []) ::
  .inr (0, 2, []) ::
  .inr (0, 2, []) ::
  .inr (0, 2, []) :: t
set_option maxRecDepth 100000 in
def xr_W0_5 (t : List xr_C) : List xr_C := .inr (0, 2, []) ::
  .inr (0, 2, []) ::
  .inr (0, 2, []) ::
  .inr (0, 2, []) ::
  .inr (0, 2, []) ::
  .inr (0, 2, []) ::
  .inr (0, 2, []) ::
  .inr (0, 2, []) ::
  .inr (0, 2, []) ::
  .inr (0, 2, []) ::
  .inr (0, 2, []) ::
  .inr (0, 2, []) ::
  .inr (0, 2, []) ::
  .inr (0, 2, []) ::
  .inr (0, 2, []) ::
  .inr (0, 2, []) ::
  .inr (0, 2, []) ::
  .inr (0, 2, []) ::
  .inr (0, 2, []) ::
  .inr (0, 2, []) ::
  .inr (0, 2, []) ::
  .inr (0, 2, []) ::
  .inr (0, 2, []) ::
  .inr (0, 2, []) ::
  .inr (0, 2, []) ::
  .inr (0, 2, []) ::
  .inr (0, 2, []) ::
  .inr (0, 2, []) ::
  .inr (0, 2, []) ::
  .inr (0, 2, []) ::
  .inr (0, 2, []) ::
  .inr (0, 2, []) ::
  .inr (0, 2, []) ::
  .inr (0, 2, []) ::
  .inr (0, 2, []) ::
  .inr (0, 2, []) ::
  .inr (0, 2, []) ::
  .inr (0, 2, []) ::
  .inr (3, 160, [(159, .ref 418), (158, .ref 417), (157, .ref 416), (156, .ref 415), (155, .ref 414), (154, .ref 413), (153, .ref 412), (152, .ref 411), (151, .ref 410), (150, .ref 409), (149, .ref 408), (148, .ref 407), (147, .ref 406), (146, .ref 405), (145, .ref 404), (144, .ref 403), (143, .ref 402), (142, .ref 401), (141, .ref 400), (140, .ref 399), (139, .ref 398), (138, .ref 397), (137, .ref 396), (136, .ref 395), (135, .ref 394), (134, .ref 393), (133, .ref 392), (132, .ref 391), (131, .ref 390), (130, .ref 389), (129, .ref 388), (128, .ref 387), (127, .ref 386), (126, .ref 385), (125, .ref 384), (124, .ref 383), (123, .ref 382), (122, .ref 381), (121, .ref 380), (120, .ref 379), (119, .ref 378), (118, .ref 377), (117, .ref 376), (116, .ref 375), (115, .ref 374), (114, .ref 373), (113, .ref 372), (112, .ref 371), (111, .ref 370), (110, .ref 369), (109, .ref 368), (108, .ref 367), (107, .ref 366), (106, .ref 365), (105, .ref 364), (104, .ref 363), (103, .ref 362), (102, .ref 361), (101, .ref 360), (100, .ref 359), (99, .ref 358), (98, .ref 357), (97, .ref 356), (96, .ref 355), (95, .ref 354), (94, .ref 353), (93, .ref 352), (92, .ref 351), (91, .ref 350), (90, .ref 349), (89, .ref 348), (88, .ref 347), (87, .ref 346), (86, .ref 345), (85, .ref 344), (84, .ref 343), (83, .ref 342), (82, .ref 341), (81, .ref 340), (80, .ref 339), (79, .ref 338), (78, .ref 337), (77, .ref 336), (76, .ref 335), (75, .ref 334), (74, .ref 333), (73, .ref 332), (72, .ref 331), (71, .ref 330), (70, .ref 329), (69, .ref 328), (68, .ref 327), (67, .ref 326), (66, .ref 325), (65, .ref 324), (64, .ref 323), (63, .ref 322), (62, .ref 321), (61, .ref 320), (60, .ref 319), (59, .ref 318), (58, .ref 317), (57, .ref 316), (56, .ref 315), (55, .ref 314), (54, .ref 313), (53, .ref 312), (52, .ref 311), (51, .ref 310), (50, .ref 309), (49, .ref 308), (48, .ref 307), (47, .ref 306), (46, .ref 305), (45, .ref 304), (44, .ref 303), (43, .ref 302), (42, .ref 301), (41, .ref 300), (40, .ref 299), (39, .ref 298), (38, .ref 297), (37, .ref 296), (36, .ref 295), (35, .ref 294), (34, .ref 293), (33, .ref 292), (32, .ref 291), (31, .ref 290), (30, .ref 289), (29, .ref 288), (28, .ref 287), (27, .ref 286), (26, .ref 285), (25, .ref 284), (24, .ref 283), (23, .ref 282), (22, .ref 281), (21, .ref 280), (20, .ref 279), (19, .ref 278), (18, .ref 277), (17, .ref 276), (16, .ref 275), (15, .ref 274), (14, .ref 273), (13, .ref 272), (12, .ref 271), (11, .ref 270), (10, .ref 269), (9, .ref 268), (8, .ref 267), (7, .ref 266), (6, .ref 265), (5, .ref 264), (4, .ref 263), (3, .ref 262), (2, .ref 261), (1, .ref 260), (0, .ref 259)]) ::
  .inr (0, 2, []) ::
  .inr (0, 2, []) ::
  .inr (0, 2, []) ::
  .inr (0, 2, []) ::
  .inr (0, 2, []) :: t
set_option maxRecDepth 100000 in
def xr_W0_6 (t : List xr_C) : List xr_C := .inr (0, 2, []) ::
  .inr (0, 2, []) ::
  .inr (0, 2, []) ::
  .inr (0, 2, []) ::
  .inr (0, 2, []) ::
  .inr (0, 2, []) ::
  .inr (0, 2, []) ::
  .inr (0, 2, []) ::
  .inr (0, 2, []) ::
  .inr (0, 2, []) ::
  .inr (0, 2, []) ::
  .inr (0, 2, []) ::
  .inr (0, 2, []) ::
  .inr (0, 2, []) ::
  .inr (0, 2, []) ::
  .inr (0, 2, []) ::
  .inr (0, 2, []) ::
  .inr (0, 2, []) ::
  .inr (0, 2, []) ::
  .inr (0, 2, []) ::
  .inr (0, 2, []) ::
  .inr (0, 2, []) ::
  .inr (0, 2, []) ::
  .inr (0, 2, []) ::
  .inr (0, 2, []) ::
  .inr (0, 2, []) ::
  .inr (0, 2, []) ::
  .inr (0, 2, []) ::
  .inr (0, 2, []) ::
  .inr (0, 2, []) ::
  .inr (0, 2, []) ::
  .inr (0, 2, []) ::
  .inr (0, 2, []) ::
  .inr (0, 2, []) ::
  .inr (0, 2, []) ::
  .inr (0, 2, []) ::
  .inr (0, 2, []) ::
  .inr (0, 2, []) ::
  .inr (0, 2, []) ::
  .inr (0, 2, []) ::
  .inr (0, 2, []) ::
  .inr (0, 2, []) ::
  .inr (0, 2, []) ::
  .inr (0, 2, []) :: t
set_option maxRecDepth 100000 in
def xr_W0_7 (t : List xr_C) : List xr_C := .inr (0, 2, []) ::
  .inr (0, 2, []) ::
  .inr (0, 2, []) ::
  .inr (0, 2, []) ::
  .inr (0, 2, []) ::
  .inr (0, 2, []) ::
  .inr (0, 2, []) ::
  .inr (0, 2, []) ::
  .inr (0, 2, []) ::
  .inr (0, 2, []) ::
  .inr (0, 2, []) ::
  .inr (0, 2, []) ::
  .inr (0, 2, []) ::
  .inr (0, 2, []) ::
  .inr (0, 2, []) ::
  .inr (0, 2, []) ::
  .inr (0, 2, []) ::
  .inr (0, 2, []) ::
  .inr (0, 2, []) ::
  .inr (0, 2, []) ::
  .inr (0, 2, []) ::
  .inr (0, 2, []) ::
  .inr (0, 2, []) ::
  .inr (0, 2, []) ::
  .inr (0, 2, []) ::
  .inr (0, 2, []) ::
  .inr (0, 2, []) ::
  .inr (0, 2, []) ::
  .inr (0, 2, []) ::
  .inr (0, 2, []) ::
  .inr (0, 2, []) ::
  .inr (0, 2, []) ::
  .inr (0, 2, []) ::
  .inr (0, 2, []) ::
  .inr (0, 2, []) ::
  .inr (0, 2, []) ::
  .inr (0, 2, []) ::
  .inr (0, 2, []) ::
  .inr (0, 2, []) ::
  .inr (0, 2, []) ::
  .inr (0, 2, []) ::
  .inr (0, 2, []) ::
  .inr (0, 2, []) ::
  .inr (0, 2, []) :: t
set_option maxRecDepth 100000 in
def xr_W0_8 (t : List xr_C) : List xr_C := .inr (0, 2, []) ::
  .inr (0, 2, []) ::
  .inr (0, 2, []) ::
  .inr (0, 2, []) ::
  .inr (0, 2, []) ::
  .inr (0, 2, []) ::
  .inr (0, 2, []) ::
  .inr (0, 2, []) ::
  .inr (0, 2, []) ::
  .inr (0, 2, []) ::
  .inr (0, 2, []) ::
  .inr (0, 2, []) ::
  .inr (0, 2, []) ::
  .inr (0, 2, []) ::
  .inr (0, 2, []) ::
  .inr (0, 2, []) ::
  .inr (0, 2, []) ::
  .inr (0, 2, []) ::
  .inr (0, 2, []) ::
  .inr (0, 2, []) ::
  .inr (0, 2, []) ::
  .inr (0, 2, []) ::
  .inr (0, 2, []) ::
  .inr (0, 2, []) ::
  .inr (0, 2, []) ::
  .inr (0, 2, []) ::
  .inr (0, 2, []) ::
  .inr (0, 2, []) ::
  .inr (0, 2, []) ::
  .inr (0, 2, []) ::
  .inr (0, 2, []) ::
  .inr (0, 2, []) ::
  .inr (0, 2, []) ::
  .inr (0, 2, []) ::
  .inr (0, 2, []) ::
  .inr (0, 2, []) ::
  .inr (0, 2, []) ::
  .inr (0, 2, []) ::
  .inr (0, 2, []) ::
  .inr (0, 2, []) ::
  .inr (0, 2, []) ::
  .inr (0, 2, []) ::
  .inr (0, 2, []) ::
  .inr (0, 2, []) :: t
set_option maxRecDepth 100000 in
def xr_W0_9 (t : List xr_C) : List xr_C := .inr (0, 2, []) ::
  .inr (0, 2, []) ::
  .inr (0, 2, []) ::
  .inr (0, 2, []) ::
  .inr (0, 2, []) ::
  .inr (0, 2, []) ::
  .inr (0, 2, []) ::
  .inr (0, 2, []) ::
  .inr (0, 2, []) ::
  .inr (0, 2, []) ::
  .inr (0, 2, []) ::
  .inr (0, 2, []) ::
  .inr (0, 2, []) ::
  .inr (0, 2, []) ::
  .inr (0, 2, []) ::
  .inr (0, 2, []) ::
  .inr (0, 2, []) ::
  .inr (0, 2, []) ::
  .inr (0, 2, []) ::
  .inr (0, 2, []) ::
  .inr (0, 2, []) ::
  .inr (0, 2, []) ::
  .inr (0, 2, []) ::
  .inr (3, 6, [(5, .ref 425), (4, .ref 424), (3, .ref 423), (2, .ref 422), (1, .ref 421), (0, .ref 420)]) ::
  .inr (0, 2, []) ::
  .inr (0, 2, []) ::
  .inr (0, 2, []) ::
  .inr (0, 2, []) ::
  .inr (0, 2, []) ::
  .inr (0, 2, []) ::
  .inr (3, 6, [(5, .ref 432), (4, .ref 431), (3, .ref 430), (2, .ref 429), (1, .ref 428), (0, .ref 427)]) ::
  .inr (0, 2, []) ::
  .inr (0, 2, []) ::
  .inr (0, 2, []) ::
  .inr (0, 2, []) ::
  .inr (0, 2, []) ::
  .inr (0, 2, []) ::
  .inr (0, 160, []) ::
  .inr (0, 9, []) ::
  .inr (3, 60, [(59, .ref 495), (58, .ref 494), (57, .ref 493), (56, .ref 492), (55, .ref 491), (54, .ref 490), (53, .ref 489), (52, .ref 488), (51, .ref 487), (50, .ref 486), (49, .ref 485), (48, .ref 484), (47, .ref 483), (46, .ref 482), (45, .ref 481), (44, .ref 480), (43, .ref 479), (42, .ref 478), (41, .ref 477), (40, .ref 476), (39, .ref 475), (38, .ref 474), (37, .ref 473), (36, .ref 472), (35, .ref 471), (34, .ref 470), (33, .ref 469), (32, .ref 468), (31, .ref 467), (30, .ref 466), (29, .ref 465), (28, .ref 464), (27, .ref 463), (26, .ref 462), (25, .ref 461), (24, .ref 460), (23, .ref 459), (22, .ref 458), (21, .ref 457), (20, .ref 456), (19, .ref 455), (18, .ref 454), (17, .ref 453), (16, .ref 452), (15, .ref 451), (14, .ref 450), (13, .ref 449), (12, .ref 448), (11, .ref 447), (10, .ref 446), (9, .ref 445), (8, .ref 444), (7, .ref 443), (6, .ref 442), (5, .ref 441), (4, .ref 440), (3, .ref 439), (2, .ref 438), (1, .ref 437), (0, .ref 436)]) ::
  .inr (0, 4, []) ::
  .inr (0, 4, []) ::
  .inr (0, 4, []) ::
  .inr (0, 4, []) :: t
set_option maxRecDepth 100000 in
def xr_W0_10 (t : List xr_C) : List xr_C := .inr (0, 4, []) ::
  .inr (0, 4, []) ::
  .inr (0, 4, []) ::
  .inr (0, 4, []) ::
  .inr (0, 4, []) ::
  .inr (0, 4, []) ::
  .inr (0, 4, []) ::
  .inr (0, 4, []) ::
  .inr (0, 4, []) ::
  .inr (0, 4, []) ::
  .inr (0, 4, []) ::
  .inr (0, 4, []) ::
  .inr (0, 4, []) ::
  .inr (0, 4, []) ::
  .inr (0, 4, []) ::
  .inr (0, 4, []) ::
  .inr (0, 4, []) ::
  .inr (0, 4, []) ::
  .inr (0, 4, []) ::
  .inr (0, 4, []) ::
  .inr (0, 4, []) ::
  .inr (0, 4, []) ::
  .inr (0, 4, []) ::
  .inr (0, 4, []) ::
  .inr (0, 4, []) ::
  .inr (0, 4, []) ::
  .inr (0, 4, []) ::
  .inr (0, 4, []) ::
  .inr (0, 4, []) ::
  .inr (0, 4, []) ::
  .inr (0, 4, []) ::
  .inr (0, 4, []) ::
  .inr (0, 4, []) ::
  .inr (0, 4, []) ::
  .inr (0, 4, []) ::
  .inr (0, 4, []) ::
  .inr (0, 4, []) ::
  .inr (0, 4, []) ::
  .inr (0, 4, []) ::
  .inr (0, 4, []) ::
  .inr (0, 4, []) ::
  .inr (0, 4, []) ::
  .inr (0, 4, []) ::
  .inr (0, 4, []) :: t
set_option maxRecDepth 100000 in
def xr_W0_11 (t : List xr_C) : List xr_C := .inr (0, 4, []) ::
  .inr (0, 4, []) ::
  .inr (0, 4, []) ::
  .inr (0, 4, []) ::
  .inr (0, 4, []) ::
  .inr (0, 4, []) ::
  .inr (0, 4, []) ::
  .inr (0, 4, []) ::
  .inr (0, 4, []) ::
  .inr (0, 4, []) ::
  .inr (0, 4, []) ::
  .inr (0, 4, []) ::
  .inr (0, 72, [(70, .int (Int32.ofNat 1)), (71, .int (Int32.ofNat 0)), (70, .int (Int32.ofNat 0)), (69, .int (Int32.ofNat 0)), (68, .int (Int32.ofNat 0)), (67, .int (Int32.ofNat 0)), (66, .int (Int32.ofNat 0)), (65, .int (Int32.ofNat 0)), (64, .int (Int32.ofNat 0)), (63, .int (Int32.ofNat 0)), (62, .int (Int32.ofNat 0)), (61, .int (Int32.ofNat 0)), (60, .int (Int32.ofNat 0)), (59, .int (Int32.ofNat 0)), (58, .int (Int32.ofNat 0)), (57, .int (Int32.ofNat 0)), (56, .int (Int32.ofNat 0)), (55, .int (Int32.ofNat 0)), (54, .int (Int32.ofNat 0)), (53, .int (Int32.ofNat 0)), (52, .int (Int32.ofNat 0)), (51, .int (Int32.ofNat 0)), (50, .int (Int32.ofNat 0)), (49, .int (Int32.ofNat 0)), (48, .int (Int32.ofNat 0)), (47, .int (Int32.ofNat 0)), (46, .int (Int32.ofNat 0)), (45, .int (Int32.ofNat 0)), (44, .int (Int32.ofNat 0)), (43, .int (Int32.ofNat 0)), (42, .int (Int32.ofNat 0)), (41, .int (Int32.ofNat 0)), (40, .int (Int32.ofNat 0)), (39, .int (Int32.ofNat 0)), (38, .int (Int32.ofNat 0)), (37, .int (Int32.ofNat 0)), (36, .int (Int32.ofNat 0)), (35, .int (Int32.ofNat 0)), (34, .int (Int32.ofNat 0)), (33, .int (Int32.ofNat 0)), (32, .int (Int32.ofNat 0)), (31, .int (Int32.ofNat 0)), (30, .int (Int32.ofNat 0)), (29, .int (Int32.ofNat 0)), (28, .int (Int32.ofNat 0)), (27, .int (Int32.ofNat 0)), (26, .int (Int32.ofNat 0)), (25, .int (Int32.ofNat 0)), (24, .int (Int32.ofNat 0)), (23, .int (Int32.ofNat 4294967295)), (22, .int (Int32.ofNat 4294967295)), (21, .int (Int32.ofNat 4294967295)), (20, .int (Int32.ofNat 4294967295)), (19, .int (Int32.ofNat 4294967295)), (18, .int (Int32.ofNat 4294967295)), (17, .int (Int32.ofNat 4294967295)), (16, .int (Int32.ofNat 4294967295)), (15, .int (Int32.ofNat 4294967295)), (14, .int (Int32.ofNat 4294967295)), (13, .int (Int32.ofNat 4294967295)), (12, .int (Int32.ofNat 4294967295)), (11, .int (Int32.ofNat 4294967295)), (10, .int (Int32.ofNat 4294967295)), (9, .int (Int32.ofNat 4294967295)), (8, .int (Int32.ofNat 4294967295)), (7, .int (Int32.ofNat 4294967295)), (6, .int (Int32.ofNat 4294967295)), (5, .int (Int32.ofNat 0)), (4, .int (Int32.ofNat 0)), (3, .int (Int32.ofNat 0)), (2, .int (Int32.ofNat 0)), (1, .int (Int32.ofNat 0)), (0, .int (Int32.ofNat 0))]) ::
  .inr (0, 72, []) ::
  .inr (3, 20, [(19, .ref 518), (18, .ref 517), (17, .ref 516), (16, .ref 515), (15, .ref 514), (14, .ref 513), (13, .ref 512), (12, .ref 511), (11, .ref 510), (10, .ref 509), (9, .ref 508), (8, .ref 507), (7, .ref 506), (6, .ref 505), (5, .ref 504), (4, .ref 503), (3, .ref 502), (2, .ref 501), (1, .ref 500), (0, .ref 499)]) ::
  .inr (0, 72, []) ::
  .inr (0, 72, []) ::
  .inr (0, 72, []) ::
  .inr (0, 72, []) ::
  .inr (0, 72, []) ::
  .inr (0, 72, []) ::
  .inr (0, 72, []) ::
  .inr (0, 72, []) ::
  .inr (0, 72, []) ::
  .inr (0, 72, []) ::
  .inr (0, 72, []) ::
  .inr (0, 72, []) ::
  .inr (0, 72, []) ::
  .inr (0, 72, []) ::
  .inr (0, 72, []) ::
  .inr (0, 72, []) ::
  .inr (0, 72, []) ::
  .inr (0, 72, []) ::
  .inr (0, 72, []) ::
  .inr (0, 72, []) ::
  .inr (3, 3, [(2, .ref 522), (1, .ref 521), (0, .ref 520)]) ::
  .inr (0, 1513, []) ::
  .inr (0, 1513, []) ::
  .inr (0, 1513, []) ::
  .inr (0, 6, []) ::
  .inr (0, 6, []) ::
  .inr (0, 4000, []) ::
  .inr (0, 6, []) ::
  .inr (2, 1, []) :: t
def xr_W0 : List xr_C := (xr_W0_0 (xr_W0_1 (xr_W0_2 (xr_W0_3 (xr_W0_4 (xr_W0_5 (xr_W0_6 (xr_W0_7 (xr_W0_8 (xr_W0_9 (xr_W0_10 (xr_W0_11 []))))))))))))
def xr_l0 : xr_L := [(4, .int (Int32.ofNat 0)), (3, .ref 527), (2, .ref 53), (1, .ref 0), (0, .float 0)]
set_option maxRecDepth 100000 in
theorem xr_pre0 : xr_isM (xr_lp (xr_Kc (xr_pc (xm_law.2.2.2.2.2.2.drop 13)) xr_l0 [] xr_W0 true 528 27593) [] [] none xr_mt 20 (xr_R [] [] (fun _ _ _ _ _ => none) xr_mt 100000 20) xm_law 13 xm_law.2.2.2.2.2.2 [(0, .float 0)] [] [] true 0 0) true 528 27593 = true := by decide +kernel
