/-! the world behind the constructors, made small, with holes -/
set_option maxRecDepth 100000 in
def xq_p1 (t : List xr_C) : List xr_C := .inl (8, [.ref 2, .int (Int32.ofNat 0), .int (Int32.ofNat 0), .int (Int32.ofNat 4294967295), .int (Int32.ofNat 0), .int (Int32.ofNat 0), .int (Int32.ofNat 0), .int (Int32.ofNat 0), .int (Int32.ofNat 0)]) ::
  .inr (1, 600, []) ::
  .inl (6, [.ref 4, .ref 5, .ref 6, .ref 7, .int (Int32.ofNat 7), .int (Int32.ofNat 0)]) ::
  .inr (0, 150, [(0, .int (Int32.ofNat 1000)), (1, .int (Int32.ofNat 1001)), (2, .int (Int32.ofNat 2000)), (3, .int (Int32.ofNat 1005)), (4, .int (Int32.ofNat 4)), (5, .int (Int32.ofNat 2003)), (6, .int (Int32.ofNat 2001))]) ::
  .inr (0, 150, []) ::
  .inr (0, 150, []) ::
  .inr (0, 9, []) ::
  .inl (10, [.ref 9, .ref 10, .ref 44, .ref 3]) ::
  .inr (0, 72, [(6, .int (Int32.ofNat 9)), (7, .int (Int32.ofNat 9)), (8, .int (Int32.ofNat 9)), (9, .int (Int32.ofNat 9)), (10, .int (Int32.ofNat 9)), (11, .int (Int32.ofNat 9)), (12, .int (Int32.ofNat 4294967295)), (13, .int (Int32.ofNat 4294967295)), (14, .int (Int32.ofNat 4294967295)), (15, .int (Int32.ofNat 4294967295)), (16, .int (Int32.ofNat 4294967295)), (17, .int (Int32.ofNat 4294967295)), (18, .int (Int32.ofNat 4294967295)), (19, .int (Int32.ofNat 4294967295)), (20, .int (Int32.ofNat 4294967295)), (21, .int (Int32.ofNat 4294967295)), (22, .int (Int32.ofNat 4294967295)), (23, .int (Int32.ofNat 4294967295)), (70, .int (Int32.ofNat 1))]) ::
  .inr (0, 6, []) ::
  .inl (10, [.ref 12, .ref 13, .ref 44, .ref 3]) :: t
set_option maxRecDepth 100000 in
def xq_p13 (t : List xr_C) : List xr_C := .inr (0, 6, []) ::
  .inl (9, [.int (Int32.ofNat 0), .int (Int32.ofNat 0), .int (Int32.ofNat 0), .ref 8, .ref 15, .ref 16, .ref 17, .int (Int32.ofNat 0)]) ::
  .inr (0, 50, []) ::
  .inr (0, 50, []) ::
  .inr (0, 50, []) ::
  .inl (7, [.int (Int32.ofNat 0), .int (Int32.ofNat 0), .int (Int32.ofNat 0), .int (Int32.ofNat 0), .ref 8, .ref 3, .ref 19, .ref 20, .ref 21, .ref 22, .ref 23, .ref 24, .int (Int32.ofNat 0), .int (Int32.ofNat 0), .int (Int32.ofNat 0)]) ::
  .inr (0, 798, []) ::
  .inr (0, 294, []) ::
  .inr (0, 3500, []) ::
  .inr (0, 7, []) ::
  .inr (0, 6, []) ::
  .inr (0, 6, []) ::
  .inl (2, [.ref 26, .int (Int32.ofNat 0), .ref 27, .int (Int32.ofNat 0), .ref 44, .int (Int32.ofNat 0)]) ::
  .inr (0, 64, []) ::
  .inr (0, 64, []) ::
  .inl (1, [.int (Int32.ofNat 0), .ref 29, .ref 30, .int (Int32.ofNat 0), .ref 31, .ref 32]) ::
  .inr (0, 6, []) ::
  .inr (0, 6, []) ::
  .inr (0, 6, []) ::
  .inr (0, 6, []) ::
  .inl (4, [.int (Int32.ofNat 0), .int (Int32.ofNat 0), .int (Int32.ofNat 0), .int (Int32.ofNat 0), .ref 28, .ref 44, .int (Int32.ofNat 0), .int (Int32.ofNat 0), .int (Int32.ofNat 0), .ref 34, .ref 35, .ref 36, .int (Int32.ofNat 0), .ref 37, .ref 38, .ref 39, .ref 40, .ref 41]) ::
  .inr (0, 7, []) ::
  .inr (0, 7, []) ::
  .inr (0, 6, []) ::
  .inr (0, 4116, []) ::
  .inr (0, 686, []) ::
  .inr (0, 1600, []) ::
  .inr (0, 686, []) ::
  .inr (0, 1600, []) ::
  .inl (0, [.int (Int32.ofNat 0), .int (Int32.ofNat 0), .int (Int32.ofNat 0), .ref 11, .ref 43]) ::
  .inr (0, 120, []) ::
  .inl (3, [.int (Int32.ofNat 0), .int (Int32.ofNat 0), .int (Int32.ofNat 0), .int (Int32.ofNat 20), .int (Int32.ofNat 0), .int (Int32.ofNat 0), .int (Int32.ofNat 0), .long (Int64.ofNat 0), .ref 45, .ref 46, .ref 47, .ref 48, .ref 49, .ref 50, .ref 51, .ref 52]) ::
  .inr (0, 6, []) ::
  .inr (0, 6, []) ::
  .inr (0, 6, []) ::
  .inr (0, 6, []) ::
  .inr (0, 10, []) ::
  .inr (0, 10, []) ::
  .inr (0, 10, []) ::
  .inr (0, 10, []) :: t
set_option maxRecDepth 100000 in
def xq_p54 (t : List xr_C) : List xr_C := .inr (0, 600, []) ::
  .inr (0, 2, []) ::
  .inr (0, 7, [(3, .int (Int32.ofNat 20))]) ::
  .inr (0, 7, [(3, .int (Int32.ofNat 20))]) ::
  .inr (0, 6, []) ::
  .inr (0, 6, []) ::
  .inr (0, 6, []) ::
  .inr (3, 6, [(0, .ref 62), (1, .ref 63), (2, .ref 64), (3, .ref 65), (4, .ref 66), (5, .ref 67)]) ::
  .inr (0, 3, []) ::
  .inr (0, 3, []) ::
  .inr (0, 3, []) ::
  .inr (0, 3, []) ::
  .inr (0, 3, []) ::
  .inr (0, 3, []) ::
  .inr (3, 6, [(0, .ref 69), (1, .ref 70), (2, .ref 71), (3, .ref 72), (4, .ref 73), (5, .ref 74)]) ::
  .inr (0, 3, []) ::
  .inr (0, 3, []) ::
  .inr (0, 3, []) ::
  .inr (0, 3, []) ::
  .inr (0, 3, []) ::
  .inr (0, 3, []) ::
  .inr (3, 10, [(0, .ref 76), (1, .ref 77), (2, .ref 78), (3, .ref 79), (4, .ref 80), (5, .ref 81), (6, .ref 82), (7, .ref 83), (8, .ref 84), (9, .ref 85)]) ::
  .inr (0, 4, []) ::
  .inr (0, 4, []) ::
  .inr (0, 4, []) ::
  .inr (0, 4, []) ::
  .inr (0, 4, []) ::
  .inr (0, 4, []) ::
  .inr (0, 4, []) ::
  .inr (0, 4, []) ::
  .inr (0, 4, []) ::
  .inr (0, 4, []) ::
  .inr (3, 10, [(0, .ref 87), (1, .ref 88), (2, .ref 89), (3, .ref 90), (4, .ref 91), (5, .ref 92), (6, .ref 93), (7, .ref 94), (8, .ref 95), (9, .ref 96)]) ::
  .inr (0, 4, []) ::
  .inr (0, 4, []) ::
  .inr (0, 4, []) ::
  .inr (0, 4, []) ::
  .inr (0, 4, []) ::
  .inr (0, 4, []) ::
  .inr (0, 4, []) ::
  .inr (0, 4, []) ::
  .inr (0, 4, []) ::
  .inr (0, 4, []) ::
  .inr (3, 160, [(0, .ref 98), (1, .ref 99), (2, .ref 100), (3, .ref 101), (4, .ref 102), (5, .ref 103), (6, .ref 104), (7, .ref 105), (8, .ref 106), (9, .ref 107), (10, .ref 108), (11, .ref 109), (12, .ref 110), (13, .ref 111), (14, .ref 112), (15, .ref 113), (16, .ref 114), (17, .ref 115), (18, .ref 116), (19, .ref 117), (20, .ref 118), (21, .ref 119), (22, .ref 120), (23, .ref 121), (24, .ref 122), (25, .ref 123), (26, .ref 124), (27, .ref 125), (28, .ref 126), (29, .ref 127), (30, .ref 128), (31, .ref 129), (32, .ref 130), (33, .ref 131), (34, .ref 132), (35, .ref 133), (36, .ref 134), (37, .ref 135), (38, .ref 136), (39, .ref 137), (40, .ref 138), (41, .ref 139), (42, .ref 140), (43, .ref 141), (44, .ref 142), (45, .ref 143), (46, .ref 144), (47, .ref 145), (48, .ref 146), (49, .ref 147), (50, .ref 148), (51, .ref 149), (52, .ref 150), (53, .ref 151), (54, .ref 152), (55, .ref 153), (56, .ref 154), (57, .ref 155), (58, .ref 156), (59, .ref 157), (60, .ref 158), (61, .ref 159), (62, .ref 160), (63, .ref 161), (64, .ref 162), (65, .ref 163), (66, .ref 164), (67, .ref 165), (68, .ref 166), (69, .ref 167), (70, .ref 168), (71, .ref 169), (72, .ref 170), (73, .ref 171), (74, .ref 172), (75, .ref 173), (76, .ref 174), (77, .ref 175), (78, .ref 176), (79, .ref 177), (80, .ref 178), (81, .ref 179), (82, .ref 180), (83, .ref 181), (84, .ref 182), (85, .ref 183), (86, .ref 184), (87, .ref 185), (88, .ref 186), (89, .ref 187), (90, .ref 188), (91, .ref 189), (92, .ref 190), (93, .ref 191), (94, .ref 192), (95, .ref 193), (96, .ref 194), (97, .ref 195), (98, .ref 196), (99, .ref 197), (100, .ref 198), (101, .ref 199), (102, .ref 200), (103, .ref 201), (104, .ref 202), (105, .ref 203), (106, .ref 204), (107, .ref 205), (108, .ref 206), (109, .ref 207), (110, .ref 208), (111, .ref 209), (112, .ref 210), (113, .ref 211), (114, .ref 212), (115, .ref 213), (116, .ref 214), (117, .ref 215), (118, .ref 216), (119, .ref 217), (120, .ref 218), (121, .ref 219), (122, .ref 220), (123, .ref 221), (124, .ref 222), (125, .ref 223), (126, .ref 224), (127, .ref 225), (128, .ref 226), (129, .ref 227), (130, .ref 228), (131, .ref 229), (132, .ref 230), (133, .ref 231), (134, .ref 232), (135, .ref 233), (136, .ref 234), (137, .ref 235), (138, .ref 236), (139, .ref 237), (140, .ref 238), (141, .ref 239), (142, .ref 240), (143, .ref 241), (144, .ref 242), (145, .ref 243), (146, .ref 244), (147, .ref 245), (148, .ref 246), (149, .ref 247), (150, .ref 248), (151, .ref 249), (152, .ref 250), (153, .ref 251), (154, .ref 252), (155, .ref 253), (156, .ref 254), (157, .ref 255), (158, .ref 256), (159, .ref 257)]) :: t
set_option maxRecDepth 100000 in
def xq_p98 (t : List xr_C) : List xr_C := .inr (0, 2, []) ::
  .inr (0, 2, []) ::
  .inr (0, 2, []) ::
  .inr (0, 2, []) ::
  .inr (0, 2, []) ::
  .inr (0, 2, []) ::
  .inr (0, 2, []) ::
  .inr (0, 2, []) ::
  .inr (0, 2, []) ::
  .inr (0, 2, []) ::
  .inr (0, 2, []) ::
  .inr (0, 2, []) ::
  .inr (0, 2, []) ::
  .inr (0, 2, []) ::
  .inr (0, 2, []) ::
  .inr (0, 2, []) ::
  .inr (0, 2, []) ::
  .inr (0, 2, []) ::
  .inr (0, 2, []) ::
  .inr (0, 2, []) ::
  .inr (0, 2, []) ::
  .inr (0, 2, []) ::
  .inr (0, 2, []) ::
  .inr (0, 2, []) ::
  .inr (0, 2, []) ::
  .inr (0, 2, []) ::
  .inr (0, 2, []) ::
  .inr (0, 2, []) ::
  .inr (0, 2, []) ::
  .inr (0, 2, []) ::
  .inr (0, 2, []) ::
  .inr (0, 2, []) ::
  .inr (0, 2, []) ::
  .inr (0, 2, []) ::
  .inr (0, 2, []) ::
  .inr (0, 2, []) ::
  .inr (0, 2, []) ::
  .inr (0, 2, []) ::
  .inr (0, 2, []) ::
  .inr (0, 2, []) ::
  .inr (0, 2, []) ::
  .inr (0, 2, []) ::
  .inr (0, 2, []) ::
  .inr (0, 2, []) :: t
set_option maxRecDepth 100000 in
def xq_p142 (t : List xr_C) : List xr_C := .inr (0, 2, []) ::
  .inr (0, 2, []) ::
  .inr (0, 2, []) ::
  .inr (0, 2, []) ::
  .inr (0, 2, []) ::
  .inr (0, 2, []) ::
  .inr (0, 2, []) ::
  .inr (0, 2, []) ::
  .inr (0, 2, []) ::
  .inr (0, 2, []) ::
  .inr (0, 2, []) ::
  .inr (0, 2, []) ::
  .inr (0, 2, []) ::
  .inr (0, 2, []) ::
  .inr (0, 2, []) ::
  .inr (0, 2, []) ::
  .inr (0, 2, []) ::
  .inr (0, 2, []) ::
  .inr (0, 2, []) ::
  .inr (0, 2, []) ::
  .inr (0, 2, []) ::
  .inr (0, 2, []) ::
  .inr (0, 2, []) ::
  .inr (0, 2, []) ::
  .inr (0, 2, []) ::
  .inr (0, 2, []) ::
  .inr (0, 2, []) ::
  .inr (0, 2, []) ::
  .inr (0, 2, []) ::
  .inr (0, 2, []) ::
  .inr (0, 2, []) ::
  .inr (0, 2, []) ::
  .inr (0, 2, []) ::
  .inr (0, 2, []) ::
  .inr (0, 2, []) ::
  .inr (0, 2, []) ::
  .inr (0, 2, []) ::
  .inr (0, 2, []) ::
  .inr (0, 2, []) ::
  .inr (0, 2, []) ::
  .inr (0, 2, []) ::
  .inr (0, 2, []) ::
  .inr (0, 2, []) ::
  .inr (0, 2, []) :: t
set_option maxRecDepth 100000 in
def xq_p186 (t : List xr_C) : List xr_C := .inr (0, 2, []) ::
  .inr (0, 2, []) ::
  .inr (0, 2, []) ::
  .inr (0, 2, []) ::
  .inr (0, 2, []) ::
  .inr (0, 2, []) ::
  .inr (0, 2, []) ::
  .inr (0, 2, []) ::
  .inr (0, 2, []) ::
  .inr (0, 2, []) ::
  .inr (0, 2, []) ::
  .inr (0, 2, []) ::
  .inr (0, 2, []) ::
  .inr (0, 2, []) ::
  .inr (0, 2, []) ::
  .inr (0, 2, []) ::
  .inr (0, 2, []) ::
  .inr (0, 2, []) ::
  .inr (0, 2, []) ::
  .inr (0, 2, []) ::
  .inr (0, 2, []) ::
  .inr (0, 2, []) ::
  .inr (0, 2, []) ::
  .inr (0, 2, []) ::
  .inr (0, 2, []) ::
  .inr (0, 2, []) ::
  .inr (0, 2, []) ::
  .inr (0, 2, []) ::
  .inr (0, 2, []) ::
  .inr (0, 2, []) ::
  .inr (0, 2, []) ::
  .inr (0, 2, []) ::
  .inr (0, 2, []) ::
  .inr (0, 2, []) ::
  .inr (0, 2, []) ::
  .inr (0, 2, []) ::
  .inr (0, 2, []) ::
  .inr (0, 2, []) ::
  .inr (0, 2, []) ::
  .inr (0, 2, []) ::
  .inr (0, 2, []) ::
  .inr (0, 2, []) ::
  .inr (0, 2, []) ::
  .inr (0, 2, []) :: t
set_option maxRecDepth 100000 in
def xq_p230 (t : List xr_C) : List xr_C := .inr (0, 2, []) ::
  .inr (0, 2, []) ::
  .inr (0, 2, []) ::
  .inr (0, 2, []) ::
  .inr (0, 2, []) ::
  .inr (0, 2, []) ::
  .inr (0, 2, []) ::
  .inr (0, 2, []) ::
  .inr (0, 2, []) ::
  .inr (0, 2, []) ::
  .inr (0, 2, []) ::
  .inr (0, 2, []) ::
  .inr (0, 2, []) ::
  .inr (0, 2, []) ::
  .inr (0, 2, []) ::
  .inr (0, 2, []) ::
  .inr (0, 2, []) ::
  .inr (0, 2, []) ::
  .inr (0, 2, []) ::
  .inr (0, 2, []) ::
  .inr (0, 2, []) ::
  .inr (0, 2, []) ::
  .inr (0, 2, []) ::
  .inr (0, 2, []) ::
  .inr (0, 2, []) ::
  .inr (0, 2, []) ::
  .inr (0, 2, []) ::
  .inr (0, 2, []) ::
  .inr (3, 160, [(0, .ref 259), (1, .ref 260), (2, .ref 261), (3, .ref 262), (4, .ref 263), (5, .ref 264), (6, .ref 265), (7, .ref 266), (8, .ref 267), (9, .ref 268), (10, .ref 269), (11, .ref 270), (12, .ref 271), (13, .ref 272), (14, .ref 273), (15, .ref 274), (16, .ref 275), (17, .ref 276), (18, .ref 277), (19, .ref 278), (20, .ref 279), (21, .ref 280), (22, .ref 281), (23, .ref 282), (24, .ref 283), (25, .ref 284), (26, .ref 285), (27, .ref 286), (28, .ref 287), (29, .ref 288), (30, .ref 289), (31, .ref 290), (32, .ref 291), (33, .ref 292), (34, .ref 293), (35, .ref 294), (36, .ref 295), (37, .ref 296), (38, .ref 297), (39, .ref 298), (40, .ref 299), (41, .ref 300), (42, .ref 301), (43, .ref 302), (44, .ref 303), (45, .ref 304), (46, .ref 305), (47, .ref 306), (48, .ref 307), (49, .ref 308), (50, .ref 309), (51, .ref 310), (52, .ref 311), (53, .ref 312), (54, .ref 313), (55, .ref 314), (56, .ref 315), (57, .ref 316), (58, .ref 317), (59, .ref 318), (60, .ref 319), (61, .ref 320), (62, .ref 321), (63, .ref 322), (64, .ref 323), (65, .ref 324), (66, .ref 325), (67, .ref 326), (68, .ref 327), (69, .ref 328), (70, .ref 329), (71, .ref 330), (72, .ref 331), (73, .ref 332), (74, .ref 333), (75, .ref 334), (76, .ref 335), (77, .ref 336), (78, .ref 337), (79, .ref 338), (80, .ref 339), (81, .ref 340), (82, .ref 341), (83, .ref 342), (84, .ref 343), (85, .ref 344), (86, .ref 345), (87, .ref 346), (88, .ref 347), (89, .ref 348), (90, .ref 349), (91, .ref 350), (92, .ref 351), (93, .ref 352), (94, .ref 353), (95, .ref 354), (96, .ref 355), (97, .ref 356), (98, .ref 357), (99, .ref 358), (100, .ref 359), (101, .ref 360), (102, .ref 361), (103, .ref 362), (104, .ref 363), (105, .ref 364), (106, .ref 365), (107, .ref 366), (108, .ref 367), (109, .ref 368), (110, .ref 369), (111, .ref 370), (112, .ref 371), (113, .ref 372), (114, .ref 373), (115, .ref 374), (116, .ref 375), (117, .ref 376), (118, .ref 377), (119, .ref 378), (120, .ref 379), (121, .ref 380), (122, .ref 381), (123, .ref 382), (124, .ref 383), (125, .ref 384), (126, .ref 385), (127, .ref 386), (128, .ref 387), (129, .ref 388), (130, .ref 389), (131, .ref 390), (132, .ref 391), (133, .ref 392), (134, .ref 393), (135, .ref 394), (136, .ref 395), (137, .ref 396), (138, .ref 397), (139, .ref 398), (140, .ref 399), (141, .ref 400), (142, .ref 401), (143, .ref 402), (144, .ref 403), (145, .ref 404), (146, .ref 405), (147, .ref 406), (148, .ref 407), (149, .ref 408), (150, .ref 409), (151, .ref 410), (152, .ref 411), (153, .ref 412), (154, .ref 413), (155, .ref 414), (156, .ref 415), (157, .ref 416), (158, .ref 417), (159, .ref 418)]) ::
  .inr (0, 2, []) ::
  .inr (0, 2, []) ::
  .inr (0, 2, []) ::
  .inr (0, 2, []) ::
  .inr (0, 2, []) ::
  .inr (0, 2, []) ::
  .inr (0, 2, []) ::
  .inr (0, 2, []) ::
  .inr (0, 2, []) ::
  .inr (0, 2, []) ::
  .inr (0, 2, []) ::
  .inr (0, 2, []) ::
  .inr (0, 2, []) ::
  .inr (0, 2, []) ::
  .inr (0, 2, []) :: t
set_option maxRecDepth 100000 in
def xq_p274 (t : List xr_C) : List xr_C := .inr (0, 2, []) ::
  .inr (0, 2, []) ::
  .inr (0, 2, []) ::
  .inr (0, 2, []) ::
  .inr (0, 2, []) ::
  .inr (0, 2, []) ::
  .inr (0, 2, []) ::
  .inr (0, 2, []) ::
  .inr (0, 2, []) ::
  .inr (0, 2, []) ::
  .inr (0, 2, []) ::
  .inr (0, 2, []) ::
  .inr (0, 2, []) ::
  .inr (0, 2, []) ::
  .inr (0, 2, []) ::
  .inr (0, 2, []) ::
  .inr (0, 2, []) ::
  .inr (0, 2, []) ::
  .inr (0, 2, []) ::
  .inr (0, 2, []) ::
  .inr (0, 2, []) ::
  .inr (0, 2, []) ::
  .inr (0, 2, []) ::
  .inr (0, 2, []) ::
  .inr (0, 2, []) ::
  .inr (0, 2, []) ::
  .inr (0, 2, []) ::
  .inr (0, 2, []) ::
  .inr (0, 2, []) ::
  .inr (0, 2, []) ::
  .inr (0, 2, []) ::
  .inr (0, 2, []) ::
  .inr (0, 2, []) ::
  .inr (0, 2, []) ::
  .inr (0, 2, []) ::
  .inr (0, 2, []) ::
  .inr (0, 2, []) ::
  .inr (0, 2, []) ::
  .inr (0, 2, []) ::
  .inr (0, 2, []) ::
  .inr (0, 2, []) ::
  .inr (0, 2, []) ::
  .inr (0, 2, []) ::
  .inr (0, 2, []) :: t
set_option maxRecDepth 100000 in
def xq_p318 (t : List xr_C) : List xr_C := .inr (0, 2, []) ::
  .inr (0, 2, []) ::
  .inr (0, 2, []) ::
  .inr (0, 2, []) ::
  .inr (0, 2, []) ::
  .inr (0, 2, []) ::
  .inr (0, 2, []) ::
  .inr (0, 2, []) ::
  .inr (0, 2, []) ::
  .inr (0, 2, []) ::
  .inr (0, 2, []) ::
  .inr (0, 2, []) ::
  .inr (0, 2, []) ::
  .inr (0, 2, []) ::
  .inr (0, 2, []) ::
  .inr (0, 2, []) ::
  .inr (0, 2, []) ::
  .inr (0, 2, []) ::
  .inr (0, 2, []) ::
  .inr (0, 2, []) ::
  .inr (0, 2, []) ::
  .inr (0, 2, []) ::
  .inr (0, 2, []) ::
  .inr (0, 2, []) ::
  .inr (0, 2, []) ::
  .inr (0, 2, []) ::
  .inr (0, 2, []) ::
  .inr (0, 2, []) ::
  .inr (0, 2, []) ::
  .inr (0, 2, []) ::
  .inr (0, 2, []) ::
  .inr (0, 2, []) ::
  .inr (0, 2, []) ::
  .inr (0, 2, []) ::
  .inr (0, 2, []) ::
  .inr (0, 2, []) ::
  .inr (0, 2, []) ::
  .inr (0, 2, []) ::
  .inr (0, 2, []) ::
  .inr (0, 2, []) ::
  .inr (0, 2, []) ::
  .inr (0, 2, []) ::
  .inr (0, 2, []) ::
  .inr (0, 2, []) :: t
set_option maxRecDepth 100000 in
def xq_p362 (t : List xr_C) : List xr_C := .inr (0, 2, []) ::
  .inr (0, 2, []) ::
  .inr (0, 2, []) ::
  .inr (0, 2, []) ::
  .inr (0, 2, []) ::
  .inr (0, 2, []) ::
  .inr (0, 2, []) ::
  .inr (0, 2, []) ::
  .inr (0, 2, []) ::
  .inr (0, 2, []) ::
  .inr (0, 2, []) ::
  .inr (0, 2, []) ::
  .inr (0, 2, []) ::
  .inr (0, 2, []) ::
  .inr (0, 2, []) ::
  .inr (0, 2, []) ::
  .inr (0, 2, []) ::
  .inr (0, 2, []) ::
  .inr (0, 2, []) ::
  .inr (0, 2, []) ::
  .inr (0, 2, []) ::
  .inr (0, 2, []) ::
  .inr (0, 2, []) ::
  .inr (0, 2, []) ::
  .inr (0, 2, []) ::
  .inr (0, 2, []) ::
  .inr (0, 2, []) ::
  .inr (0, 2, []) ::
  .inr (0, 2, []) ::
  .inr (0, 2, []) ::
  .inr (0, 2, []) ::
  .inr (0, 2, []) ::
  .inr (0, 2, []) ::
  .inr (0, 2, []) ::
  .inr (0, 2, []) ::
  .inr (0, 2, []) ::
  .inr (0, 2, []) ::
  .inr (0, 2, []) ::
  .inr (0, 2, []) ::
  .inr (0, 2, []) ::
  .inr (0, 2, []) ::
  .inr (0, 2, []) ::
  .inr (0, 2, []) ::
  .inr (0, 2, []) :: t
set_option maxRecDepth 100000 in
def xq_p406 (t : List xr_C) : List xr_C := .inr (0, 2, []) ::
  .inr (0, 2, []) ::
  .inr (0, 2, []) ::
  .inr (0, 2, []) ::
  .inr (0, 2, []) ::
  .inr (0, 2, []) ::
  .inr (0, 2, []) ::
  .inr (0, 2, []) ::
  .inr (0, 2, []) ::
  .inr (0, 2, []) ::
  .inr (0, 2, []) ::
  .inr (0, 2, []) ::
  .inr (0, 2, []) ::
  .inr (3, 6, [(0, .ref 420), (1, .ref 421), (2, .ref 422), (3, .ref 423), (4, .ref 424), (5, .ref 425)]) ::
  .inr (0, 2, []) ::
  .inr (0, 2, []) ::
  .inr (0, 2, []) ::
  .inr (0, 2, []) ::
  .inr (0, 2, []) ::
  .inr (0, 2, []) ::
  .inr (3, 6, [(0, .ref 427), (1, .ref 428), (2, .ref 429), (3, .ref 430), (4, .ref 431), (5, .ref 432)]) ::
  .inr (0, 2, []) ::
  .inr (0, 2, []) ::
  .inr (0, 2, []) ::
  .inr (0, 2, []) ::
  .inr (0, 2, []) ::
  .inr (0, 2, []) ::
  .inr (0, 160, []) ::
  .inr (0, 9, []) ::
  .inr (3, 60, [(0, .ref 436), (1, .ref 437), (2, .ref 438), (3, .ref 439), (4, .ref 440), (5, .ref 441), (6, .ref 442), (7, .ref 443), (8, .ref 444), (9, .ref 445), (10, .ref 446), (11, .ref 447), (12, .ref 448), (13, .ref 449), (14, .ref 450), (15, .ref 451), (16, .ref 452), (17, .ref 453), (18, .ref 454), (19, .ref 455), (20, .ref 456), (21, .ref 457), (22, .ref 458), (23, .ref 459), (24, .ref 460), (25, .ref 461), (26, .ref 462), (27, .ref 463), (28, .ref 464), (29, .ref 465), (30, .ref 466), (31, .ref 467), (32, .ref 468), (33, .ref 469), (34, .ref 470), (35, .ref 471), (36, .ref 472), (37, .ref 473), (38, .ref 474), (39, .ref 475), (40, .ref 476), (41, .ref 477), (42, .ref 478), (43, .ref 479), (44, .ref 480), (45, .ref 481), (46, .ref 482), (47, .ref 483), (48, .ref 484), (49, .ref 485), (50, .ref 486), (51, .ref 487), (52, .ref 488), (53, .ref 489), (54, .ref 490), (55, .ref 491), (56, .ref 492), (57, .ref 493), (58, .ref 494), (59, .ref 495)]) ::
  .inr (0, 4, []) ::
  .inr (0, 4, []) ::
  .inr (0, 4, []) ::
  .inr (0, 4, []) ::
  .inr (0, 4, []) ::
  .inr (0, 4, []) ::
  .inr (0, 4, []) ::
  .inr (0, 4, []) ::
  .inr (0, 4, []) ::
  .inr (0, 4, []) ::
  .inr (0, 4, []) ::
  .inr (0, 4, []) ::
  .inr (0, 4, []) ::
  .inr (0, 4, []) :: t
set_option maxRecDepth 100000 in
def xq_p450 (t : List xr_C) : List xr_C := .inr (0, 4, []) ::
  .inr (0, 4, []) ::
  .inr (0, 4, []) ::
  .inr (0, 4, []) ::
  .inr (0, 4, []) ::
  .inr (0, 4, []) ::
  .inr (0, 4, []) ::
  .inr (0, 4, []) ::
  .inr (0, 4, []) ::
  .inr (0, 4, []) ::
  .inr (0, 4, []) ::
  .inr (0, 4, []) ::
  .inr (0, 4, []) ::
  .inr (0, 4, []) ::
  .inr (0, 4, []) ::
  .inr (0, 4, []) ::
  .inr (0, 4, []) ::
  .inr (0, 4, []) ::
  .inr (0, 4, []) ::
  .inr (0, 4, []) ::
  .inr (0, 4, []) ::
  .inr (0, 4, []) ::
  .inr (0, 4, []) ::
  .inr (0, 4, []) ::
  .inr (0, 4, []) ::
  .inr (0, 4, []) ::
  .inr (0, 4, []) ::
  .inr (0, 4, []) ::
  .inr (0, 4, []) ::
  .inr (0, 4, []) ::
  .inr (0, 4, []) ::
  .inr (0, 4, []) ::
  .inr (0, 4, []) ::
  .inr (0, 4, []) ::
  .inr (0, 4, []) ::
  .inr (0, 4, []) ::
  .inr (0, 4, []) ::
  .inr (0, 4, []) ::
  .inr (0, 4, []) ::
  .inr (0, 4, []) ::
  .inr (0, 4, []) ::
  .inr (0, 4, []) ::
  .inr (0, 4, []) ::
  .inr (0, 4, []) :: t
set_option maxRecDepth 100000 in
def xq_p494 (t : List xr_C) : List xr_C := .inr (0, 4, []) ::
  .inr (0, 4, []) ::
  .inr (0, 72, [(6, .int (Int32.ofNat 4294967295)), (7, .int (Int32.ofNat 4294967295)), (8, .int (Int32.ofNat 4294967295)), (9, .int (Int32.ofNat 4294967295)), (10, .int (Int32.ofNat 4294967295)), (11, .int (Int32.ofNat 4294967295)), (12, .int (Int32.ofNat 4294967295)), (13, .int (Int32.ofNat 4294967295)), (14, .int (Int32.ofNat 4294967295)), (15, .int (Int32.ofNat 4294967295)), (16, .int (Int32.ofNat 4294967295)), (17, .int (Int32.ofNat 4294967295)), (18, .int (Int32.ofNat 4294967295)), (19, .int (Int32.ofNat 4294967295)), (20, .int (Int32.ofNat 4294967295)), (21, .int (Int32.ofNat 4294967295)), (22, .int (Int32.ofNat 4294967295)), (23, .int (Int32.ofNat 4294967295)), (70, .int (Int32.ofNat 1))]) :: t
set_option maxRecDepth 100000 in
def xq_p498 (t : List xr_C) : List xr_C := .inr (3, 20, [(0, .ref 499), (1, .ref 500), (2, .ref 501), (3, .ref 502), (4, .ref 503), (5, .ref 504), (6, .ref 505), (7, .ref 506), (8, .ref 507), (9, .ref 508), (10, .ref 509), (11, .ref 510), (12, .ref 511), (13, .ref 512), (14, .ref 513), (15, .ref 514), (16, .ref 515), (17, .ref 516), (18, .ref 517), (19, .ref 518)]) ::
  .inr (0, 72, []) ::
  .inr (0, 72, []) ::
  .inr (0, 72, []) ::
  .inr (0, 72, []) ::
  .inr (0, 72, []) ::
  .inr (0, 72, []) ::
  .inr (0, 72, []) ::
  .inr (0, 72, []) ::
  .inr (0, 72, []) ::
  .inr (0, 72, []) ::
  .inr (0, 72, []) ::
  .inr (0, 72, []) ::
  .inr (0, 72, []) ::
  .inr (0, 72, []) ::
  .inr (0, 72, []) ::
  .inr (0, 72, []) ::
  .inr (0, 72, []) ::
  .inr (0, 72, []) ::
  .inr (0, 72, []) ::
  .inr (0, 72, []) ::
  .inr (3, 3, [(0, .ref 520), (1, .ref 521), (2, .ref 522)]) :: t
set_option maxRecDepth 100000 in
def xq_p521 (t : List xr_C) : List xr_C := .inr (0, 1513, []) ::
  .inr (0, 1513, []) ::
  .inr (0, 6, []) ::
  .inr (0, 6, []) ::
  .inr (0, 4000, []) ::
  .inr (0, 6, []) ::
  .inr (2, 1, []) :: t
def xq_W (c0 c12 c53 c497 c520 : xr_C) (t : List xr_C) : List xr_C := (c0 :: (xq_p1 (c12 :: (xq_p13 (c53 :: (xq_p54 (xq_p98 (xq_p142 (xq_p186 (xq_p230 (xq_p274 (xq_p318 (xq_p362 (xq_p406 (xq_p450 (xq_p494 (c497 :: (xq_p498 (c520 :: (xq_p521 t))))))))))))))))))))
def xq_WA : List xr_C := xq_W (.inl (11, [.ref 1, .ref 3, .ref 8, .ref 11, .ref 14, .ref 18, .ref 25, .ref 28, .ref 33, .ref 42, .null, .null, .int (Int32.ofNat 0), .int (Int32.ofNat 0), .int (Int32.ofNat 0)])) (.inr (0, 72, [(6, .int (Int32.ofNat 9)), (7, .int (Int32.ofNat 9)), (8, .int (Int32.ofNat 9)), (9, .int (Int32.ofNat 9)), (10, .int (Int32.ofNat 9)), (11, .int (Int32.ofNat 9)), (12, .int (Int32.ofNat 4294967295)), (13, .int (Int32.ofNat 4294967295)), (14, .int (Int32.ofNat 4294967295)), (15, .int (Int32.ofNat 4294967295)), (16, .int (Int32.ofNat 4294967295)), (17, .int (Int32.ofNat 4294967295)), (18, .int (Int32.ofNat 4294967295)), (19, .int (Int32.ofNat 4294967295)), (20, .int (Int32.ofNat 4294967295)), (21, .int (Int32.ofNat 4294967295)), (22, .int (Int32.ofNat 4294967295)), (23, .int (Int32.ofNat 4294967295)), (70, .int (Int32.ofNat 1))])) (.inl (12, [.int (Int32.ofNat 0), .int (Int32.ofNat 0), .int (Int32.ofNat 0), .int (Int32.ofNat 4294967295), .int (Int32.ofNat 0), .int (Int32.ofNat 0), .int (Int32.ofNat 0), .int (Int32.ofNat 0), .int (Int32.ofNat 0), .ref 54, .ref 55, .ref 56, .ref 57, .ref 58, .ref 59, .ref 60, .ref 61, .ref 68, .ref 75, .ref 86, .int (Int32.ofNat 0), .int (Int32.ofNat 0), .ref 97, .ref 258, .ref 419, .ref 426, .ref 433, .ref 434, .ref 435, .int (Int32.ofNat 0), .ref 496, .ref 497, .ref 498, .ref 519, .int (Int32.ofNat 0), .int (Int32.ofNat 0), .int (Int32.ofNat 0), .int (Int32.ofNat 0), .int (Int32.ofNat 0), .ref 523, .int (Int32.ofNat 0), .int (Int32.ofNat 0), .ref 524, .ref 525, .ref 526, .int (Int32.ofNat 0), .int (Int32.ofNat 0), .int (Int32.ofNat 0), .int (Int32.ofNat 0)])) (.inr (0, 72, [])) (.inr (0, 1513, [])) []
def xq_WB (y : Nat) : List xr_C := xq_W (.inl (11, [.ref 1, .ref 3, .ref 8, .ref 11, .ref 14, .ref 18, .ref 25, .ref 28, .ref 33, .ref 42, .null, .null, .int (Int32.ofNat 0), .int (Int32.ofNat 0), .int (Int32.ofNat 0)])) (.inr (0, 72, [(6, .int (Int32.ofNat 9)), (7, .int (Int32.ofNat 9)), (8, .int (Int32.ofNat 9)), (9, .int (Int32.ofNat 9)), (10, .int (Int32.ofNat 9)), (11, .int (Int32.ofNat 9)), (12, .int (Int32.ofNat 4294967295)), (13, .int (Int32.ofNat 4294967295)), (14, .int (Int32.ofNat 4294967295)), (15, .int (Int32.ofNat 4294967295)), (16, .int (Int32.ofNat 4294967295)), (17, .int (Int32.ofNat 4294967295)), (18, .int (Int32.ofNat 4294967295)), (19, .int (Int32.ofNat 4294967295)), (20, .int (Int32.ofNat 4294967295)), (21, .int (Int32.ofNat 4294967295)), (22, .int (Int32.ofNat 4294967295)), (23, .int (Int32.ofNat 4294967295)), (70, .int (Int32.ofNat (y + 1)))])) (.inl (12, [.int (Int32.ofNat 0), .int (Int32.ofNat 0), .int (Int32.ofNat 0), .int (Int32.ofNat 4294967295), .int (Int32.ofNat 0), .int (Int32.ofNat 0), .int (Int32.ofNat 0), .int (Int32.ofNat 0), .int (Int32.ofNat 0), .ref 54, .ref 55, .ref 56, .ref 57, .ref 58, .ref 59, .ref 60, .ref 61, .ref 68, .ref 75, .ref 86, .int (Int32.ofNat 0), .int (Int32.ofNat 0), .ref 97, .ref 258, .ref 419, .ref 426, .ref 433, .ref 434, .ref 435, .int (Int32.ofNat 0), .ref 496, .ref 497, .ref 498, .ref 519, .int (Int32.ofNat 0), .int (Int32.ofNat 0), .int (Int32.ofNat 0), .int (Int32.ofNat 0), .int (Int32.ofNat 0), .ref 523, .int (Int32.ofNat 0), .int (Int32.ofNat 0), .ref 524, .ref 525, .ref 526, .int (Int32.ofNat 0), .int (Int32.ofNat 0), .int (Int32.ofNat 0), .int (Int32.ofNat 0)])) (.inr (0, 72, [])) (.inr (0, 1513, [])) []
def xq_WD (y : Nat) : List xr_C := xq_W (.inl (11, [.ref 1, .ref 3, .ref 8, .ref 11, .ref 14, .ref 18, .ref 25, .ref 28, .ref 33, .ref 42, .null, .null, .int (Int32.ofNat 0), .int (Int32.ofNat 0), .int (Int32.ofNat 0)])) (.inr (0, 72, [(6, .int (Int32.ofNat 9)), (7, .int (Int32.ofNat 9)), (8, .int (Int32.ofNat 9)), (9, .int (Int32.ofNat 9)), (10, .int (Int32.ofNat 9)), (11, .int (Int32.ofNat 9)), (12, .int (Int32.ofNat 4294967295)), (13, .int (Int32.ofNat 4294967295)), (14, .int (Int32.ofNat 4294967295)), (15, .int (Int32.ofNat 4294967295)), (16, .int (Int32.ofNat 4294967295)), (17, .int (Int32.ofNat 4294967295)), (18, .int (Int32.ofNat 4294967295)), (19, .int (Int32.ofNat 4294967295)), (20, .int (Int32.ofNat 4294967295)), (21, .int (Int32.ofNat 4294967295)), (22, .int (Int32.ofNat 4294967295)), (23, .int (Int32.ofNat 4294967295)), (70, .int (Int32.ofNat (y + 1)))])) (.inl (12, [.int (Int32.ofNat 0), .int (Int32.ofNat 0), .int (Int32.ofNat 0), .int (Int32.ofNat 4294967295), .int (Int32.ofNat 0), .int (Int32.ofNat 0), .int (Int32.ofNat 0), .int (Int32.ofNat 0), .int (Int32.ofNat 0), .ref 54, .ref 55, .ref 56, .ref 57, .ref 58, .ref 59, .ref 60, .ref 61, .ref 68, .ref 75, .ref 86, .int (Int32.ofNat 0), .int (Int32.ofNat 0), .ref 97, .ref 258, .ref 419, .ref 426, .ref 433, .ref 434, .ref 435, .int (Int32.ofNat 0), .ref 496, .ref 497, .ref 498, .ref 519, .int (Int32.ofNat 0), .int (Int32.ofNat 0), .int (Int32.ofNat 0), .int (Int32.ofNat 0), .int (Int32.ofNat 0), .ref 523, .int (Int32.ofNat 0), .int (Int32.ofNat 0), .ref 524, .ref 525, .ref 526, .retAddr 11, .int (Int32.ofNat 0), .int (Int32.ofNat 0), .int (Int32.ofNat 0)])) (.inr (0, 72, [(6, .int (Int32.ofNat 4294967295)), (7, .int (Int32.ofNat 4294967295)), (8, .int (Int32.ofNat 4294967295)), (9, .int (Int32.ofNat 4294967295)), (10, .int (Int32.ofNat 4294967295)), (11, .int (Int32.ofNat 4294967295)), (12, .int (Int32.ofNat 4294967295)), (13, .int (Int32.ofNat 4294967295)), (14, .int (Int32.ofNat 4294967295)), (15, .int (Int32.ofNat 4294967295)), (16, .int (Int32.ofNat 4294967295)), (17, .int (Int32.ofNat 4294967295)), (18, .int (Int32.ofNat 4294967295)), (19, .int (Int32.ofNat 4294967295)), (20, .int (Int32.ofNat 4294967295)), (21, .int (Int32.ofNat 4294967295)), (22, .int (Int32.ofNat 4294967295)), (23, .int (Int32.ofNat 4294967295)), (70, .int (Int32.ofNat (y + 1)))])) (.inr (0, 1513, [])) []
abbrev xq_rI : List (Nat × Nat) := [(1, 1), (2, 2), (3, 3), (5, 5), (11, 11)]
abbrev xq_rL : List (Nat × Nat) := [(10, 8), (9, 11), (1, 1), (2, 2), (3, 3), (5, 5)]
abbrev xq_rA : List (Nat × Nat) := [(1, 1), (2, 2), (3, 3), (5, 5)]
abbrev xq_dE : xr_D := [(0, .retAddr 1, .int (Int32.ofNat 0), .retAddr 11)]
abbrev xq_dI : xr_D := [(0, .retAddr 1, .retAddr 8, .retAddr 9), (0, .retAddr 8, .int (Int32.ofNat 1), .retAddr 10)]
abbrev xq_fE : xr_F := [(1, .retAddr 2, .int (Int32.ofNat 1), false), (1, .int (Int32.ofNat 20), .retAddr 2, false), (1, .retAddr 3, .int (Int32.ofNat 0), false), (1, .int (Int32.ofNat 16), .retAddr 3, false), (1, .retAddr 5, .int (Int32.ofNat 0), false), (1, .int (Int32.ofNat 2), .retAddr 5, false), (1, .int (Int32.ofNat 0), .retAddr 2, true)]
abbrev xq_fI : xr_F := [(1, .retAddr 8, .retAddr 2, true), (0, .retAddr 8, .int (Int32.ofNat 0), false)]
abbrev xq_fX (j : Nat) : xr_F := match j with
  | 0 => [(1, .retAddr 8, .retAddr 2, false), (0, .retAddr 5, .int (Int32.ofNat 0), true)]
  | 1 => [(1, .retAddr 8, .retAddr 2, false), (0, .retAddr 5, .int (Int32.ofNat 0), false), (0, .retAddr 5, .int (Int32.ofNat 1), true)]
  | _ => [(1, .retAddr 8, .retAddr 2, false), (0, .retAddr 5, .int (Int32.ofNat 0), false), (0, .retAddr 5, .int (Int32.ofNat 1), false)]
abbrev xq_r (th y : Nat) : xr_L := [(8, .int (Int32.ofNat 0)), (7, .int (Int32.ofNat 0)), (6, .int (Int32.ofNat 0)), (0, .ref th), (1, .retAddr 1), (2, .retAddr 2), (3, .retAddr 3), (4, .int (Int32.ofNat y)), (5, .retAddr 5)]
abbrev xq_as (th y : Nat) : List Value := [.ref th, .retAddr 1, .retAddr 2, .retAddr 3, .int (Int32.ofNat y), .retAddr 5]
/-- the runs of a span: up to the second time round, one time round, the end -/
def xq_E (M : xr_M) (d n pc0 : Nat) (r : xr_L) (as : List Value) (WA WH : List xr_C) : Bool := xr_isM (xr_lp (xz_K xq_rI pc0 ((9, .int (Int32.ofNat 1)) :: r) WH 0 0) xq_dE xq_fE none xr_mt d (xr_R xq_dE xq_fE xr_no xr_mt 100000 d) M n (M.2.2.2.2.2.2.drop 0) (lv_args 0 as) [] WA true 0 0) true 0 0
def xq_I (M : xr_M) (d n pc0 k : Nat) (r : xr_L) (WH : List xr_C) : Bool := xr_isM (xr_lp (xz_K xq_rL pc0 ((9, .retAddr 8) :: r) WH 0 0) xq_dI xq_fI none xr_mt d (xr_R xq_dI xq_fI xr_no xr_mt 100000 d) M n (M.2.2.2.2.2.2.drop k) ((9, .retAddr 8) :: r) [] WH true 0 0) true 0 0
def xq_X (M : xr_M) (d k : Nat) (r : xr_L) (WH : List xr_C) (j : Nat) : Bool := xz_isO xq_rI (xr_lp xr_K0 [] (xq_fX j) none xr_mt d (xr_R [] (xq_fX j) xr_no xr_mt 100000 d) M 40 (M.2.2.2.2.2.2.drop k) ((9, .retAddr 8) :: r) [] WH true 0 0) (some (.int (Int32.ofNat 0))) WH 0 0
def xq_ep (xs : Nat → Int32) (i : Nat) : Nat → Int32 := fun k => match k with
  | 8 => Int32.ofNat i
  | 9 => xs 1 + Int32.ofNat i
  | 10 => Int32.ofNat i + 1
  | 11 => xs 1 + (Int32.ofNat i - 1)
  | k => xs k
theorem xz_el_lv {rn : List (Nat × Nat)} {ep ep' : Nat → Int32} {ba : Nat} {sg : Nat → Nat} (hrn : ∀ q ∈ rn, ep q.1 = ep' q.2) {a b : xr_L} (h : xz_el rn a b = true) : xr_lv ep ba sg a = xr_lv ep' ba sg b := by
  unfold xr_lv
  induction a generalizing b with
  | nil => cases b with
    | nil => rw [List.map_nil, List.map_nil]
    | cons y t => simp [xz_el] at h
  | cons x t ih => cases b with
    | nil => simp [xz_el] at h
    | cons y u =>
      simp only [xz_el, Bool.and_eq_true] at h
      rw [List.map_cons, List.map_cons, xz_ev_ok hrn h.2.1, ih h.2.2, Nat.eq_of_beq_eq_true h.1]
abbrev xg_29_in : xr_F := [(1, .retAddr 2, .int (Int32.ofNat 1), false), (1, .int (Int32.ofNat 20), .retAddr 2, false), (1, .retAddr 3, .int (Int32.ofNat 0), false), (1, .int (Int32.ofNat 16), .retAddr 3, false), (1, .retAddr 4, .int (Int32.ofNat 1), false), (1, .int (Int32.ofNat 20), .retAddr 4, false), (1, .retAddr 5, .int (Int32.ofNat 0), false), (1, .int (Int32.ofNat 2), .retAddr 5, false)]
theorem xq_op0 (a b : Int32) : xr_op 0 a b = a + b := rfl
theorem xq_one : Int32.ofNat 1 - 1 = Int32.ofNat 0 := by decide
theorem xq_n1 : ∀ i, i < 21 → Int32.ofNat i + 1 = Int32.ofNat (i + 1) ∧ Int32.ofNat i = Int32.ofNat (i + 1) - 1 := by decide +kernel
theorem xq_n2 : ∀ i, i < 21 → ∀ m, m < 21 → i < m → (true = xr_cm 1 (Int32.ofNat i) (Int32.ofNat m)) := by decide +kernel
theorem xq_n3 : ∀ i, i < 21 → 1 ≤ i → (false = xr_cm 0 (Int32.ofNat i) (Int32.ofNat 0)) := by decide +kernel
theorem xq_n4 : ∀ i, i < 21 → (false = xr_cm 1 (Int32.ofNat i) (Int32.ofNat i)) := by decide +kernel
section XQS
variable {l : Launch} {xs : Nat → Int32} {ba : Nat} {D : va_G} {cy : Nat → ClassId} {sg : Nat → Nat}
theorem xq_lo (i : Nat) : ∀ z, z < 7 → xq_ep xs i z = xs z := fun z hz => match z, hz with
    | 0, _ => rfl
    | 1, _ => rfl
    | 2, _ => rfl
    | 3, _ => rfl
    | 4, _ => rfl
    | 5, _ => rfl
    | 6, _ => rfl
theorem xq_ep8 (i : Nat) : xq_ep xs i 8 = Int32.ofNat i := rfl
theorem xq_ep9 (i : Nat) : xq_ep xs i 9 = xs 1 + Int32.ofNat i := rfl
theorem xq_ep10 (i : Nat) : xq_ep xs i 10 = Int32.ofNat i + 1 := rfl
theorem xq_ep11 (i : Nat) : xq_ep xs i 11 = xs 1 + (Int32.ofNat i - 1) := rfl
theorem xq_vr (ep : Nat → Int32) (n : Nat) : xr_v ep ba sg (.retAddr n) = .int (ep n) := rfl
theorem xq_vi (ep : Nat → Int32) (x : Int32) : xr_v ep ba sg (.int x) = .int x := rfl
theorem xq_T {i : Nat} {d : Nat × Value × Value × Bool} (h1 : (xt_lt 7 d.2.1 && xt_lt 7 d.2.2.1) = true) (t : xt_T xs d) : xt_T (xq_ep xs i) d := by
  simp only [Bool.and_eq_true] at h1
  unfold xt_T at *
  rw [xt_lt_iv h1.1 (fun k hk => xq_lo i k hk), xt_lt_iv h1.2 (fun k hk => xq_lo i k hk)]
  exact t
theorem xq_Tr {ep : Nat → Int32} {k a c : Nat} {x y : Int32} {b : Bool} (ea : ep a = x) (ec : ep c = y) (h : b = xr_cm k x y) : xt_T ep (k, .retAddr a, .retAddr c, b) := by
  subst ea ec
  exact h
theorem xq_Ti {ep : Nat → Int32} {k a : Nat} {x y : Int32} {b : Bool} (ea : ep a = x) (h : b = xr_cm k x y) : xt_T ep (k, .retAddr a, .int y, b) := by
  subst ea
  exact h
theorem xq_cm0 (x y : Int32) : xr_cm 0 x y = decide (x = y) := rfl
theorem xq_inlt : xg_29_in.all (fun d => xt_lt 7 d.2.1 && xt_lt 7 d.2.2.1) = true := by decide +kernel
theorem xq_hI (m i : Nat) : ∀ q ∈ xq_rA, xq_ep xs m q.1 = xq_ep xs i q.2 := by
  intro q hq
  simp only [xq_rA, List.mem_cons, List.not_mem_nil, or_false] at hq
  rcases hq with rfl | rfl | rfl | rfl
  · exact (xq_lo m 1 (by decide)).trans (xq_lo i 1 (by decide)).symm
  · exact (xq_lo m 2 (by decide)).trans (xq_lo i 2 (by decide)).symm
  · exact (xq_lo m 3 (by decide)).trans (xq_lo i 3 (by decide)).symm
  · exact (xq_lo m 5 (by decide)).trans (xq_lo i 5 (by decide)).symm
theorem xq_hJ (ep : Nat → Int32) : ∀ q ∈ xq_rI, ep q.1 = ep q.2 := by
  intro q hq
  simp only [xq_rI, List.mem_cons, List.not_mem_nil, or_false] at hq
  rcases hq with rfl | rfl | rfl | rfl | rfl <;> rfl
theorem xq_hL {i : Nat} (n1 : Int32.ofNat i + 1 = Int32.ofNat (i + 1)) (n2 : Int32.ofNat i = Int32.ofNat (i + 1) - 1) : ∀ q ∈ xq_rL, xq_ep xs i q.1 = xq_ep xs (i + 1) q.2 := by
  intro q hq
  simp only [xq_rL, List.mem_cons, List.not_mem_nil, or_false] at hq
  rcases hq with rfl | rfl | rfl | rfl | rfl | rfl
  · exact (xq_ep10 i).trans (n1.trans (xq_ep8 (i + 1)).symm)
  · exact (xq_ep9 i).trans ((congrArg (fun z => xs 1 + z) n2).trans (xq_ep11 (i + 1)).symm)
  · exact (xq_lo i 1 (by decide)).trans (xq_lo (i + 1) 1 (by decide)).symm
  · exact (xq_lo i 2 (by decide)).trans (xq_lo (i + 1) 2 (by decide)).symm
  · exact (xq_lo i 3 (by decide)).trans (xq_lo (i + 1) 3 (by decide)).symm
  · exact (xq_lo i 5 (by decide)).trans (xq_lo (i + 1) 5 (by decide)).symm
theorem xq_hDI (i : Nat) : xr_okD (xq_ep xs i) ba sg xq_dI := by
  intro q hq
  simp only [xq_dI, List.mem_cons, List.not_mem_nil, or_false] at hq
  rcases hq with rfl | rfl
  · refine ⟨xs 1, Int32.ofNat i, ?_, ?_, ?_⟩
    · rw [xq_vr, xq_lo i 1 (by decide)]
    · rw [xq_vr, xq_ep8]
    · rw [xq_vr, xq_ep9, xq_op0]
  · refine ⟨Int32.ofNat i, Int32.ofNat 1, ?_, ?_, ?_⟩
    · rw [xq_vr, xq_ep8]
    · rw [xq_vi]
    · rw [xq_vr, xq_ep10, xq_op0]
      rfl
theorem xq_hDE : xr_okD (xq_ep xs 1) ba sg xq_dE := by
  intro q hq
  simp only [xq_dE, List.mem_cons, List.not_mem_nil, or_false] at hq
  subst hq
  refine ⟨xs 1, Int32.ofNat 0, ?_, ?_, ?_⟩
  · rw [xq_vr, xq_lo 1 1 (by decide)]
  · rw [xq_vi]
  · rw [xq_vr, xq_ep11, xq_op0, xq_one]
theorem xq_e9 (r : xr_L) : xr_lv (xq_ep xs 1) ba sg ((9, .retAddr 8) :: r) = xr_lv (xq_ep xs 1) ba sg ((9, .int (Int32.ofNat 1)) :: r) := by
  unfold xr_lv
  rw [List.map_cons, List.map_cons, xq_vr, xq_vi, xq_ep8]
theorem xq_con (hst : l.stackTraces = false) (hmt : ∀ M ∈ xr_mt, xr_Mok xr_mt M = true) {m : Nat} (hm1 : 1 ≤ m) (hm2 : m < 21) (hx2 : xs 2 = Int32.ofNat m) (hin : ∀ d ∈ xg_29_in, xt_T xs d) {M : xr_M} {u d nE nI k pc0 : Nat} (hM : xr_mt[u]? = some M) (hh : M.2.2.2.2.1 = []) (hpc : xr_pc (M.2.2.2.2.2.2.drop k) = pc0) {r : xr_L} {as : List Value} {WA WH : List xr_C} (hsl : (lg_sl as).length ≤ M.2.2.1) (hA : xz_el xq_rA (lv_args 0 as) (lv_args 0 as) = true) (hWA : xz_ew [] WA WA = true)
    (hE : xq_E M d nE pc0 r as WA WH = true) (hI : xq_I M d nI pc0 k r WH = true) (hX : ∀ j, j < 3 → xq_X M d k r WH j = true) : xr_Con l D (xq_ep xs m) ba sg cy xr_mt (d + 1) u as WA true (.inl (some (.int (Int32.ofNat 0))), WH, true, 0, 0) := by
  have hok := hmt M (List.mem_of_getElem? hM)
  refine xs_con hM hok hh hsl (fun p e R s mm args below meth c B hRc hRs => ?_)
  have hcall : ∀ (ep : Nat → Int32) (df : xr_D) (fx : xr_F), xr_okD ep ba sg df → xr_okF ep ba sg fx → ∀ u as w b o, xr_R df fx xr_no xr_mt 100000 d u as w b = some o → xr_Con l D ep ba sg cy xr_mt d u as w b o := fun ep df fx hD hF u as w b o ho => xr_R_ok (fun d u as w b o ho => by cases ho) hst hD hF hmt 100000 d u as w b o ho
  -- from the end back
  have head : ∀ n i : Nat, i + n = m → 1 ≤ i → xs_G p l e R s mm args below meth c D ba M.2.2.1 (MQ below (xs_Q D ba ((some (.int (Int32.ofNat 0)) : Option Value).map (xr_v (xq_ep xs m) ba sg)) (xr_w (xq_ep xs m) ba sg cy 0 WH) WH.length true 0) args s 0 0 (fun q => ba ≤ q)) 0 0 pc0 (xr_lv (xq_ep xs i) ba sg ((9, .retAddr 8) :: r)) (xr_w (xq_ep xs i) ba sg cy 0 WH) WH.length 0 0 := by
    intro n
    induction n with
    | zero =>
      intro i hi h1
      have hi : i = m := by omega
      subst hi
      have f0 : xt_T (xq_ep xs i) (1, .retAddr 8, .retAddr 2, false) := xq_Tr (xq_ep8 i) ((xq_lo i 2 (by decide)).trans hx2) (xq_n4 i hm2)
      have fin : ∀ j, j < 3 → (∀ q ∈ xq_fX j, xt_T (xq_ep xs i) q) → xt_clo (xq_fX j) (xq_fX j) = true → xs_G p l e R s mm args below meth c D ba M.2.2.1 (MQ below (xs_Q D ba ((some (.int (Int32.ofNat 0)) : Option Value).map (xr_v (xq_ep xs i) ba sg)) (xr_w (xq_ep xs i) ba sg cy 0 WH) WH.length true 0) args s 0 0 (fun q => ba ≤ q)) 0 0 pc0 (xr_lv (xq_ep xs i) ba sg ((9, .retAddr 8) :: r)) (xr_w (xq_ep xs i) ba sg cy 0 WH) WH.length 0 0 := by
        intro j hj hq hc
        have hF : xr_okF (xq_ep xs i) ba sg (xq_fX j) := xt_clo_ok hq hc
        have hD : xr_okD (xq_ep xs i) ba sg [] := fun d hd => by cases hd
        have g := xs_fin (l := l) (e := e) (below := below) (ep := xq_ep xs i) (ep' := xq_ep xs i) (rn := xq_rI) hok B hD hF (hcall _ _ _ hD hF) hRc hRs (xq_hJ _) (hX j hj)
        rw [hpc] at g
        exact g
      by_cases w0 : xs 5 = Int32.ofNat 0
      · refine fin 0 (by omega) (fun q hq => ?_) (by decide +kernel)
        simp only [xq_fX, List.mem_cons, List.not_mem_nil, or_false] at hq
        rcases hq with rfl | rfl
        · exact f0
        · exact xq_Ti (xq_lo i 5 (by decide)) (by rw [xq_cm0]; exact (decide_eq_true w0).symm)
      · by_cases w1 : xs 5 = Int32.ofNat 1
        · refine fin 1 (by omega) (fun q hq => ?_) (by decide +kernel)
          simp only [xq_fX, List.mem_cons, List.not_mem_nil, or_false] at hq
          rcases hq with rfl | rfl | rfl
          · exact f0
          · exact xq_Ti (xq_lo i 5 (by decide)) (by rw [xq_cm0]; exact (decide_eq_false w0).symm)
          · exact xq_Ti (xq_lo i 5 (by decide)) (by rw [xq_cm0]; exact (decide_eq_true w1).symm)
        · refine fin 2 (by omega) (fun q hq => ?_) (by decide +kernel)
          simp only [xq_fX, List.mem_cons, List.not_mem_nil, or_false] at hq
          rcases hq with rfl | rfl | rfl
          · exact f0
          · exact xq_Ti (xq_lo i 5 (by decide)) (by rw [xq_cm0]; exact (decide_eq_false w0).symm)
          · exact xq_Ti (xq_lo i 5 (by decide)) (by rw [xq_cm0]; exact (decide_eq_false w1).symm)
    | succ n ih =>
      intro i hi h1
      obtain ⟨n1, n2⟩ := xq_n1 i (by omega)
      have hF : xr_okF (xq_ep xs i) ba sg xq_fI := xt_clo_ok (p := xq_fI) (fun q hq => by
        simp only [xq_fI, List.mem_cons, List.not_mem_nil, or_false] at hq
        rcases hq with rfl | rfl
        · exact xq_Tr (xq_ep8 i) ((xq_lo i 2 (by decide)).trans hx2) (xq_n2 i (by omega) m hm2 (by omega))
        · exact xq_Ti (xq_ep8 i) (xq_n3 i (by omega) h1)) (by decide +kernel)
      have hD : xr_okD (xq_ep xs i) ba sg xq_dI := xq_hDI i
      have g := xs_cut (l := l) (e := e) (below := below) (ep := xq_ep xs i) (ep' := xq_ep xs (i + 1)) (rn := xq_rL) hok B hD hF (hcall _ _ _ hD hF) hRc hRs (xq_hL n1 n2) (ih (i + 1) (by omega) (by omega)) hI
      rw [hpc] at g
      exact g
  have h1 := head (m - 1) 1 (by omega) (Nat.le_refl _)
  have hF : xr_okF (xq_ep xs 1) ba sg xq_fE := xt_clo_ok (p := xg_29_in) (fun q hq => by
    exact xq_T (List.all_eq_true.mp xq_inlt q hq) (hin q hq)) (by decide +kernel)
  have hD : xr_okD (xq_ep xs 1) ba sg xq_dE := xq_hDE
  have e9 := xq_e9 (xs := xs) (ba := ba) (sg := sg) r
  rw [e9] at h1
  have eA : xr_lv (xq_ep xs m) ba sg (lv_args 0 as) = xr_lv (xq_ep xs 1) ba sg (lv_args 0 as) := xz_el_lv (rn := xq_rA) (xq_hI m 1) hA
  have eW : xr_w (xq_ep xs m) ba sg cy 0 WA = xr_w (xq_ep xs 1) ba sg cy 0 WA := (xz_ew_ok (fun q hq => by cases hq) 0 hWA).1
  rw [eA, eW]
  exact xs_cut (l := l) (e := e) (below := below) (ep := xq_ep xs 1) (ep' := xq_ep xs 1) (rn := xq_rI) hok B hD hF (hcall _ _ _ hD hF) hRc hRs (xq_hJ _) h1 hE
end XQS
