/-! the law's loop, in two stretches -/
def bk_law : bx_K := (276, 18, [(0, (3, 0, 0)), (1, (2, 0, 0)), (2, (2, 86, 0)), (3, (0, 0, 4096))], [], [(none, 1251, [(3, (0, 0, 4096))], [])], [(200000, 0, 0)], [3], 27, some (3, true))
def bl_C : bx_C := (bw_INV, bw_PC, [(200000, 0, 0)], [3])
def bl_run1 : Option (List bx_O) := bx_run yp_P [] 100 27 bl_C yp_m276 276 [172, 205, 308, 371, 394, 417, 440, 473, 506, 539, 572, 615, 638, 681, 714, 757, 800, 843, 876, 909, 932, 955, 988, 1021, 1064, 1107, 1150, 1173, 1186, 1199, 1222, 1245, 1251] true (bx_st0 18 bk_law.2.2.1 bk_law.2.2.2.1)
def bl_o (k : Nat) : bx_O := (bl_run1.getD []).getD k (none, [], 0, [], [], [], [])
def bl_T (pc : Nat) : List bx_K := match pc with
  | 18 => []
  | 183 => []
  | 237 => [bk_27, bk_71]
  | 334 => []
  | 377 => [bk_26, bk_115]
  | 400 => [bk_25, bk_114]
  | 423 => [bk_24, bk_113]
  | 451 => [bk_23, bk_70]
  | 484 => [bk_22, bk_69]
  | 517 => [bk_21, bk_68]
  | 550 => [bk_20, bk_67]
  | 588 => [bk_19, bk_66]
  | 621 => [bk_18, bk_65]
  | 654 => [bk_17, bk_64]
  | 692 => [bk_16, bk_63]
  | 730 => [bk_15, bk_62]
  | 773 => [bk_14, bk_61]
  | 816 => [bk_13, bk_112]
  | 854 => [bk_12, bk_111]
  | 887 => [bk_11, bk_60]
  | 915 => [bk_10, bk_59]
  | 938 => [bk_9, bk_58]
  | 966 => [bk_8, bk_57]
  | 999 => [bk_7, bk_110]
  | 1037 => [bk_6, bk_56]
  | 1080 => [bk_5, bk_55]
  | 1123 => [bk_4, bk_54]
  | 1156 => []
  | 1174 => [bk_3, bk_53, bk_95]
  | 1187 => [bk_2, bk_52]
  | 1205 => [bk_1, bk_51]
  | 1228 => [bk_0, bk_50]
  | 1251 => []
  | _ => []
def bl_run2 (k : Nat) : Option (List bx_O) := bx_run yp_P (bl_T (bl_o k).2.2.1) 600 27 bl_C yp_m276 276 [18, 1251] false (bl_o k).2
def bl_good (k : Nat) : Bool := decide ((bl_o k).1 = none) && match bl_run2 k with
  | some outs => outs.all (bx_fit bw_INV bk_law)
  | none => false
set_option maxRecDepth 10000000 in
theorem bl_len : (match bl_run1 with | some l => decide (l.length = 33) | none => false) = true := by decide +kernel
theorem bl_ctr : bx_ctrok bw_INV bk_law.2.2.1 bk_law.2.2.2.1 (some (3, true)) = true := by decide +kernel
set_option maxRecDepth 10000000 in
theorem bl_g0 : bl_good 0 = true := by decide +kernel
set_option maxRecDepth 10000000 in
theorem bl_g1 : bl_good 1 = true := by decide +kernel
set_option maxRecDepth 10000000 in
theorem bl_g2 : bl_good 2 = true := by decide +kernel
set_option maxRecDepth 10000000 in
theorem bl_g3 : bl_good 3 = true := by decide +kernel
set_option maxRecDepth 10000000 in
theorem bl_g4 : bl_good 4 = true := by decide +kernel
set_option maxRecDepth 10000000 in
theorem bl_g5 : bl_good 5 = true := by decide +kernel
set_option maxRecDepth 10000000 in
theorem bl_g6 : bl_good 6 = true := by decide +kernel
set_option maxRecDepth 10000000 in
theorem bl_g7 : bl_good 7 = true := by decide +kernel
set_option maxRecDepth 10000000 in
theorem bl_g8 : bl_good 8 = true := by decide +kernel
set_option maxRecDepth 10000000 in
theorem bl_g9 : bl_good 9 = true := by decide +kernel
set_option maxRecDepth 10000000 in
theorem bl_g10 : bl_good 10 = true := by decide +kernel
set_option maxRecDepth 10000000 in
theorem bl_g11 : bl_good 11 = true := by decide +kernel
set_option maxRecDepth 10000000 in
theorem bl_g12 : bl_good 12 = true := by decide +kernel
set_option maxRecDepth 10000000 in
theorem bl_g13 : bl_good 13 = true := by decide +kernel
set_option maxRecDepth 10000000 in
theorem bl_g14 : bl_good 14 = true := by decide +kernel
set_option maxRecDepth 10000000 in
theorem bl_g15 : bl_good 15 = true := by decide +kernel
set_option maxRecDepth 10000000 in
theorem bl_g16 : bl_good 16 = true := by decide +kernel
set_option maxRecDepth 10000000 in
theorem bl_g17 : bl_good 17 = true := by decide +kernel
set_option maxRecDepth 10000000 in
theorem bl_g18 : bl_good 18 = true := by decide +kernel
set_option maxRecDepth 10000000 in
theorem bl_g19 : bl_good 19 = true := by decide +kernel
set_option maxRecDepth 10000000 in
theorem bl_g20 : bl_good 20 = true := by decide +kernel
set_option maxRecDepth 10000000 in
theorem bl_g21 : bl_good 21 = true := by decide +kernel
set_option maxRecDepth 10000000 in
theorem bl_g22 : bl_good 22 = true := by decide +kernel
set_option maxRecDepth 10000000 in
theorem bl_g23 : bl_good 23 = true := by decide +kernel
set_option maxRecDepth 10000000 in
theorem bl_g24 : bl_good 24 = true := by decide +kernel
set_option maxRecDepth 10000000 in
theorem bl_g25 : bl_good 25 = true := by decide +kernel
set_option maxRecDepth 10000000 in
theorem bl_g26 : bl_good 26 = true := by decide +kernel
set_option maxRecDepth 10000000 in
theorem bl_g27 : bl_good 27 = true := by decide +kernel
set_option maxRecDepth 10000000 in
theorem bl_g28 : bl_good 28 = true := by decide +kernel
set_option maxRecDepth 10000000 in
theorem bl_g29 : bl_good 29 = true := by decide +kernel
set_option maxRecDepth 10000000 in
theorem bl_g30 : bl_good 30 = true := by decide +kernel
set_option maxRecDepth 10000000 in
theorem bl_g31 : bl_good 31 = true := by decide +kernel
set_option maxRecDepth 10000000 in
theorem bl_g32 : bl_good 32 = true := by decide +kernel
