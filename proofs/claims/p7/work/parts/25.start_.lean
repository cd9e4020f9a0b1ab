section
/-! the law's start: both objects made (worlds as in p1) -/
def yq_bud : List (Nat × Nat × Nat) := [(1, 1, 260), (2, 1, 260), (3, 12, 1048), (4, 7, 608), (5, 8, 620), (6, 7, 128), (8, 5, 50), (9, 4, 4184), (10, 4, 1872)]
def yq_mrg : List Nat := [134, 258]
def yq_w1 : ax_W := [
  (9, [(12, (5, 0, 0)), (2, (0, 0, 0))])]
def yq_w86 : ax_W := [
  (9, [(1, (2, 1, 0)), (1, (2, 3, 0)), (1, (2, 5, 0)), (1, (2, 18, 0)), (1, (2, 31, 0)), (1, (2, 44, 0)), (1, (2, 52, 0)), (1, (2, 61, 0)), (1, (2, 69, 0)), (1, (2, 70, 0)), (1, (2, 76, 0)), (1, (2, 81, 0)), (2, (0, 0, 0))]),
  (0, [(1, (2, 2, 0)), (1, (0, 0, 0))]),
  (100, [(260, (0, 0, 0))]),
  (1, [(1, (2, 4, 0)), (4, (0, 0, 0))]),
  (100, [(260, (0, 0, 0))]),
  (2, [(1, (0, 0, 0)), (2, (1, 0, 0)), (1, (0, 0, 0)), (1, (0, 1, 1)), (1, (2, 6, 0)), (1, (2, 7, 0)), (1, (2, 8, 0)), (1, (2, 9, 0)), (1, (2, 10, 0)), (1, (2, 11, 0)), (1, (2, 12, 0)), (1, (2, 13, 0)), (1, (2, 14, 0)), (1, (2, 15, 0)), (1, (2, 16, 0)), (1, (2, 17, 0))]),
  (100, [(8, (0, 0, 0))]),
  (100, [(40, (0, 0, 0))]),
  (100, [(40, (0, 0, 0))]),
  (100, [(40, (0, 0, 0))]),
  (100, [(40, (0, 0, 0))]),
  (100, [(40, (0, 0, 0))]),
  (100, [(40, (0, 0, 0))]),
  (100, [(40, (0, 0, 0))]),
  (100, [(40, (0, 0, 0))]),
  (100, [(40, (0, 0, 0))]),
  (100, [(40, (0, 0, 0))]),
  (100, [(640, (0, 0, 0))]),
  (2, [(1, (0, 0, 0)), (2, (1, 0, 0)), (1, (0, 0, 0)), (1, (0, 1, 1)), (1, (2, 19, 0)), (1, (2, 20, 0)), (1, (2, 21, 0)), (1, (2, 22, 0)), (1, (2, 23, 0)), (1, (2, 24, 0)), (1, (2, 25, 0)), (1, (2, 26, 0)), (1, (2, 27, 0)), (1, (2, 28, 0)), (1, (2, 29, 0)), (1, (2, 30, 0))]),
  (100, [(8, (0, 0, 0))]),
  (100, [(40, (0, 0, 0))]),
  (100, [(40, (0, 0, 0))]),
  (100, [(40, (0, 0, 0))]),
  (100, [(40, (0, 0, 0))]),
  (100, [(40, (0, 0, 0))]),
  (100, [(40, (0, 0, 0))]),
  (100, [(40, (0, 0, 0))]),
  (100, [(40, (0, 0, 0))]),
  (100, [(40, (0, 0, 0))]),
  (100, [(40, (0, 0, 0))]),
  (100, [(640, (0, 0, 0))]),
  (2, [(1, (0, 0, 0)), (2, (1, 0, 0)), (1, (0, 0, 0)), (1, (0, 1, 1)), (1, (2, 32, 0)), (1, (2, 33, 0)), (1, (2, 34, 0)), (1, (2, 35, 0)), (1, (2, 36, 0)), (1, (2, 37, 0)), (1, (2, 38, 0)), (1, (2, 39, 0)), (1, (2, 40, 0)), (1, (2, 41, 0)), (1, (2, 42, 0)), (1, (2, 43, 0))]),
  (100, [(8, (0, 0, 0))]),
  (100, [(40, (0, 0, 0))]),
  (100, [(40, (0, 0, 0))]),
  (100, [(40, (0, 0, 0))]),
  (100, [(40, (0, 0, 0))]),
  (100, [(40, (0, 0, 0))]),
  (100, [(40, (0, 0, 0))]),
  (100, [(40, (0, 0, 0))]),
  (100, [(40, (0, 0, 0))]),
  (100, [(40, (0, 0, 0))]),
  (100, [(40, (0, 0, 0))]),
  (100, [(640, (0, 0, 0))]),
  (3, [(1, (2, 45, 0)), (1, (2, 46, 0)), (1, (0, 0, 0)), (1, (2, 47, 0)), (1, (2, 48, 0)), (1, (2, 49, 0)), (1, (2, 50, 0)), (1, (0, 0, 0)), (1, (2, 51, 0)), (3, (0, 0, 0))]),
  (100, [(240, (0, 0, 0))]),
  (100, [(240, (0, 0, 0))]),
  (100, [(16, (0, 0, 0))]),
  (100, [(16, (0, 0, 0))]),
  (100, [(16, (0, 0, 0))]),
  (100, [(16, (0, 0, 0))]),
  (100, [(64, (0, 0, 0))]),
  (4, [(1, (2, 53, 0))]),
  (3, [(1, (2, 54, 0)), (1, (2, 55, 0)), (1, (0, 0, 0)), (1, (2, 56, 0)), (1, (2, 57, 0)), (1, (2, 58, 0)), (1, (2, 59, 0)), (1, (0, 0, 0)), (1, (2, 60, 0)), (3, (0, 0, 0))]),
  (100, [(240, (0, 0, 0))]),
  (100, [(240, (0, 0, 0))]),
  (100, [(16, (0, 0, 0))]),
  (100, [(16, (0, 0, 0))]),
  (100, [(16, (0, 0, 0))]),
  (100, [(16, (0, 0, 0))]),
  (100, [(64, (0, 0, 0))]),
  (5, [(1, (2, 62, 0)), (1, (2, 63, 0)), (1, (2, 64, 0)), (1, (2, 65, 0)), (1, (2, 66, 0)), (1, (0, 0, 0)), (1, (2, 67, 0)), (1, (2, 68, 0))]),
  (100, [(16, (0, 0, 0))]),
  (100, [(16, (0, 0, 0))]),
  (100, [(16, (0, 0, 0))]),
  (100, [(16, (0, 0, 0))]),
  (100, [(16, (0, 0, 0))]),
  (100, [(6, (0, 0, 0))]),
  (100, [(42, (0, 0, 0))]),
  (11, []),
  (6, [(1, (2, 71, 0)), (1, (2, 72, 0)), (1, (0, 0, 0)), (1, (2, 73, 0)), (3, (0, 0, 0)), (1, (2, 74, 0)), (1, (2, 75, 0))]),
  (100, [(12, (0, 0, 0))]),
  (100, [(12, (0, 0, 0))]),
  (100, [(10, (0, 0, 0))]),
  (100, [(8, (0, 0, 0))]),
  (100, [(8, (0, 0, 0))]),
  (7, [(1, (2, 77, 0)), (1, (2, 78, 0)), (1, (0, 0, 0)), (1, (2, 79, 0)), (1, (2, 80, 0)), (2, (0, 0, 0))]),
  (100, [(40, (0, 0, 0))]),
  (100, [(40, (0, 0, 0))]),
  (100, [(4096, (0, 0, 0))]),
  (100, [(8, (0, 0, 0))]),
  (8, [(1, (2, 82, 0)), (1, (0, 0, 0)), (1, (2, 83, 0)), (1, (2, 84, 0)), (1, (2, 85, 0))]),
  (100, [(8, (0, 0, 0))]),
  (100, [(64, (0, 0, 0))]),
  (100, [(1792, (0, 0, 0))]),
  (100, [(8, (0, 0, 0))])]
def yq_k0 : ax_K := (0, [(2, 0, 0)], yq_w1, [(none, yq_w86)], 3, 85, 11226)
def yq_w87 : ax_W := [
  (9, [(1, (2, 1, 0)), (1, (2, 3, 0)), (1, (2, 5, 0)), (1, (2, 18, 0)), (1, (2, 31, 0)), (1, (2, 44, 0)), (1, (2, 52, 0)), (1, (2, 61, 0)), (1, (2, 69, 0)), (1, (2, 70, 0)), (1, (2, 76, 0)), (1, (2, 81, 0)), (2, (0, 0, 0))]),
  (0, [(1, (2, 2, 0)), (1, (0, 0, 0))]),
  (100, [(260, (0, 0, 0))]),
  (1, [(1, (2, 4, 0)), (4, (0, 0, 0))]),
  (100, [(260, (0, 0, 0))]),
  (2, [(1, (0, 0, 0)), (2, (1, 0, 0)), (1, (0, 0, 0)), (1, (0, 1, 1)), (1, (2, 6, 0)), (1, (2, 7, 0)), (1, (2, 8, 0)), (1, (2, 9, 0)), (1, (2, 10, 0)), (1, (2, 11, 0)), (1, (2, 12, 0)), (1, (2, 13, 0)), (1, (2, 14, 0)), (1, (2, 15, 0)), (1, (2, 16, 0)), (1, (2, 17, 0))]),
  (100, [(8, (0, 0, 0))]),
  (100, [(40, (0, 0, 0))]),
  (100, [(40, (0, 0, 0))]),
  (100, [(40, (0, 0, 0))]),
  (100, [(40, (0, 0, 0))]),
  (100, [(40, (0, 0, 0))]),
  (100, [(40, (0, 0, 0))]),
  (100, [(40, (0, 0, 0))]),
  (100, [(40, (0, 0, 0))]),
  (100, [(40, (0, 0, 0))]),
  (100, [(40, (0, 0, 0))]),
  (100, [(640, (0, 0, 0))]),
  (2, [(1, (0, 0, 0)), (2, (1, 0, 0)), (1, (0, 0, 0)), (1, (0, 1, 1)), (1, (2, 19, 0)), (1, (2, 20, 0)), (1, (2, 21, 0)), (1, (2, 22, 0)), (1, (2, 23, 0)), (1, (2, 24, 0)), (1, (2, 25, 0)), (1, (2, 26, 0)), (1, (2, 27, 0)), (1, (2, 28, 0)), (1, (2, 29, 0)), (1, (2, 30, 0))]),
  (100, [(8, (0, 0, 0))]),
  (100, [(40, (0, 0, 0))]),
  (100, [(40, (0, 0, 0))]),
  (100, [(40, (0, 0, 0))]),
  (100, [(40, (0, 0, 0))]),
  (100, [(40, (0, 0, 0))]),
  (100, [(40, (0, 0, 0))]),
  (100, [(40, (0, 0, 0))]),
  (100, [(40, (0, 0, 0))]),
  (100, [(40, (0, 0, 0))]),
  (100, [(40, (0, 0, 0))]),
  (100, [(640, (0, 0, 0))]),
  (2, [(1, (0, 0, 0)), (2, (1, 0, 0)), (1, (0, 0, 0)), (1, (0, 1, 1)), (1, (2, 32, 0)), (1, (2, 33, 0)), (1, (2, 34, 0)), (1, (2, 35, 0)), (1, (2, 36, 0)), (1, (2, 37, 0)), (1, (2, 38, 0)), (1, (2, 39, 0)), (1, (2, 40, 0)), (1, (2, 41, 0)), (1, (2, 42, 0)), (1, (2, 43, 0))]),
  (100, [(8, (0, 0, 0))]),
  (100, [(40, (0, 0, 0))]),
  (100, [(40, (0, 0, 0))]),
  (100, [(40, (0, 0, 0))]),
  (100, [(40, (0, 0, 0))]),
  (100, [(40, (0, 0, 0))]),
  (100, [(40, (0, 0, 0))]),
  (100, [(40, (0, 0, 0))]),
  (100, [(40, (0, 0, 0))]),
  (100, [(40, (0, 0, 0))]),
  (100, [(40, (0, 0, 0))]),
  (100, [(640, (0, 0, 0))]),
  (3, [(1, (2, 45, 0)), (1, (2, 46, 0)), (1, (0, 0, 0)), (1, (2, 47, 0)), (1, (2, 48, 0)), (1, (2, 49, 0)), (1, (2, 50, 0)), (1, (0, 0, 0)), (1, (2, 51, 0)), (3, (0, 0, 0))]),
  (100, [(240, (0, 0, 0))]),
  (100, [(240, (0, 0, 0))]),
  (100, [(16, (0, 0, 0))]),
  (100, [(16, (0, 0, 0))]),
  (100, [(16, (0, 0, 0))]),
  (100, [(16, (0, 0, 0))]),
  (100, [(64, (0, 0, 0))]),
  (4, [(1, (2, 53, 0))]),
  (3, [(1, (2, 54, 0)), (1, (2, 55, 0)), (1, (0, 0, 0)), (1, (2, 56, 0)), (1, (2, 57, 0)), (1, (2, 58, 0)), (1, (2, 59, 0)), (1, (0, 0, 0)), (1, (2, 60, 0)), (3, (0, 0, 0))]),
  (100, [(240, (0, 0, 0))]),
  (100, [(240, (0, 0, 0))]),
  (100, [(16, (0, 0, 0))]),
  (100, [(16, (0, 0, 0))]),
  (100, [(16, (0, 0, 0))]),
  (100, [(16, (0, 0, 0))]),
  (100, [(64, (0, 0, 0))]),
  (5, [(1, (2, 62, 0)), (1, (2, 63, 0)), (1, (2, 64, 0)), (1, (2, 65, 0)), (1, (2, 66, 0)), (1, (0, 0, 0)), (1, (2, 67, 0)), (1, (2, 68, 0))]),
  (100, [(16, (0, 0, 0))]),
  (100, [(16, (0, 0, 0))]),
  (100, [(16, (0, 0, 0))]),
  (100, [(16, (0, 0, 0))]),
  (100, [(16, (0, 0, 0))]),
  (100, [(6, (0, 0, 0))]),
  (100, [(42, (0, 0, 0))]),
  (11, []),
  (6, [(1, (2, 71, 0)), (1, (2, 72, 0)), (1, (0, 0, 0)), (1, (2, 73, 0)), (3, (0, 0, 0)), (1, (2, 74, 0)), (1, (2, 75, 0))]),
  (100, [(12, (0, 0, 0))]),
  (100, [(12, (0, 0, 0))]),
  (100, [(10, (0, 0, 0))]),
  (100, [(8, (0, 0, 0))]),
  (100, [(8, (0, 0, 0))]),
  (7, [(1, (2, 77, 0)), (1, (2, 78, 0)), (1, (0, 0, 0)), (1, (2, 79, 0)), (1, (2, 80, 0)), (2, (0, 0, 0))]),
  (100, [(40, (0, 0, 0))]),
  (100, [(40, (0, 0, 0))]),
  (100, [(4096, (0, 0, 0))]),
  (100, [(8, (0, 0, 0))]),
  (8, [(1, (2, 82, 0)), (1, (0, 0, 0)), (1, (2, 83, 0)), (1, (2, 84, 0)), (1, (2, 85, 0))]),
  (100, [(8, (0, 0, 0))]),
  (100, [(64, (0, 0, 0))]),
  (100, [(1792, (0, 0, 0))]),
  (100, [(8, (0, 0, 0))]),
  (10, [(4, (5, 0, 0)), (10, (0, 0, 0)), (18, (5, 0, 0)), (1, (0, 0, 0)), (1, (5, 0, 0)), (1, (0, 0, 0)), (2, (5, 0, 0)), (2, (0, 0, 0)), (5, (5, 0, 0)), (2, (0, 0, 0)), (1, (5, 0, 0)), (1, (0, 0, 0))])]
def yq_W0 : ax_W := [
  (9, [(1, (2, 1, 0)), (1, (2, 3, 0)), (1, (2, 5, 0)), (1, (2, 18, 0)), (1, (2, 31, 0)), (1, (2, 44, 0)), (1, (2, 52, 0)), (1, (2, 61, 0)), (1, (2, 69, 0)), (1, (2, 70, 0)), (1, (2, 76, 0)), (1, (2, 81, 0)), (2, (0, 0, 0))]),
  (0, [(1, (2, 2, 0)), (1, (0, 0, 0))]),
  (100, [(260, (0, 0, 0))]),
  (1, [(1, (2, 4, 0)), (4, (0, 0, 0))]),
  (100, [(260, (0, 0, 0))]),
  (2, [(1, (0, 0, 0)), (2, (1, 0, 0)), (1, (0, 0, 0)), (1, (0, 1, 1)), (1, (2, 6, 0)), (1, (2, 7, 0)), (1, (2, 8, 0)), (1, (2, 9, 0)), (1, (2, 10, 0)), (1, (2, 11, 0)), (1, (2, 12, 0)), (1, (2, 13, 0)), (1, (2, 14, 0)), (1, (2, 15, 0)), (1, (2, 16, 0)), (1, (2, 17, 0))]),
  (100, [(8, (0, 0, 0))]),
  (100, [(40, (0, 0, 0))]),
  (100, [(40, (0, 0, 0))]),
  (100, [(40, (0, 0, 0))]),
  (100, [(40, (0, 0, 0))]),
  (100, [(40, (0, 0, 0))]),
  (100, [(40, (0, 0, 0))]),
  (100, [(40, (0, 0, 0))]),
  (100, [(40, (0, 0, 0))]),
  (100, [(40, (0, 0, 0))]),
  (100, [(40, (0, 0, 0))]),
  (100, [(640, (0, 0, 0))]),
  (2, [(1, (0, 0, 0)), (2, (1, 0, 0)), (1, (0, 0, 0)), (1, (0, 1, 1)), (1, (2, 19, 0)), (1, (2, 20, 0)), (1, (2, 21, 0)), (1, (2, 22, 0)), (1, (2, 23, 0)), (1, (2, 24, 0)), (1, (2, 25, 0)), (1, (2, 26, 0)), (1, (2, 27, 0)), (1, (2, 28, 0)), (1, (2, 29, 0)), (1, (2, 30, 0))]),
  (100, [(8, (0, 0, 0))]),
  (100, [(40, (0, 0, 0))]),
  (100, [(40, (0, 0, 0))]),
  (100, [(40, (0, 0, 0))]),
  (100, [(40, (0, 0, 0))]),
  (100, [(40, (0, 0, 0))]),
  (100, [(40, (0, 0, 0))]),
  (100, [(40, (0, 0, 0))]),
  (100, [(40, (0, 0, 0))]),
  (100, [(40, (0, 0, 0))]),
  (100, [(40, (0, 0, 0))]),
  (100, [(640, (0, 0, 0))]),
  (2, [(1, (0, 0, 0)), (2, (1, 0, 0)), (1, (0, 0, 0)), (1, (0, 1, 1)), (1, (2, 32, 0)), (1, (2, 33, 0)), (1, (2, 34, 0)), (1, (2, 35, 0)), (1, (2, 36, 0)), (1, (2, 37, 0)), (1, (2, 38, 0)), (1, (2, 39, 0)), (1, (2, 40, 0)), (1, (2, 41, 0)), (1, (2, 42, 0)), (1, (2, 43, 0))]),
  (100, [(8, (0, 0, 0))]),
  (100, [(40, (0, 0, 0))]),
  (100, [(40, (0, 0, 0))]),
  (100, [(40, (0, 0, 0))]),
  (100, [(40, (0, 0, 0))]),
  (100, [(40, (0, 0, 0))]),
  (100, [(40, (0, 0, 0))]),
  (100, [(40, (0, 0, 0))]),
  (100, [(40, (0, 0, 0))]),
  (100, [(40, (0, 0, 0))]),
  (100, [(40, (0, 0, 0))]),
  (100, [(640, (0, 0, 0))]),
  (3, [(1, (2, 45, 0)), (1, (2, 46, 0)), (1, (0, 0, 0)), (1, (2, 47, 0)), (1, (2, 48, 0)), (1, (2, 49, 0)), (1, (2, 50, 0)), (1, (0, 0, 0)), (1, (2, 51, 0)), (3, (0, 0, 0))]),
  (100, [(240, (0, 0, 0))]),
  (100, [(240, (0, 0, 0))]),
  (100, [(16, (0, 0, 0))]),
  (100, [(16, (0, 0, 0))]),
  (100, [(16, (0, 0, 0))]),
  (100, [(16, (0, 0, 0))]),
  (100, [(64, (0, 0, 0))]),
  (4, [(1, (2, 53, 0))]),
  (3, [(1, (2, 54, 0)), (1, (2, 55, 0)), (1, (0, 0, 0)), (1, (2, 56, 0)), (1, (2, 57, 0)), (1, (2, 58, 0)), (1, (2, 59, 0)), (1, (0, 0, 0)), (1, (2, 60, 0)), (3, (0, 0, 0))]),
  (100, [(240, (0, 0, 0))]),
  (100, [(240, (0, 0, 0))]),
  (100, [(16, (0, 0, 0))]),
  (100, [(16, (0, 0, 0))]),
  (100, [(16, (0, 0, 0))]),
  (100, [(16, (0, 0, 0))]),
  (100, [(64, (0, 0, 0))]),
  (5, [(1, (2, 62, 0)), (1, (2, 63, 0)), (1, (2, 64, 0)), (1, (2, 65, 0)), (1, (2, 66, 0)), (1, (0, 0, 0)), (1, (2, 67, 0)), (1, (2, 68, 0))]),
  (100, [(16, (0, 0, 0))]),
  (100, [(16, (0, 0, 0))]),
  (100, [(16, (0, 0, 0))]),
  (100, [(16, (0, 0, 0))]),
  (100, [(16, (0, 0, 0))]),
  (100, [(6, (0, 0, 0))]),
  (100, [(42, (0, 0, 0))]),
  (11, []),
  (6, [(1, (2, 71, 0)), (1, (2, 72, 0)), (1, (0, 0, 0)), (1, (2, 73, 0)), (3, (0, 0, 0)), (1, (2, 74, 0)), (1, (2, 75, 0))]),
  (100, [(12, (0, 0, 0))]),
  (100, [(12, (0, 0, 0))]),
  (100, [(10, (0, 0, 0))]),
  (100, [(8, (0, 0, 0))]),
  (100, [(8, (0, 0, 0))]),
  (7, [(1, (2, 77, 0)), (1, (2, 78, 0)), (1, (0, 0, 0)), (1, (2, 79, 0)), (1, (2, 80, 0)), (2, (0, 0, 0))]),
  (100, [(40, (0, 0, 0))]),
  (100, [(40, (0, 0, 0))]),
  (100, [(4096, (0, 0, 0))]),
  (100, [(8, (0, 0, 0))]),
  (8, [(1, (2, 82, 0)), (1, (0, 0, 0)), (1, (2, 83, 0)), (1, (2, 84, 0)), (1, (2, 85, 0))]),
  (100, [(8, (0, 0, 0))]),
  (100, [(64, (0, 0, 0))]),
  (100, [(1792, (0, 0, 0))]),
  (100, [(8, (0, 0, 0))]),
  (10, [(1, (2, 87, 0)), (1, (2, 88, 0)), (1, (2, 89, 0)), (1, (2, 90, 0)), (10, (0, 0, 0)), (1, (2, 91, 0)), (1, (2, 92, 0)), (1, (2, 93, 0)), (1, (2, 94, 0)), (1, (2, 95, 0)), (1, (2, 96, 0)), (1, (2, 97, 0)), (1, (2, 98, 0)), (1, (2, 99, 0)), (1, (2, 100, 0)), (1, (2, 101, 0)), (1, (2, 102, 0)), (1, (2, 103, 0)), (1, (2, 104, 0)), (1, (2, 105, 0)), (1, (2, 106, 0)), (1, (2, 107, 0)), (1, (2, 108, 0)), (1, (0, 0, 0)), (1, (2, 109, 0)), (1, (0, 0, 0)), (1, (2, 110, 0)), (1, (2, 111, 0)), (2, (0, 0, 0)), (1, (2, 112, 0)), (1, (2, 113, 0)), (1, (2, 114, 0)), (1, (2, 115, 0)), (1, (2, 116, 0)), (2, (0, 0, 0)), (1, (2, 117, 0)), (1, (0, 0, 0))]),
  (100, [(280, (0, 0, 0)), (40, (0, (-2), (-2))), (810, (0, 0, 0)), (1, (0, 1, 1))]),
  (100, [(1131, (0, 0, 0))]),
  (100, [(1131, (0, 0, 0))]),
  (101, [(260, (0, 0, 0))]),
  (100, [(260, (0, 0, 0))]),
  (100, [(260, (0, 0, 0))]),
  (100, [(16, (0, 0, 0))]),
  (100, [(16, (0, 0, 0))]),
  (100, [(16, (0, 0, 0))]),
  (100, [(16, (0, 0, 0))]),
  (100, [(260, (0, 0, 0))]),
  (100, [(16, (0, 0, 0))]),
  (100, [(16, (0, 0, 0))]),
  (100, [(16, (0, 0, 0))]),
  (100, [(16, (0, 0, 0))]),
  (100, [(260, (0, 0, 0))]),
  (100, [(14, (0, 0, 0))]),
  (100, [(16, (0, 0, 0))]),
  (100, [(16, (0, 0, 0))]),
  (100, [(16, (0, 0, 0))]),
  (100, [(16, (0, 0, 0))]),
  (100, [(16, (0, 0, 0))]),
  (100, [(6, (0, 0, 0))]),
  (100, [(12, (0, 0, 0))]),
  (100, [(4096, (0, 0, 0))]),
  (100, [(8, (0, 0, 0))]),
  (100, [(64, (0, 0, 0))]),
  (100, [(1792, (0, 0, 0))]),
  (100, [(8, (0, 0, 0))]),
  (100, [(8, (0, 0, 0))]),
  (100, [(8, (0, 0, 0))])]
def yq_k1 : ax_K := (160, [(2, 86, 0)], yq_w87, [(none, yq_W0)], 1, 31, 10917)
def ax_eqS (o : Option ax_S) (S : ax_S) : Bool := match o with
  | none => false
  | some q => decide (q.1 = S.1) && decide (q.2.1 = S.2.1) && decide (q.2.2.1 = S.2.2.1) && decide (q.2.2.2.1 = S.2.2.2.1) && ax_eqW q.2.2.2.2.1 S.2.2.2.2.1 && decide (q.2.2.2.2.2.1 = S.2.2.2.2.2.1) && decide (q.2.2.2.2.2.2 = S.2.2.2.2.2.2)
theorem ax_eqS_ok {o : Option ax_S} {S : ax_S} (h : ax_eqS o S = true) : o = some S := by
  unfold ax_eqS at h
  split at h
  · cases h
  · rename_i q
    simp only [Bool.and_eq_true, decide_eq_true_eq] at h
    obtain ⟨⟨⟨⟨⟨⟨h1, h2⟩, h3⟩, h4⟩, h5⟩, h6⟩, h7⟩ := h
    obtain ⟨a1, a2, a3, a4, a5, a6, a7⟩ := q
    obtain ⟨b1, b2, b3, b4, b5, b6, b7⟩ := S
    dsimp only at h1 h2 h3 h4 h5 h6 h7
    rw [h1, h2, h3, h4, ax_eqW_ok _ _ h5, h6, h7]
def yq_T0 : ax_T := ([], yq_bud, yq_mrg)
def yq_T1 : ax_T := ([yq_k0], yq_bud, yq_mrg)
def yq_T : ax_T := ([yq_k0, yq_k1], yq_bud, yq_mrg)
set_option maxRecDepth 10000000 in
theorem yq_r0 : ax_eqs (ax_run yp_P yq_T0 414 3 yp_m0 85 11226 ([], 0, ax_args 0 yq_k0.2.1, [], yq_k0.2.2.1, 0, 0)) yq_k0.2.2.2.1 = true := by decide +kernel
set_option maxRecDepth 10000000 in
theorem yq_r1 : ax_eqs (ax_run yp_P yq_T1 627 1 yp_m160 31 10917 ([], 0, ax_args 0 yq_k1.2.1, [], yq_k1.2.2.1, 0, 0)) yq_k1.2.2.2.1 = true := by decide +kernel
def yq_locs : ax_L := [(3, (0, 0, 0)), (2, (2, 86, 0)), (1, (2, 0, 0)), (0, (3, 0, 0))]
set_option maxRecDepth 10000000 in
theorem yq_pre : ax_eqS (ax_to yp_P yq_T 18 60 100 yp_m276 600000 7302250 ([], 0, [(0, (3, 0, 0))], [], [], 0, 0)) ([], 18, yq_locs, [], yq_W0, 118, 22205) = true := by decide +kernel
set_option maxRecDepth 10000000 in
theorem yq_leW : ax_leW [] yq_W0 bw_INV = true := by decide +kernel
set_option maxRecDepth 10000000 in
theorem yq_cl : (bw_INV.all (fun c => c.2.all (fun q => !decide (q.2.1 = 4)))) = true := by decide +kernel
theorem yq_Tok {l : Launch} {D : va_G} {cA : Nat → ClassId} {N0 b : Nat} {xs : List Int32} : ax_Tok yp_P yq_T l D cA N0 b xs := by
  have h0 : ax_Tok yp_P yq_T0 l D cA N0 b xs := ax_Tok_nil
  have h1 : ax_Tok yp_P yq_T1 l D cA N0 b xs := ax_Tok_add yp_Pok h0 (M := yp_m0) rfl (by decide) yq_r0
  have h2 : ax_Tok yp_P yq_T l D cA N0 b xs := ax_Tok_add yp_Pok h1 (M := yp_m160) rfl (by decide) yq_r1
  exact h2
theorem yq_g4 {xs : List Int32} {a : ax_V} {v : Value} (h4 : ¬ a.1 = 4) (h : ax_g xs a v) : ax_g [] a v := by
  obtain ⟨t, lo, hi⟩ := a
  dsimp only at h4
  match t, h4, h with
  | 0, _, h => exact h
  | 1, _, h => exact h
  | 2, _, h => exact h
  | 3, _, h => exact h
  | 4, h4, _ => exact absurd rfl h4
  | 5, _, h => exact h
  | n + 6, _, h => exact h
theorem yq_nth_mem : ∀ (r : ax_A) (k : Nat) (a : ax_V), ax_nth r k = some a → ∃ q ∈ r, q.2 = a
  | [], k, a, h => by cases h
  | (n, b) :: r, k, a, h => by
    unfold ax_nth at h
    split at h
    · cases h; exact ⟨_, List.mem_cons_self, rfl⟩
    · obtain ⟨q, hq, e⟩ := yq_nth_mem r (k - n) a h
      exact ⟨q, List.mem_cons_of_mem _ hq, e⟩
theorem yq_in {xs : List Int32} {INV : ax_W} {w : sx_W} (hc : (INV.all (fun c => c.2.all (fun q => !decide (q.2.1 = 4)))) = true) (h : ax_gw xs INV w) : bx_in INV w := by
  refine ⟨ax_gw_len h, fun c t r hI => ?_⟩
  obtain ⟨x, e1, e2, e3⟩ := ax_gw_at h hI
  obtain ⟨t', vs⟩ := x
  dsimp only at e2 e3
  subst e2
  refine ⟨vs, e1, ax_seg_len e3, fun k a v ha hv => ?_⟩
  obtain ⟨v', f1, f2⟩ := ax_seg_nth e3 ha
  rw [hv] at f1
  cases f1
  obtain ⟨q, hq, e⟩ := yq_nth_mem r k a ha
  have h1 := List.all_eq_true.mp (List.all_eq_true.mp hc _ (List.mem_of_getElem? hI)) q hq
  rw [Bool.not_eq_true', decide_eq_false_iff_not, e] at h1
  exact yq_g4 h1 f2
theorem yq_le {xs : List Int32} {w : sx_W} (h : ax_gw xs yq_W0 w) : bx_in bw_INV w := yq_in yq_cl (ax_leW_ok (fun i q hq => by simp at hq) _ _ _ yq_leW h)
end
section
/-! from the law's entry to its end -/
theorem yq_flat : yp_P.1.flatten = lw_tbl := by
  show List.flatten [k2_sels lw_privs, tables_1_1, tables_1_2, tables_1_3, tables_1_4, tables_1_5, tables_1_6, tables_1_7] = k2_sels lw_privs ++ tables_1
  unfold tables_1
  simp only [List.flatten_cons, List.flatten_nil, List.append_nil]
theorem yq_nestIn : ∀ w ∈ yp_nest, w ∈ lw_tbl := by
  intro w hw
  have h := yp_and yp_nestIn
  obtain ⟨i, hi⟩ := List.getElem?_of_mem hw
  have hl : yp_nest.length = yp_nestq.length := by simpa using h.2
  have hlt : i < yp_nest.length := (List.getElem?_eq_some_iff.mp hi).1
  have hz : (yp_nest.zip yp_nestq)[i]? = some (w, yp_nestq[i]'(by omega)) := by
    rw [List.getElem?_zip_eq_some]
    exact ⟨hi, List.getElem?_eq_getElem _⟩
  have h1 := List.all_eq_true.mp h.1 _ (List.mem_of_getElem? hz)
  rw [decide_eq_true_eq] at h1
  rw [← yq_flat]
  dsimp only at h1
  generalize yp_nestq[i]'(by omega) = q at h1
  cases hc : yp_P.1[q / 1000]? with
  | none => rw [hc] at h1; cases h1
  | some ch =>
    rw [hc] at h1
    exact List.mem_flatten.mpr ⟨ch, List.mem_of_getElem? hc, List.mem_of_getElem? h1⟩
theorem yq_D (s : State) (args : Array Value) (hts : ∀ w ∈ lw_tbl, w.before args s = true) : ∃ D : va_G, ∀ (c : Nat) (q : vw_C), yp_P.2.1[c]? = some q → u_Kn s q.1 q.2.1 q.2.2 (D.1 c) (D.2 c) := by
  have h : ∀ c : Nat, ∃ (cC : ClassId) (iS : Nat → Nat), ∀ q : vw_C, yp_P.2.1[c]? = some q → u_Kn s q.1 q.2.1 q.2.2 cC iS := by
    intro c
    cases hq : yp_P.2.1[c]? with
    | none => exact ⟨0, fun _ => 0, fun q h => by cases h⟩
    | some q0 =>
      obtain ⟨n, hn, -⟩ := yp_made c q0 hq
      have hl := (yp_kind c q0 hq).1
      obtain ⟨cC, iS, hk⟩ := u_known (ws := lw_tbl) (C := q0.1) (T := q0.2.1) (N := q0.2.2) (n := n) hts (fun w hw => by
        obtain ⟨j, hj, rfl⟩ := List.mem_map.mp hw
        rw [← yq_flat]
        exact (hl j (List.mem_range.mp hj)).1) (hts _ (by rw [← yq_flat]; exact hn))
      exact ⟨cC, iS, fun q h => by cases h; exact hk⟩
  exact ⟨(fun c => Classical.choose (h c), fun c => Classical.choose (Classical.choose_spec (h c))), fun c q hq => Classical.choose_spec (Classical.choose_spec (h c)) q hq⟩
theorem yq_arr {s : State} {args : Array Value} {ty : FieldType} (h : (Cond.arrayClass ty).before args s = true) : ∃ c : ClassId, ArrOfT s c ty ∧ s.vm.findClass ("[" ++ ty.toString) = some c := by
  obtain ⟨c, k, comp, h1, h2, h3⟩ := Cond.arrayClass_spec h
  exact ⟨c, fun n z => ⟨fun k h => (by cases h), k, h2, comp, h3⟩, h1⟩
theorem yq_list {L : Nat} (f : Nat → Int32) : ((List.range L).map f).length = L ∧ ∀ j, j < L → ((List.range L).map f).getD j 0 = f j := by
  refine ⟨by simp, fun j hj => ?_⟩
  rw [List.getD_eq_getElem?_getD, List.getElem?_map, List.getElem?_range hj]
  rfl
end
section
/-! BY HAND: blocks of code over numbers that are told by letters. A world's cells keep their kinds, lengths and references (S: any numbers) -/
def fx_top (a : ax_V) : ax_V := if a.1 = 0 then ax_top else if a.1 = 1 then ax_topL else a
def fx_S : ax_W := bw_INV.map (fun c => (c.1, c.2.map (fun q => (q.1, fx_top q.2))))
/-- a number of the world -/
def fx_i (w : sx_W) (c k : Nat) : Int32 := match (w[c]?).bind (fun x => x.2[k]?) with
  | some (.int x) => x
  | _ => 0
/-- a number laid into the world -/
def fx_p (w : sx_W) (c k : Nat) (v : Int32) : sx_W := match w[c]? with
  | some (t, vs) => w.set c (t, vs.set k (.int v))
  | none => w
def fx_has (lv L : sx_L) : Prop := ∀ q ∈ L, sx_get lv q.1 = some q.2 ∧ q.2.category = 1
theorem fx_has.sub {lv L L' : sx_L} (h : fx_has lv L) (hs : ∀ q ∈ L', q ∈ L) : fx_has lv L' := fun q hq => h q (hs q hq)
def fx_get : sx_L → Nat → Option Value
  | [], _ => none
  | q :: r, i => if q.1 = i then some q.2 else fx_get r i
def fx_put : sx_L → Nat → Value → sx_L
  | [], i, v => [(i, v)]
  | q :: r, i, v => if q.1 = i then (i, v) :: r.filter (fun q => !decide (q.1 = i)) else q :: fx_put r i v
theorem fx_get_mem : ∀ {L : sx_L} {i : Nat} {v : Value}, fx_get L i = some v → (i, v) ∈ L
  | [], _, _, h => by cases h
  | q :: r, i, v, h => by
    unfold fx_get at h
    split at h
    · rename_i e
      cases h
      rw [← e]
      exact List.mem_cons_self
    · exact List.mem_cons_of_mem _ (fx_get_mem h)
theorem fx_put_mem : ∀ {L : sx_L} {i : Nat} {v : Value} {q : Nat × Value}, q ∈ fx_put L i v → q = (i, v) ∨ (q ∈ L ∧ q.1 ≠ i)
  | [], i, v, q, h => by
    rw [fx_put, List.mem_singleton] at h
    exact .inl h
  | p :: r, i, v, q, h => by
    unfold fx_put at h
    split at h
    · rcases List.mem_cons.mp h with h | h
      · exact .inl h
      · obtain ⟨h1, h2⟩ := List.mem_filter.mp h
        rw [Bool.not_eq_true', decide_eq_false_iff_not] at h2
        exact .inr ⟨List.mem_cons_of_mem _ h1, h2⟩
    · rename_i hne
      rcases List.mem_cons.mp h with rfl | h
      · exact .inr ⟨List.mem_cons_self, hne⟩
      · rcases fx_put_mem h with h | h
        · exact .inl h
        · exact .inr ⟨List.mem_cons_of_mem _ h.1, h.2⟩
theorem fx_has_set {lv L : sx_L} {i : Nat} {v : Value} (h : fx_has lv L) (hv : v.category = 1) : fx_has (sx_set lv i v) (fx_put L i v) := by
  intro q hq
  rcases fx_put_mem hq with rfl | ⟨hm, hne⟩
  · exact ⟨sx_get_self _ _ _, hv⟩
  · obtain ⟨h1, h2⟩ := h q hm
    refine ⟨sx_get_keep hne h1 ?_, h2⟩
    simp only [Bool.and_eq_true, Bool.not_eq_true', beq_eq_false_iff_ne, ne_eq, Bool.and_eq_false_iff]
    exact ⟨hne, .inr (by rw [h2]; decide)⟩
/-- may an int be laid there -/
def fx_wr (S : ax_W) (c t : Nat) : Option ax_A := match S[c]? with
  | some (t', r) => if t' = t then some r else none
  | none => none
def fx_all (r : ax_A) : Bool := r.all (fun q => decide (q.2 = ax_top))
abbrev fx_R : Type := Prop × Nat × sx_L × List Value × sx_W
/-- one instruction that neither branches nor calls; the Prop gathers what must hold of indices and booleans -/
def fx_1 (P : sx_P) (S : ax_W) (nL : Nat) (E : sx_E) (C : Prop) (L : sx_L) (st : List Value) (w : sx_W) : Option fx_R := match E with
  | (pc, I, _, a, k, _, z) => match I with
    | .iconst n => some (C, pc + 1, L, .int (Int32.ofInt n) :: st, w)
    | .bipush n => some (C, pc + 2, L, .int (Int8.ofInt n).toInt32 :: st, w)
    | .sipush n => some (C, pc + 3, L, .int (Int16.ofInt n).toInt32 :: st, w)
    | .ldc _ => some (C, pc + 2, L, .int (Int32.ofInt z) :: st, w)
    | .iload_n i => (match fx_get L (i : Nat) with
      | some (.int x) => some (C, pc + 1, L, .int x :: st, w)
      | _ => none)
    | .iload i => (match fx_get L i with
      | some (.int x) => some (C, pc + 2, L, .int x :: st, w)
      | _ => none)
    | .aload_n i => (match fx_get L (i : Nat) with
      | some (.ref x) => some (C, pc + 1, L, .ref x :: st, w)
      | _ => none)
    | .istore_n i => (match st with
      | .int x :: r => if (i : Nat) < nL then some (C, pc + 1, fx_put L (i : Nat) (.int x), r, w) else none
      | _ => none)
    | .istore i => (match st with
      | .int x :: r => if i < nL then some (C, pc + 2, fx_put L i (.int x), r, w) else none
      | _ => none)
    | .iinc i n => (match fx_get L i with
      | some (.int x) => if i < nL then some (C, pc + 3, fx_put L i (.int (x + Int32.ofInt n)), st, w) else none
      | _ => none)
    | .iadd => (match st with
      | .int y :: .int x :: r => some (C, pc + 1, L, .int (x + y) :: r, w)
      | _ => none)
    | .isub => (match st with
      | .int y :: .int x :: r => some (C, pc + 1, L, .int (x - y) :: r, w)
      | _ => none)
    | .imul => (match st with
      | .int y :: .int x :: r => some (C, pc + 1, L, .int (x * y) :: r, w)
      | _ => none)
    | .iand => (match st with
      | .int y :: .int x :: r => some (C, pc + 1, L, .int (x &&& y) :: r, w)
      | _ => none)
    | .ior => (match st with
      | .int y :: .int x :: r => some (C, pc + 1, L, .int (x ||| y) :: r, w)
      | _ => none)
    | .ixor => (match st with
      | .int y :: .int x :: r => some (C, pc + 1, L, .int (x ^^^ y) :: r, w)
      | _ => none)
    | .ishl => (match st with
      | .int y :: .int x :: r => some (C, pc + 1, L, .int (x <<< (y &&& 31)) :: r, w)
      | _ => none)
    | .ishr => (match st with
      | .int y :: .int x :: r => some (C, pc + 1, L, .int (x >>> (y &&& 31)) :: r, w)
      | _ => none)
    | .idiv => (match st with
      | .int y :: .int x :: r => some (C ∧ y ≠ 0, pc + 1, L, .int (x / y) :: r, w)
      | _ => none)
    | .irem => (match st with
      | .int y :: .int x :: r => some (C ∧ y ≠ 0, pc + 1, L, .int (x - x / y * y) :: r, w)
      | _ => none)
    | .dup => (match st with
      | .int x :: r => some (C, pc + 1, L, .int x :: .int x :: r, w)
      | .ref x :: r => some (C, pc + 1, L, .ref x :: .ref x :: r, w)
      | _ => none)
    | .getfield _ => (match st with
      | .ref c :: r => (match fx_wr S c a with
        | some q => if a < 100 then (match ax_nth q k with
          | some (2, c', _) => some (C, pc + 3, L, .ref c'.toNat :: r, w)
          | some (0, _, _) => some (C, pc + 3, L, .int (fx_i w c k) :: r, w)
          | _ => none) else none
        | none => none)
      | _ => none)
    | .putfield _ => (match st with
      | .int v :: .ref c :: r => (match fx_wr S c a with
        | some q => if a < 100 ∧ ax_nth q k = some ax_top then some (C ∧ sx_fit (P.2.2.1 a k) (.int v) = true, pc + 3, L, r, fx_p w c k v) else none
        | none => none)
      | _ => none)
    | .iaload => (match st with
      | .int i :: .ref c :: r => (match fx_wr S c 100 with
        | some q => if fx_all q = true then some (C ∧ 0 ≤ i.toInt ∧ i.toInt < (ax_len q : Int), pc + 1, L, .int (fx_i w c i.toInt.toNat) :: r, w) else none
        | none => none)
      | _ => none)
    | .iastore => (match st with
      | .int v :: .int i :: .ref c :: r => (match fx_wr S c 100 with
        | some q => if fx_all q = true then some (C ∧ 0 ≤ i.toInt ∧ i.toInt < (ax_len q : Int), pc + 1, L, r, fx_p w c i.toInt.toNat v) else none
        | none => none)
      | _ => none)
    | .goto off => if 0 ≤ (pc : Int) + off then some (C, ((pc : Int) + off).toNat, L, st, w) else none
    | _ => none
theorem fx_all_nth : ∀ (r : ax_A) (k : Nat), fx_all r = true → k < ax_len r → ax_nth r k = some ax_top
  | [], k, _, h => by unfold ax_len at h; omega
  | (n, a) :: r, k, h, hk => by
    unfold fx_all at h
    rw [List.all_cons, Bool.and_eq_true, decide_eq_true_eq] at h
    unfold ax_nth
    unfold ax_len at hk
    by_cases hn : k < n
    · rw [if_pos hn]
      exact congrArg some h.1
    · rw [if_neg hn]
      exact fx_all_nth r (k - n) h.2 (by omega)
theorem fx_wr_ok {S : ax_W} {c t : Nat} {r : ax_A} (h : fx_wr S c t = some r) : S[c]? = some (t, r) := by
  unfold fx_wr at h
  split at h
  · rename_i t' r' hs
    split at h
    · rename_i e
      cases h
      rw [hs, e]
    · cases h
  · cases h
theorem fx_nth_lt : ∀ (r : ax_A) (k : Nat) (a : ax_V), ax_nth r k = some a → k < ax_len r
  | [], k, a, h => by cases h
  | (n, b) :: r, k, a, h => by
    unfold ax_nth at h
    unfold ax_len
    split at h
    · omega
    · have := fx_nth_lt r (k - n) a h
      omega
theorem fx_cell {S : ax_W} {w : sx_W} {c t k : Nat} {r : ax_A} {a : ax_V} (hw : bx_in S w) (hS : S[c]? = some (t, r)) (hk : ax_nth r k = some a) : ∃ vs v, w[c]? = some (t, vs) ∧ vs.length = ax_len r ∧ vs[k]? = some v ∧ ax_g [] a v ∧ k < vs.length := by
  obtain ⟨vs, h1, h2, h3⟩ := hw.2 c t r hS
  have hl := fx_nth_lt r k a hk
  have hl' : k < vs.length := by omega
  exact ⟨vs, vs[k], h1, h2, List.getElem?_eq_getElem hl', h3 k a _ hk (List.getElem?_eq_getElem hl'), hl'⟩
theorem fx_int {S : ax_W} {w : sx_W} {c t k : Nat} {r : ax_A} {lo hi : Int} (hw : bx_in S w) (hS : S[c]? = some (t, r)) (hk : ax_nth r k = some (0, lo, hi)) : ∃ vs, w[c]? = some (t, vs) ∧ vs.length = ax_len r ∧ vs[k]? = some (.int (fx_i w c k)) ∧ k < vs.length ∧ lo ≤ (fx_i w c k).toInt ∧ (fx_i w c k).toInt ≤ hi := by
  obtain ⟨vs, v, h1, h2, h3, ⟨x, rfl, h4, h5⟩, h6⟩ := fx_cell hw hS hk
  have e : fx_i w c k = x := by
    unfold fx_i
    rw [h1]
    show (match vs[k]? with | some (.int x) => x | _ => 0) = x
    rw [h3]
  exact ⟨vs, h1, h2, by rw [e]; exact h3, h6, by rw [e]; exact h4, by rw [e]; exact h5⟩
theorem fx_p_in {S : ax_W} {w : sx_W} {c t k : Nat} {r : ax_A} {v : Int32} (hw : bx_in S w) (hS : S[c]? = some (t, r)) (hk : ax_nth r k = some ax_top) : bx_in S (fx_p w c k v) := by
  obtain ⟨vs, u, h1, h2, h3, -, h6⟩ := fx_cell hw hS hk
  unfold fx_p
  rw [h1]
  dsimp only
  have hcl : c < w.length := (List.getElem?_eq_some_iff.mp h1).1
  refine ⟨by rw [List.length_set]; exact hw.1, fun c' t' r' hS' => ?_⟩
  by_cases hcc : c' = c
  · subst hcc
    rw [hS] at hS'
    cases hS'
    obtain ⟨vs', g1, g2, g3⟩ := hw.2 _ _ _ hS
    rw [h1] at g1
    cases g1
    refine ⟨_, List.getElem?_set_self hcl, by rw [List.length_set]; exact h2, fun j a y ha hy => ?_⟩
    by_cases hjk : j = k
    · subst hjk
      rw [List.getElem?_set_self h6] at hy
      cases hy
      rw [hk] at ha
      cases ha
      exact ax_top_ok v
    · rw [List.getElem?_set_ne (fun h => hjk h.symm)] at hy
      exact g3 j a y ha hy
  · rw [List.getElem?_set_ne (fun h => hcc h.symm)]
    exact hw.2 c' t' r' hS'
/-- what is read behind a writing -/
theorem fx_i_p {S : ax_W} {w : sx_W} {c t k c' k' : Nat} {r : ax_A} {v : Int32} (hw : bx_in S w) (hS : S[c]? = some (t, r)) (hk : ax_nth r k = some ax_top) : fx_i (fx_p w c k v) c' k' = if c' = c ∧ k' = k then v else fx_i w c' k' := by
  obtain ⟨vs, u, h1, h2, h3, -, h6⟩ := fx_cell hw hS hk
  have hcl : c < w.length := (List.getElem?_eq_some_iff.mp h1).1
  unfold fx_p
  rw [h1]
  dsimp only
  by_cases hcc : c' = c
  · subst hcc
    unfold fx_i
    rw [List.getElem?_set_self hcl, h1]
    show (match (vs.set k (.int v))[k']? with | some (.int x) => x | _ => 0) = if c' = c' ∧ k' = k then v else (match vs[k']? with | some (.int x) => x | _ => 0)
    by_cases hkk : k' = k
    · subst hkk
      rw [List.getElem?_set_self h6, if_pos ⟨rfl, rfl⟩]
    · rw [List.getElem?_set_ne (fun h => hkk h.symm), if_neg (fun h => hkk h.2)]
  · rw [if_neg (fun h => hcc h.1)]
    unfold fx_i
    rw [List.getElem?_set_ne (fun h => hcc h.symm)]
end
section
/-! an instruction of such a block is a step of the simple machine -/
theorem fx_get_ok {lv L : sx_L} {i : Nat} {v : Value} (hl : fx_has lv L) (h : fx_get L i = some v) : sx_get lv i = some v := (hl _ (fx_get_mem h)).1
section FXS
variable {P : sx_P} {xs : List Int32} {S : ax_W} {nL : Nat} {C : Prop} {L : sx_L} {st : List Value} {w : sx_W} {r : fx_R} {lv : sx_L}
def fx_res (P : sx_P) (xs : List Int32) (S : ax_W) (nL : Nat) (E : sx_E) (C : Prop) (st : List Value) (w : sx_W) (lv : sx_L) (r : fx_R) : Prop := C ∧ ∃ lv', sx_step P xs nL E lv st w = some (r.2.1, lv', r.2.2.2.1, r.2.2.2.2, 0, 0) ∧ fx_has lv' r.2.2.1 ∧ bx_in S r.2.2.2.2
/-- all but the steps that look at the world -/
theorem fx_pure {E : sx_E} (hg : match E.2.1 with | .getfield _ => False | .putfield _ => False | .iaload => False | .iastore => False | _ => True) (h : fx_1 P S nL E C L st w = some r) (hC : r.1) (hl : fx_has lv L) (hw : bx_in S w) : fx_res P xs S nL E C st w lv r := by
  obtain ⟨pc, I, len, a, k, q, z⟩ := E
  cases I
  case iconst n => cases h; exact ⟨hC, lv, rfl, hl, hw⟩
  case bipush n => cases h; exact ⟨hC, lv, rfl, hl, hw⟩
  case sipush n => cases h; exact ⟨hC, lv, rfl, hl, hw⟩
  case ldc i => cases h; exact ⟨hC, lv, rfl, hl, hw⟩
  case iload_n i =>
    dsimp only [fx_1] at h
    split at h
    · rename_i x hx
      cases h
      refine ⟨hC, lv, ?_, hl, hw⟩
      dsimp only [sx_step]
      unfold sx_ild
      rw [fx_get_ok hl hx]
    · cases h
  case iload i =>
    dsimp only [fx_1] at h
    split at h
    · rename_i x hx
      cases h
      refine ⟨hC, lv, ?_, hl, hw⟩
      dsimp only [sx_step]
      unfold sx_ild
      rw [fx_get_ok hl hx]
    · cases h
  case aload_n i =>
    dsimp only [fx_1] at h
    split at h
    · rename_i x hx
      cases h
      refine ⟨hC, lv, ?_, hl, hw⟩
      dsimp only [sx_step]
      unfold sx_ald
      rw [fx_get_ok hl hx]
    · cases h
  case istore_n i =>
    dsimp only [fx_1] at h
    split at h
    · split at h
      · rename_i hi
        cases h
        refine ⟨hC, _, ?_, fx_has_set hl rfl, hw⟩
        dsimp only [sx_step]
        unfold sx_ist
        dsimp only
        rw [if_pos hi]
      · cases h
    · cases h
  case istore i =>
    dsimp only [fx_1] at h
    split at h
    · split at h
      · rename_i hi
        cases h
        refine ⟨hC, _, ?_, fx_has_set hl rfl, hw⟩
        dsimp only [sx_step]
        unfold sx_ist
        dsimp only
        rw [if_pos hi]
      · cases h
    · cases h
  case iinc i n =>
    dsimp only [fx_1] at h
    split at h
    · rename_i x hx
      split at h
      · rename_i hi
        cases h
        refine ⟨hC, _, ?_, fx_has_set hl rfl, hw⟩
        dsimp only [sx_step]
        unfold sx_iinc
        rw [fx_get_ok hl hx]
        dsimp only
        rw [if_pos hi]
      · cases h
    · cases h
  case idiv =>
    dsimp only [fx_1] at h
    split at h
    · cases h
      obtain ⟨h1, h2⟩ := hC
      refine ⟨h1, lv, ?_, hl, hw⟩
      dsimp only [sx_step]
      unfold sx_b2
      dsimp only
      rw [if_neg h2]
      rfl
    · cases h
  case irem =>
    dsimp only [fx_1] at h
    split at h
    · cases h
      obtain ⟨h1, h2⟩ := hC
      refine ⟨h1, lv, ?_, hl, hw⟩
      dsimp only [sx_step]
      unfold sx_b2
      dsimp only
      rw [if_neg h2]
      rfl
    · cases h
  case dup =>
    dsimp only [fx_1] at h
    split at h
    · cases h; exact ⟨hC, lv, rfl, hl, hw⟩
    · cases h; exact ⟨hC, lv, rfl, hl, hw⟩
    · cases h
  case goto off =>
    dsimp only [fx_1] at h
    split at h
    · rename_i h0
      cases h
      refine ⟨hC, lv, ?_, hl, hw⟩
      dsimp only [sx_step]
      unfold sx_jmp
      rw [if_pos h0]
      rfl
    · cases h
  case getfield i => exact hg.elim
  case putfield i => exact hg.elim
  case iaload => exact hg.elim
  case iastore => exact hg.elim
  all_goals first
    | (cases h; done)
    | (dsimp only [fx_1] at h
       split at h
       · cases h; exact ⟨hC, lv, rfl, hl, hw⟩
       · cases h)
end FXS
end
section
/-! steps of a block that look at the world, and blocks -/
section FXH
variable {P : sx_P} {xs : List Int32} {S : ax_W} {nL : Nat} {C : Prop} {L : sx_L} {st : List Value} {w : sx_W} {r : fx_R} {lv : sx_L}
theorem fx_p_set {w : sx_W} {c t k : Nat} {vs : List Value} {v : Int32} (h : w[c]? = some (t, vs)) : fx_p w c k v = w.set c (t, vs.set k (.int v)) := by
  unfold fx_p
  rw [h]
theorem fx_heap {E : sx_E} (hg : match E.2.1 with | .getfield _ => True | .putfield _ => True | .iaload => True | .iastore => True | _ => False) (h : fx_1 P S nL E C L st w = some r) (hC : r.1) (hl : fx_has lv L) (hw : bx_in S w) : fx_res P xs S nL E C st w lv r := by
  obtain ⟨pc, I, len, a, k, q, z⟩ := E
  cases I
  case getfield i =>
    dsimp only [fx_1] at h
    split at h
    · rename_i c r0
      split at h
      · rename_i q0 hq0
        have hS := fx_wr_ok hq0
        split at h
        · rename_i ha
          split at h
          · rename_i c' _ hn
            cases h
            obtain ⟨vs, v, h1, h2, h3, h4, h5⟩ := fx_cell hw hS hn
            have hv : v = .ref c'.toNat := h4
            subst hv
            refine ⟨hC, lv, ?_, hl, hw⟩
            dsimp only [sx_step]
            unfold sx_getf
            dsimp only
            rw [h1]
            dsimp only
            rw [if_pos ⟨rfl, ha⟩, h3]
          · rename_i hn
            cases h
            obtain ⟨vs, h1, h2, h3, h4, -, -⟩ := fx_int hw hS hn
            refine ⟨hC, lv, ?_, hl, hw⟩
            dsimp only [sx_step]
            unfold sx_getf
            dsimp only
            rw [h1]
            dsimp only
            rw [if_pos ⟨rfl, ha⟩, h3]
          · cases h
        · cases h
      · cases h
    · cases h
  case putfield i =>
    dsimp only [fx_1] at h
    split at h
    · rename_i v c r0
      split at h
      · rename_i q0 hq0
        have hS := fx_wr_ok hq0
        split at h
        · rename_i ha
          cases h
          obtain ⟨vs, h1, h2, h3, h4, -, -⟩ := fx_int hw hS ha.2
          obtain ⟨hC1, hC2⟩ := hC
          refine ⟨hC1, lv, ?_, hl, fx_p_in hw hS ha.2⟩
          dsimp only [sx_step]
          unfold sx_putf
          dsimp only
          rw [h1]
          dsimp only
          rw [if_pos ⟨rfl, ha.1, h4, hC2⟩, fx_p_set h1]
        · cases h
      · cases h
    · cases h
  case iaload =>
    dsimp only [fx_1] at h
    split at h
    · rename_i i c r0
      split at h
      · rename_i q0 hq0
        have hS := fx_wr_ok hq0
        split at h
        · rename_i ha
          cases h
          obtain ⟨hC1, hC2, hC3⟩ := hC
          obtain ⟨vs, h1, h2, h3, h4, -, -⟩ := fx_int hw hS (fx_all_nth q0 i.toInt.toNat ha (by omega))
          refine ⟨hC1, lv, ?_, hl, hw⟩
          dsimp only [sx_step]
          unfold sx_aget
          dsimp only
          rw [h1]
          dsimp only
          rw [if_pos rfl, ax_ix hC2 (by omega)]
          dsimp only
          rw [h3]
        · cases h
      · cases h
    · cases h
  case iastore =>
    dsimp only [fx_1] at h
    split at h
    · rename_i v i c r0
      split at h
      · rename_i q0 hq0
        have hS := fx_wr_ok hq0
        split at h
        · rename_i ha
          cases h
          obtain ⟨hC1, hC2, hC3⟩ := hC
          have hn := fx_all_nth q0 i.toInt.toNat ha (by omega)
          obtain ⟨vs, h1, h2, h3, h4, -, -⟩ := fx_int hw hS hn
          refine ⟨hC1, lv, ?_, hl, fx_p_in hw hS hn⟩
          dsimp only [sx_step]
          unfold sx_aput
          dsimp only
          rw [h1]
          dsimp only
          rw [if_pos rfl, ax_ix hC2 (by omega)]
          dsimp only
          rw [fx_p_set h1]
        · cases h
      · cases h
    · cases h
  all_goals exact hg.elim
theorem fx_1_ok {E : sx_E} (h : fx_1 P S nL E C L st w = some r) (hC : r.1) (hl : fx_has lv L) (hw : bx_in S w) : fx_res P xs S nL E C st w lv r := by
  by_cases hg : match E.2.1 with | .getfield _ => True | .putfield _ => True | .iaload => True | .iastore => True | _ => False
  · exact fx_heap hg h hC hl hw
  · refine fx_pure ?_ h hC hl hw
    split <;> rename_i he <;> (first | (exact hg (by rw [he]; trivial)) | trivial)
end FXH
end
section
/-! blocks: so many instructions one behind another -/
noncomputable def fx_ex (P : sx_P) (M : sx_M) (S : ax_W) : Nat → Prop → Nat → sx_L → List Value → sx_W → Option fx_R
  | 0, C, pc, L, st, w => some (C, pc, L, st, w)
  | n + 1, C, pc, L, st, w => match sx_row M pc with
    | none => none
    | some E => if sx_isRet E.2.1 = true ∨ sx_isCall E = true then none else match fx_1 P S M.2.2.1 E C L st w with
      | some r => fx_ex P M S n r.1 r.2.1 r.2.2.1 r.2.2.2.1 r.2.2.2.2
      | none => none
section FXE0
variable {P : sx_P} {S : ax_W} {M : sx_M}
theorem fx_1_C {nL : Nat} {E : sx_E} {C : Prop} {L : sx_L} {st : List Value} {w : sx_W} {r : fx_R} (h : fx_1 P S nL E C L st w = some r) (hC : r.1) : C := by
  obtain ⟨pc, I, len, a, k, q, z⟩ := E
  unfold fx_1 at h
  dsimp only at h
  repeat' split at h
  all_goals first
    | (cases h; done)
    | (cases h; exact hC)
    | (cases h; exact hC.1)
theorem fx_ex_C : ∀ (n : Nat) (C : Prop) (pc : Nat) (L : sx_L) (st : List Value) (w : sx_W) (r : fx_R), fx_ex P M S n C pc L st w = some r → r.1 → C := by
  intro n
  induction n with
  | zero => intro C pc L st w r h hC; cases h; exact hC
  | succ n ih =>
    intro C pc L st w r h hC
    unfold fx_ex at h
    split at h
    · cases h
    · split at h
      · cases h
      · split at h
        · rename_i r1 hr1
          exact fx_1_C hr1 (ih _ _ _ _ _ _ h hC)
        · cases h
end FXE0
section FXE
variable {P : sx_P} {xs : List Int32} {S : ax_W} {M : sx_M}
theorem fx_ex_ok : ∀ (n : Nat) (C : Prop) (pc : Nat) (L : sx_L) (st : List Value) (w : sx_W) (r : fx_R) (lv : sx_L), fx_ex P M S n C pc L st w = some r → r.1 → fx_has lv L → bx_in S w → C ∧ ∃ lv', fx_has lv' r.2.2.1 ∧ bx_in S r.2.2.2.2 ∧ ∀ d o, sx_rn P xs d M r.2.1 lv' r.2.2.2.1 r.2.2.2.2 o → sx_rn P xs d M pc lv st w o := by
  intro n
  induction n with
  | zero =>
    intro C pc L st w r lv h hC hl hw
    cases h
    exact ⟨hC, lv, hl, hw, fun _ _ h => h⟩
  | succ n ih =>
    intro C pc L st w r lv h hC hl hw
    unfold fx_ex at h
    split at h
    · cases h
    · rename_i E hE
      split at h
      · cases h
      · rename_i hnc
        have hr : sx_isRet E.2.1 = false := by
          cases hb : sx_isRet E.2.1 with
          | false => rfl
          | true => exact absurd (Or.inl hb) hnc
        have hc : sx_isCall E = false := by
          cases hb : sx_isCall E with
          | false => rfl
          | true => exact absurd (Or.inr hb) hnc
        split at h
        · rename_i r1 hr1
          have hrest : r1.1 := fx_ex_C n _ _ _ _ _ _ h hC
          obtain ⟨h1, lv1, h2, h3, h4⟩ := fx_1_ok (xs := xs) hr1 hrest hl hw
          obtain ⟨-, lv', h5, h6, h7⟩ := ih _ _ _ _ _ _ lv1 h hC h3 h4
          exact ⟨h1, lv', h5, h6, fun d o ho => sx_rn_step hE hr hc h2 ⟨rfl, rfl⟩ (h7 d o ho)⟩
        · cases h
end FXE
end
section
/-! branches between blocks -/
section FXB
variable {P : sx_P} {xs : List Int32} {M : sx_M}
theorem fx_if {d pc len a k q : Nat} {z off : Int} {c : ClassFile.Cond} {x : Int32} {lv : sx_L} {st : List Value} {w : sx_W} {o : sx_O} (hE : sx_row M pc = some (pc, .ifCond c off, len, a, k, q, z)) (h0 : 0 ≤ (pc : Int) + off) (h : sx_rn P xs d M (if sx_cond c x 0 = true then ((pc : Int) + off).toNat else pc + 3) lv st w o) : sx_rn P xs d M pc lv (.int x :: st) w o := by
  refine sx_rn_step hE rfl rfl (r := (if sx_cond c x 0 = true then ((pc : Int) + off).toNat else pc + 3, lv, st, w, 0, 0)) ?_ ⟨rfl, rfl⟩ h
  dsimp only [sx_step]
  unfold sx_jmp
  rw [if_pos h0]
theorem fx_cmp {d pc len a k q : Nat} {z off : Int} {c : ClassFile.Cond} {x y : Int32} {lv : sx_L} {st : List Value} {w : sx_W} {o : sx_O} (hE : sx_row M pc = some (pc, .if_icmp c off, len, a, k, q, z)) (h0 : 0 ≤ (pc : Int) + off) (h : sx_rn P xs d M (if sx_cond c x y = true then ((pc : Int) + off).toNat else pc + 3) lv st w o) : sx_rn P xs d M pc lv (.int y :: .int x :: st) w o := by
  refine sx_rn_step hE rfl rfl (r := (if sx_cond c x y = true then ((pc : Int) + off).toNat else pc + 3, lv, st, w, 0, 0)) ?_ ⟨rfl, rfl⟩ h
  dsimp only [sx_step]
  unfold sx_jmp
  rw [if_pos h0]
end FXB
end
