/-! what is asked of ones and years by the reference -/
def hFo : List Nat := []
theorem hF205o {xs : List Int32} {n : Nat} {Q : hQ} {m0 m : gx_M} {x1 x2 : Int} (g : hFr hFo m0 m) (hQ : ∀ v m', hFr hFo m0 m' → Q (some (.inl v)) m') : hxn xs n yp_m205 0 [(0, .inr (.inl 86)), (1, .inl x1), (2, .inl x2)] [] m Q := by
  refine hx_dn ?_
  refine hx_blks (npc := 10) (L' := [(0, .inr (.inl 86)), (1, .inl x1), (2, .inl x2)]) (st' := [.inl (m 87 (gx_w (440 + x1)).toNat)]) (m' := m) ((0, .aload_n 0, 1, 0, 0, 0, 0), (0, 0, 0)) [((1, .getfield 7, 3, 10, 0, 5113, 0), (1, 86, 87)), ((4, .sipush 440, 3, 0, 0, 0, 0), (0, 0, 0)), ((7, .iload_n 1, 1, 0, 0, 0, 0), (0, 0, 0)), ((8, .iadd, 1, 0, 0, 0, 0), (0, 0, 0)), ((9, .iaload, 1, 0, 0, 0, 0), (0, 87, 0))] (by decide +kernel) rfl ?_
  refine hx_if .ne 15 (by decide +kernel) (fun _ => ?_) (fun _ => ?_)
  · refine hx_blk (npc := 26) (L' := [(0, .inr (.inl 86)), (1, .inl x1), (2, .inl x2)]) (st' := [.inl x2, .inl (m 87 (gx_w (240 + x1)).toNat)]) (m' := m) [((15, .aload_n 0, 1, 0, 0, 0, 0), (0, 0, 0)), ((16, .getfield 7, 3, 10, 0, 5113, 0), (1, 86, 87)), ((19, .sipush 240, 3, 0, 0, 0, 0), (0, 0, 0)), ((22, .iload_n 1, 1, 0, 0, 0, 0), (0, 0, 0)), ((23, .iadd, 1, 0, 0, 0, 0), (0, 0, 0)), ((24, .iaload, 1, 0, 0, 0, 0), (0, 87, 0)), ((25, .iload_n 2, 1, 0, 0, 0, 0), (0, 0, 0))] (by decide +kernel) rfl ?_
    refine hx_cmp .ne 33 (by decide +kernel) (fun _ => ?_) (fun _ => ?_)
    · refine hx_blk (npc := 34) (L' := [(0, .inr (.inl 86)), (1, .inl x1), (2, .inl x2)]) (st' := [.inl 0]) (m' := m) [((33, .iconst 0, 1, 0, 0, 0, 0), (0, 0, 0))] (by decide +kernel) rfl ?_
      exact hx_reti (by decide +kernel) (hQ _ _ g)
    · refine hx_blk (npc := 34) (L' := [(0, .inr (.inl 86)), (1, .inl x1), (2, .inl x2)]) (st' := [.inl 1]) (m' := m) [((29, .iconst 1, 1, 0, 0, 0, 0), (0, 0, 0)), ((30, .goto 4, 3, 0, 0, 0, 0), (0, 0, 0))] (by decide +kernel) rfl ?_
      exact hx_reti (by decide +kernel) (hQ _ _ g)
  · refine hx_blk (npc := 14) (L' := [(0, .inr (.inl 86)), (1, .inl x1), (2, .inl x2)]) (st' := [.inl 0]) (m' := m) [((13, .iconst 0, 1, 0, 0, 0, 0), (0, 0, 0))] (by decide +kernel) rfl ?_
    exact hx_reti (by decide +kernel) (hQ _ _ g)
theorem hF204ol {xs : List Int32} {Q : hQ} {m0 : gx_M} (hQ : ∀ v m', hFr hFo m0 m' → Q (some (.inl v)) m') : ∀ n : Nat, (∀ (x1 x2 x3 : Int) (m : gx_M), hFr hFo m0 m → hxn xs n yp_m204 4 [(0, .inr (.inl 86)), (1, .inl x1), (2, .inl x2), (3, .inl x3)] [] m Q) := by
  intro n
  induction n with
  | zero => exact fun _ _ _ _ _ => hx_0
  | succ n ih =>
    intro x1 x2 x3 m g
    refine hx_blks (npc := 7) (L' := [(0, .inr (.inl 86)), (1, .inl x1), (2, .inl x2), (3, .inl x3)]) (st' := [.inl 40, .inl x3]) (m' := m) ((4, .iload_n 3, 1, 0, 0, 0, 0), (0, 0, 0)) [((5, .bipush 40, 2, 0, 0, 0, 0), (0, 0, 0))] (by decide +kernel) rfl ?_
    refine hx_cmp .ge 33 (by decide +kernel) (fun _ => ?_) (fun _ => ?_)
    · refine hx_blk (npc := 34) (L' := [(0, .inr (.inl 86)), (1, .inl x1), (2, .inl x2), (3, .inl x3)]) (st' := [.inl x2]) (m' := m) [((33, .iload_n 2, 1, 0, 0, 0, 0), (0, 0, 0))] (by decide +kernel) rfl ?_
      exact hx_reti (by decide +kernel) (hQ _ _ g)
    · refine hx_blk (npc := 14) (L' := [(0, .inr (.inl 86)), (1, .inl x1), (2, .inl x2), (3, .inl x3)]) (st' := [.inl x1, .inl x3, .inr (.inl 86), .inl x2]) (m' := m) [((10, .iload_n 2, 1, 0, 0, 0, 0), (0, 0, 0)), ((11, .aload_n 0, 1, 0, 0, 0, 0), (0, 0, 0)), ((12, .iload_n 3, 1, 0, 0, 0, 0), (0, 0, 0)), ((13, .iload_n 1, 1, 0, 0, 0, 0), (0, 0, 0))] (by decide +kernel) rfl ?_
      refine hx_call (E := (14, .invokevirtual 117, 3, 205, 0, 6191, 0)) (M' := yp_m205) [.inr (.inl 86), .inl x3, .inl x1] [.inl x2] rfl (by decide +kernel) rfl ⟨rfl, rfl⟩ rfl rfl (hF205o (m0 := m0) g (fun v1 m1 g1 => ?_))
      show hxn xs n yp_m204 17 [(0, .inr (.inl 86)), (1, .inl x1), (2, .inl x2), (3, .inl x3)] [.inl v1, .inl x2] m1 Q
      refine hx_if .eq 24 (by decide +kernel) (fun _ => ?_) (fun _ => ?_)
      · refine hx_blk (npc := 4) (L' := [(0, .inr (.inl 86)), (1, .inl x1), (2, .inl (gx_w (x2 + 0))), (3, .inl (gx_w (x3 + 1)))]) (st' := []) (m' := m1) [((24, .iconst 0, 1, 0, 0, 0, 0), (0, 0, 0)), ((25, .iadd, 1, 0, 0, 0, 0), (0, 0, 0)), ((26, .istore_n 2, 1, 0, 0, 0, 0), (0, 0, 0)), ((27, .iinc 3 1, 3, 0, 0, 0, 0), (0, 0, 0)), ((30, .goto (-26), 3, 0, 0, 0, 0), (0, 0, 0))] (by decide +kernel) rfl ?_
        exact hx_pick [0, 1, 2, 3] (ih x1 (gx_w (x2 + 0)) (gx_w (x3 + 1)) m1 g1)
      · refine hx_blk (npc := 4) (L' := [(0, .inr (.inl 86)), (1, .inl x1), (2, .inl (gx_w (x2 + 1))), (3, .inl (gx_w (x3 + 1)))]) (st' := []) (m' := m1) [((20, .iconst 1, 1, 0, 0, 0, 0), (0, 0, 0)), ((21, .goto 4, 3, 0, 0, 0, 0), (0, 0, 0)), ((25, .iadd, 1, 0, 0, 0, 0), (0, 0, 0)), ((26, .istore_n 2, 1, 0, 0, 0, 0), (0, 0, 0)), ((27, .iinc 3 1, 3, 0, 0, 0, 0), (0, 0, 0)), ((30, .goto (-26), 3, 0, 0, 0, 0), (0, 0, 0))] (by decide +kernel) rfl ?_
        exact hx_pick [0, 1, 2, 3] (ih x1 (gx_w (x2 + 1)) (gx_w (x3 + 1)) m1 g1)
theorem hF204o {xs : List Int32} {n : Nat} {Q : hQ} {m0 m : gx_M} {x1 : Int} (g : hFr hFo m0 m) (hQ : ∀ v m', hFr hFo m0 m' → Q (some (.inl v)) m') : hxn xs n yp_m204 0 [(0, .inr (.inl 86)), (1, .inl x1)] [] m Q := by
  refine hx_dn ?_
  refine hx_blks (npc := 4) (L' := [(0, .inr (.inl 86)), (1, .inl x1), (2, .inl 0), (3, .inl 0)]) (st' := []) (m' := m) ((0, .iconst 0, 1, 0, 0, 0, 0), (0, 0, 0)) [((1, .istore_n 2, 1, 0, 0, 0, 0), (0, 0, 0)), ((2, .iconst 0, 1, 0, 0, 0, 0), (0, 0, 0)), ((3, .istore_n 3, 1, 0, 0, 0, 0), (0, 0, 0))] (by decide +kernel) rfl ?_
  exact hx_pick [0, 1, 2, 3] ((hF204ol (xs := xs) hQ n) x1 0 0 m g)
theorem hF165o {xs : List Int32} {n : Nat} {Q : hQ} {m0 m : gx_M} {x0 x1 : Int} (g : hFr hFo m0 m) (hQ : ∀ v m', hFr hFo m0 m' → Q (some (.inl v)) m') : hxn xs n yp_m165 0 [(0, .inl x0), (1, .inl x1)] [] m Q := by
  refine hx_dn ?_
  refine hx_blks (npc := 6) (L' := [(0, .inl x0), (1, .inl x1)]) (st' := [.inl 1, .inl (gx_and (gx_shr x0 x1) 1)]) (m' := m) ((0, .iload_n 0, 1, 0, 0, 0, 0), (0, 0, 0)) [((1, .iload_n 1, 1, 0, 0, 0, 0), (0, 0, 0)), ((2, .ishr, 1, 0, 0, 0, 0), (0, 0, 0)), ((3, .iconst 1, 1, 0, 0, 0, 0), (0, 0, 0)), ((4, .iand, 1, 0, 0, 0, 0), (0, 0, 0)), ((5, .iconst 1, 1, 0, 0, 0, 0), (0, 0, 0))] (by decide +kernel) rfl ?_
  refine hx_cmp .ne 13 (by decide +kernel) (fun _ => ?_) (fun _ => ?_)
  · refine hx_blk (npc := 14) (L' := [(0, .inl x0), (1, .inl x1)]) (st' := [.inl 0]) (m' := m) [((13, .iconst 0, 1, 0, 0, 0, 0), (0, 0, 0))] (by decide +kernel) rfl ?_
    exact hx_reti (by decide +kernel) (hQ _ _ g)
  · refine hx_blk (npc := 14) (L' := [(0, .inl x0), (1, .inl x1)]) (st' := [.inl 1]) (m' := m) [((9, .iconst 1, 1, 0, 0, 0, 0), (0, 0, 0)), ((10, .goto 4, 3, 0, 0, 0, 0), (0, 0, 0))] (by decide +kernel) rfl ?_
    exact hx_reti (by decide +kernel) (hQ _ _ g)
theorem hF164o {xs : List Int32} {n : Nat} {Q : hQ} {m0 m : gx_M} {x1 : Int} (g : hFr hFo m0 m) (hQ : ∀ v m', hFr hFo m0 m' → Q (some (.inl v)) m') : hxn xs n yp_m164 0 [(0, .inr (.inl 86)), (1, .inl x1)] [] m Q := by
  refine hx_dn ?_
  refine hx_blks (npc := 1) (L' := [(0, .inr (.inl 86)), (1, .inl x1)]) (st' := [.inl x1]) (m' := m) ((0, .iload_n 1, 1, 0, 0, 0, 0), (0, 0, 0)) [] (by decide +kernel) rfl ?_
  refine hx_if .lt 29 (by decide +kernel) (fun _ => ?_) (fun _ => ?_)
  · refine hx_blk (npc := 30) (L' := [(0, .inr (.inl 86)), (1, .inl x1)]) (st' := [.inl 0]) (m' := m) [((29, .iconst 0, 1, 0, 0, 0, 0), (0, 0, 0))] (by decide +kernel) rfl ?_
    exact hx_reti (by decide +kernel) (hQ _ _ g)
  · refine hx_blk (npc := 7) (L' := [(0, .inr (.inl 86)), (1, .inl x1)]) (st' := [.inl 8, .inl x1]) (m' := m) [((4, .iload_n 1, 1, 0, 0, 0, 0), (0, 0, 0)), ((5, .bipush 8, 2, 0, 0, 0, 0), (0, 0, 0))] (by decide +kernel) rfl ?_
    refine hx_cmp .ge 29 (by decide +kernel) (fun _ => ?_) (fun _ => ?_)
    · refine hx_blk (npc := 30) (L' := [(0, .inr (.inl 86)), (1, .inl x1)]) (st' := [.inl 0]) (m' := m) [((29, .iconst 0, 1, 0, 0, 0, 0), (0, 0, 0))] (by decide +kernel) rfl ?_
      exact hx_reti (by decide +kernel) (hQ _ _ g)
    · refine hx_blk (npc := 19) (L' := [(0, .inr (.inl 86)), (1, .inl x1)]) (st' := [.inl x1, .inl (m 87 1128)]) (m' := m) [((10, .aload_n 0, 1, 0, 0, 0, 0), (0, 0, 0)), ((11, .getfield 7, 3, 10, 0, 5113, 0), (1, 86, 87)), ((14, .sipush 1128, 3, 0, 0, 0, 0), (0, 0, 0)), ((17, .iaload, 1, 0, 0, 0, 0), (0, 87, 0)), ((18, .iload_n 1, 1, 0, 0, 0, 0), (0, 0, 0))] (by decide +kernel) rfl ?_
      refine hx_call (E := (19, .invokestatic 104, 3, 165, 0, 6035, 0)) (M' := yp_m165) [.inl (m 87 1128), .inl x1] [] rfl (by decide +kernel) rfl ⟨rfl, rfl⟩ rfl rfl (hF165o (m0 := m0) g (fun v1 m1 g1 => ?_))
      show hxn xs n yp_m164 22 [(0, .inr (.inl 86)), (1, .inl x1)] [.inl v1] m1 Q
      refine hx_if .eq 29 (by decide +kernel) (fun _ => ?_) (fun _ => ?_)
      · refine hx_blk (npc := 30) (L' := [(0, .inr (.inl 86)), (1, .inl x1)]) (st' := [.inl 0]) (m' := m1) [((29, .iconst 0, 1, 0, 0, 0, 0), (0, 0, 0))] (by decide +kernel) rfl ?_
        exact hx_reti (by decide +kernel) (hQ _ _ g1)
      · refine hx_blk (npc := 30) (L' := [(0, .inr (.inl 86)), (1, .inl x1)]) (st' := [.inl 1]) (m' := m1) [((25, .iconst 1, 1, 0, 0, 0, 0), (0, 0, 0)), ((26, .goto 4, 3, 0, 0, 0, 0), (0, 0, 0))] (by decide +kernel) rfl ?_
        exact hx_reti (by decide +kernel) (hQ _ _ g1)
theorem hF262ol {xs : List Int32} {Q : hQ} {m0 : gx_M} (hQ : ∀ v m', hFr hFo m0 m' → Q (some (.inl v)) m') : ∀ n : Nat, (∀ (x1 x2 : Int) (m : gx_M), hFr hFo m0 m → hxn xs n yp_m262 4 [(0, .inr (.inl 86)), (1, .inl x1), (2, .inl x2)] [] m Q) := by
  intro n
  induction n with
  | zero => exact fun _ _ _ _ => hx_0
  | succ n ih =>
    intro x1 x2 m g
    refine hx_blks (npc := 7) (L' := [(0, .inr (.inl 86)), (1, .inl x1), (2, .inl x2)]) (st' := [.inl 8, .inl x2]) (m' := m) ((4, .iload_n 2, 1, 0, 0, 0, 0), (0, 0, 0)) [((5, .bipush 8, 2, 0, 0, 0, 0), (0, 0, 0))] (by decide +kernel) rfl ?_
    refine hx_cmp .ge 41 (by decide +kernel) (fun _ => ?_) (fun _ => ?_)
    · refine hx_blk (npc := 42) (L' := [(0, .inr (.inl 86)), (1, .inl x1), (2, .inl x2)]) (st' := [.inl x1]) (m' := m) [((41, .iload_n 1, 1, 0, 0, 0, 0), (0, 0, 0))] (by decide +kernel) rfl ?_
      exact hx_reti (by decide +kernel) (hQ _ _ g)
    · refine hx_blk (npc := 13) (L' := [(0, .inr (.inl 86)), (1, .inl x1), (2, .inl x2)]) (st' := [.inl x2, .inr (.inl 86), .inl x1]) (m' := m) [((10, .iload_n 1, 1, 0, 0, 0, 0), (0, 0, 0)), ((11, .aload_n 0, 1, 0, 0, 0, 0), (0, 0, 0)), ((12, .iload_n 2, 1, 0, 0, 0, 0), (0, 0, 0))] (by decide +kernel) rfl ?_
      refine hx_call (E := (13, .invokevirtual 113, 3, 164, 0, 6031, 0)) (M' := yp_m164) [.inr (.inl 86), .inl x2] [.inl x1] rfl (by decide +kernel) rfl ⟨rfl, rfl⟩ rfl rfl (hF164o (m0 := m0) g (fun v1 m1 g1 => ?_))
      show hxn xs n yp_m262 16 [(0, .inr (.inl 86)), (1, .inl x1), (2, .inl x2)] [.inl v1, .inl x1] m1 Q
      refine hx_if .eq 32 (by decide +kernel) (fun _ => ?_) (fun _ => ?_)
      · refine hx_blk (npc := 4) (L' := [(0, .inr (.inl 86)), (1, .inl (gx_w (x1 + 0))), (2, .inl (gx_w (x2 + 1)))]) (st' := []) (m' := m1) [((32, .iconst 0, 1, 0, 0, 0, 0), (0, 0, 0)), ((33, .iadd, 1, 0, 0, 0, 0), (0, 0, 0)), ((34, .istore_n 1, 1, 0, 0, 0, 0), (0, 0, 0)), ((35, .iinc 2 1, 3, 0, 0, 0, 0), (0, 0, 0)), ((38, .goto (-34), 3, 0, 0, 0, 0), (0, 0, 0))] (by decide +kernel) rfl ?_
        exact hx_pick [0, 1, 2] (ih (gx_w (x1 + 0)) (gx_w (x2 + 1)) m1 g1)
      · refine hx_blk (npc := 4) (L' := [(0, .inr (.inl 86)), (1, .inl (gx_w (x1 + (m1 87 (gx_w (1120 + x2)).toNat)))), (2, .inl (gx_w (x2 + 1)))]) (st' := []) (m' := m1) [((19, .aload_n 0, 1, 0, 0, 0, 0), (0, 0, 0)), ((20, .getfield 7, 3, 10, 0, 5113, 0), (1, 86, 87)), ((23, .sipush 1120, 3, 0, 0, 0, 0), (0, 0, 0)), ((26, .iload_n 2, 1, 0, 0, 0, 0), (0, 0, 0)), ((27, .iadd, 1, 0, 0, 0, 0), (0, 0, 0)), ((28, .iaload, 1, 0, 0, 0, 0), (0, 87, 0)), ((29, .goto 4, 3, 0, 0, 0, 0), (0, 0, 0)), ((33, .iadd, 1, 0, 0, 0, 0), (0, 0, 0)), ((34, .istore_n 1, 1, 0, 0, 0, 0), (0, 0, 0)), ((35, .iinc 2 1, 3, 0, 0, 0, 0), (0, 0, 0)), ((38, .goto (-34), 3, 0, 0, 0, 0), (0, 0, 0))] (by decide +kernel) rfl ?_
        exact hx_pick [0, 1, 2] (ih (gx_w (x1 + (m1 87 (gx_w (1120 + x2)).toNat))) (gx_w (x2 + 1)) m1 g1)
theorem hF262o {xs : List Int32} {n : Nat} {Q : hQ} {m0 m : gx_M} (g : hFr hFo m0 m) (hQ : ∀ v m', hFr hFo m0 m' → Q (some (.inl v)) m') : hxn xs n yp_m262 0 [(0, .inr (.inl 86))] [] m Q := by
  refine hx_dn ?_
  refine hx_blks (npc := 4) (L' := [(0, .inr (.inl 86)), (1, .inl 0), (2, .inl 0)]) (st' := []) (m' := m) ((0, .iconst 0, 1, 0, 0, 0, 0), (0, 0, 0)) [((1, .istore_n 1, 1, 0, 0, 0, 0), (0, 0, 0)), ((2, .iconst 0, 1, 0, 0, 0, 0), (0, 0, 0)), ((3, .istore_n 2, 1, 0, 0, 0, 0), (0, 0, 0))] (by decide +kernel) rfl ?_
  exact hx_pick [0, 1, 2] ((hF262ol (xs := xs) hQ n) 0 0 m g)
/-- in from 0 on -/
theorem hs162 {xs : List Int32} {n : Nat} {Q : hQ} {m : gx_M} {x0 x1 x2 : Int}
    (h1 : x1 ≤ x0 ∧ x0 ≤ x2 → Q (some (.inl 1)) m) (h0 : ¬ (x1 ≤ x0 ∧ x0 ≤ x2) → Q (some (.inl 0)) m) : hxn xs n yp_m162 0 [(0, .inl x0), (1, .inl x1), (2, .inl x2)] [] m Q := by
  refine hx_dn ?_
  refine hx_blks (npc := 2) (L' := [(0, .inl x0), (1, .inl x1), (2, .inl x2)]) (st' := [.inl x1, .inl x0]) (m' := m) ((0, .iload_n 0, 1, 0, 0, 0, 0), (0, 0, 0)) [((1, .iload_n 1, 1, 0, 0, 0, 0), (0, 0, 0))] (by decide +kernel) rfl ?_
  refine hx_cmp .lt 14 (by decide +kernel) (fun c1 => ?_) (fun c1 => ?_)
  · have c1 : x0 < x1 := c1
    refine hx_blk (npc := 15) (L' := [(0, .inl x0), (1, .inl x1), (2, .inl x2)]) (st' := [.inl 0]) (m' := m) [((14, .iconst 0, 1, 0, 0, 0, 0), (0, 0, 0))] (by decide +kernel) rfl ?_
    exact hx_reti (by decide +kernel) (h0 (by omega))
  · have c1 : x1 ≤ x0 := by have h : ¬ (x0 < x1) := c1; omega
    refine hx_blk (npc := 7) (L' := [(0, .inl x0), (1, .inl x1), (2, .inl x2)]) (st' := [.inl x2, .inl x0]) (m' := m) [((5, .iload_n 0, 1, 0, 0, 0, 0), (0, 0, 0)), ((6, .iload_n 2, 1, 0, 0, 0, 0), (0, 0, 0))] (by decide +kernel) rfl ?_
    refine hx_cmp .gt 14 (by decide +kernel) (fun c2 => ?_) (fun c2 => ?_)
    · have c2 : x2 < x0 := c2
      refine hx_blk (npc := 15) (L' := [(0, .inl x0), (1, .inl x1), (2, .inl x2)]) (st' := [.inl 0]) (m' := m) [((14, .iconst 0, 1, 0, 0, 0, 0), (0, 0, 0))] (by decide +kernel) rfl ?_
      exact hx_reti (by decide +kernel) (h0 (by omega))
    · have c2 : x0 ≤ x2 := by have h : ¬ (x2 < x0) := c2; omega
      refine hx_blk (npc := 15) (L' := [(0, .inl x0), (1, .inl x1), (2, .inl x2)]) (st' := [.inl 1]) (m' := m) [((10, .iconst 1, 1, 0, 0, 0, 0), (0, 0, 0)), ((11, .goto 4, 3, 0, 0, 0, 0), (0, 0, 0))] (by decide +kernel) rfl ?_
      exact hx_reti (by decide +kernel) (h1 (by omega))

/-- has from 0 on -/
theorem hs165 {xs : List Int32} {n : Nat} {Q : hQ} {m : gx_M} {x0 x1 : Int}
    (h1 : gx_and (gx_shr x0 x1) 1 = 1 → Q (some (.inl 1)) m) (h0 : ¬ (gx_and (gx_shr x0 x1) 1 = 1) → Q (some (.inl 0)) m) : hxn xs n yp_m165 0 [(0, .inl x0), (1, .inl x1)] [] m Q := by
  refine hx_dn ?_
  have f1 := gx_and_bd (gx_shr x0 x1) 1 (by decide)
  refine hx_blks (npc := 6) (L' := [(0, .inl x0), (1, .inl x1)]) (st' := [.inl 1, .inl (gx_and (gx_shr x0 x1) 1)]) (m' := m) ((0, .iload_n 0, 1, 0, 0, 0, 0), (0, 0, 0)) [((1, .iload_n 1, 1, 0, 0, 0, 0), (0, 0, 0)), ((2, .ishr, 1, 0, 0, 0, 0), (0, 0, 0)), ((3, .iconst 1, 1, 0, 0, 0, 0), (0, 0, 0)), ((4, .iand, 1, 0, 0, 0, 0), (0, 0, 0)), ((5, .iconst 1, 1, 0, 0, 0, 0), (0, 0, 0))] (by decide +kernel) rfl ?_
  refine hx_cmp .ne 13 (by decide +kernel) (fun c1 => ?_) (fun c1 => ?_)
  · have c1 : (gx_and (gx_shr x0 x1) 1) ≠ 1 := c1
    refine hx_blk (npc := 14) (L' := [(0, .inl x0), (1, .inl x1)]) (st' := [.inl 0]) (m' := m) [((13, .iconst 0, 1, 0, 0, 0, 0), (0, 0, 0))] (by decide +kernel) rfl ?_
    exact hx_reti (by decide +kernel) (h0 (by omega))
  · have c1 : (gx_and (gx_shr x0 x1) 1) = 1 := by have h : ¬ ((gx_and (gx_shr x0 x1) 1) ≠ 1) := c1; omega
    refine hx_blk (npc := 14) (L' := [(0, .inl x0), (1, .inl x1)]) (st' := [.inl 1]) (m' := m) [((9, .iconst 1, 1, 0, 0, 0, 0), (0, 0, 0)), ((10, .goto 4, 3, 0, 0, 0, 0), (0, 0, 0))] (by decide +kernel) rfl ?_
    exact hx_reti (by decide +kernel) (h1 (by omega))

def aPers (s : Nat → Int) (p : Int) : Prop := 0 ≤ p ∧ p < 8 ∧ gx_and (gx_shr (s 1128) p) 1 = 1
/-- isPerson from 0 on -/
theorem hs164 {xs : List Int32} {n : Nat} {Q : hQ} {m : gx_M} {x1 : Int}
    (h1 : aPers (m 87) x1 → Q (some (.inl 1)) m) (h0 : ¬ (aPers (m 87) x1) → Q (some (.inl 0)) m) : hxn xs n yp_m164 0 [(0, .inr (.inl 86)), (1, .inl x1)] [] m Q := by
  refine hx_dn ?_
  refine hx_blks (npc := 1) (L' := [(0, .inr (.inl 86)), (1, .inl x1)]) (st' := [.inl x1]) (m' := m) ((0, .iload_n 1, 1, 0, 0, 0, 0), (0, 0, 0)) [] (by decide +kernel) rfl ?_
  refine hx_if .lt 29 (by decide +kernel) (fun c1 => ?_) (fun c1 => ?_)
  · have c1 : x1 < 0 := c1
    refine hx_blk (npc := 30) (L' := [(0, .inr (.inl 86)), (1, .inl x1)]) (st' := [.inl 0]) (m' := m) [((29, .iconst 0, 1, 0, 0, 0, 0), (0, 0, 0))] (by decide +kernel) rfl ?_
    exact hx_reti (by decide +kernel) (h0 (by unfold aPers; omega))
  · have c1 : 0 ≤ x1 := by have h : ¬ (x1 < 0) := c1; omega
    refine hx_blk (npc := 7) (L' := [(0, .inr (.inl 86)), (1, .inl x1)]) (st' := [.inl 8, .inl x1]) (m' := m) [((4, .iload_n 1, 1, 0, 0, 0, 0), (0, 0, 0)), ((5, .bipush 8, 2, 0, 0, 0, 0), (0, 0, 0))] (by decide +kernel) rfl ?_
    refine hx_cmp .ge 29 (by decide +kernel) (fun c2 => ?_) (fun c2 => ?_)
    · have c2 : 8 ≤ x1 := c2
      refine hx_blk (npc := 30) (L' := [(0, .inr (.inl 86)), (1, .inl x1)]) (st' := [.inl 0]) (m' := m) [((29, .iconst 0, 1, 0, 0, 0, 0), (0, 0, 0))] (by decide +kernel) rfl ?_
      exact hx_reti (by decide +kernel) (h0 (by unfold aPers; omega))
    · have c2 : x1 < 8 := by have h : ¬ (8 ≤ x1) := c2; omega
      refine hx_blk (npc := 19) (L' := [(0, .inr (.inl 86)), (1, .inl x1)]) (st' := [.inl x1, .inl (m 87 1128)]) (m' := m) [((10, .aload_n 0, 1, 0, 0, 0, 0), (0, 0, 0)), ((11, .getfield 7, 3, 10, 0, 5113, 0), (1, 86, 87)), ((14, .sipush 1128, 3, 0, 0, 0, 0), (0, 0, 0)), ((17, .iaload, 1, 0, 0, 0, 0), (0, 87, 0)), ((18, .iload_n 1, 1, 0, 0, 0, 0), (0, 0, 0))] (by decide +kernel) rfl ?_
      refine hx_call (E := (19, .invokestatic 104, 3, 165, 0, 6035, 0)) (M' := yp_m165) [.inl (m 87 1128), .inl x1] [] rfl (by decide +kernel) rfl ⟨rfl, rfl⟩ rfl rfl (hs165 (fun c3 => ?_) (fun c3 => ?_))
      · have c3 : gx_and (gx_shr (m 87 1128) x1) 1 = 1 := c3
        show hxn xs n yp_m164 22 [(0, .inr (.inl 86)), (1, .inl x1)] [.inl 1] m Q
        refine hx_if .eq 29 (by decide +kernel) (fun c4 => ?_) (fun c4 => ?_)
        · have c4 : (1 : Int) = 0 := c4
          exfalso; omega
        · have c4 : (1 : Int) ≠ 0 := c4
          refine hx_blk (npc := 30) (L' := [(0, .inr (.inl 86)), (1, .inl x1)]) (st' := [.inl 1]) (m' := m) [((25, .iconst 1, 1, 0, 0, 0, 0), (0, 0, 0)), ((26, .goto 4, 3, 0, 0, 0, 0), (0, 0, 0))] (by decide +kernel) rfl ?_
          exact hx_reti (by decide +kernel) (h1 (by unfold aPers; omega))
      · have c3 : ¬ (gx_and (gx_shr (m 87 1128) x1) 1 = 1) := c3
        show hxn xs n yp_m164 22 [(0, .inr (.inl 86)), (1, .inl x1)] [.inl 0] m Q
        refine hx_if .eq 29 (by decide +kernel) (fun c4 => ?_) (fun c4 => ?_)
        · have c4 : (0 : Int) = 0 := c4
          refine hx_blk (npc := 30) (L' := [(0, .inr (.inl 86)), (1, .inl x1)]) (st' := [.inl 0]) (m' := m) [((29, .iconst 0, 1, 0, 0, 0, 0), (0, 0, 0))] (by decide +kernel) rfl ?_
          exact hx_reti (by decide +kernel) (h0 (by unfold aPers; omega))
        · have c4 : (0 : Int) ≠ 0 := c4
          exfalso; omega

/-- judged from 0 on -/
theorem hr211_0 {xs : List Int32} {n : Nat} {Q : hQ} {m : gx_M} {x1 : Int}
    (h1 : (1 ≤ x1 ∧ x1 ≤ 160) → (x1 ≤ (m 86 4)) → hxn xs n yp_m191 0 [(0, .inr (.inl 86)), (1, .inl x1)] [] m (fun r m' => hxn xs n yp_m211 26 [(0, .inr (.inl 86))] (hrs r ++ []) m' Q))
    (h2 : (1 ≤ x1 ∧ x1 ≤ 160) → ((m 86 4) < x1) → Q (some (.inl (-1))) m)
    (h3 : (¬ (1 ≤ x1 ∧ x1 ≤ 160)) → Q (some (.inl (-1))) m) : hxn xs (n + 1) yp_m211 0 [(0, .inr (.inl 86)), (1, .inl x1)] [] m Q := by
  refine hx_blks (npc := 5) (L' := [(0, .inr (.inl 86)), (1, .inl x1)]) (st' := [.inl 160, .inl 1, .inl x1]) (m' := m) ((0, .iload_n 1, 1, 0, 0, 0, 0), (0, 0, 0)) [((1, .iconst 1, 1, 0, 0, 0, 0), (0, 0, 0)), ((2, .sipush 160, 3, 0, 0, 0, 0), (0, 0, 0))] (by decide +kernel) rfl ?_
  refine hx_call (E := (5, .invokestatic 108, 3, 162, 0, 6023, 0)) (M' := yp_m162) [.inl x1, .inl 1, .inl 160] [] rfl (by decide +kernel) rfl ⟨rfl, rfl⟩ rfl rfl (hs162 (fun c1 => ?_) (fun c1 => ?_))
  · have c1 : 1 ≤ x1 ∧ x1 ≤ 160 := c1
    show hxn xs n yp_m211 8 [(0, .inr (.inl 86)), (1, .inl x1)] [.inl 1] m Q
    refine hx_if .eq 19 (by decide +kernel) (fun c2 => ?_) (fun c2 => ?_)
    · have c2 : (1 : Int) = 0 := c2
      exfalso; omega
    · have c2 : (1 : Int) ≠ 0 := c2
      refine hx_blk (npc := 16) (L' := [(0, .inr (.inl 86)), (1, .inl x1)]) (st' := [.inl (m 86 4), .inl x1]) (m' := m) [((11, .iload_n 1, 1, 0, 0, 0, 0), (0, 0, 0)), ((12, .aload_n 0, 1, 0, 0, 0, 0), (0, 0, 0)), ((13, .getfield 124, 3, 10, 4, 5117, 0), (0, 86, 0))] (by decide +kernel) rfl ?_
      refine hx_cmp .le 21 (by decide +kernel) (fun c2 => ?_) (fun c2 => ?_)
      · have c2 : x1 ≤ (m 86 4) := c2
        refine hx_blk (npc := 23) (L' := [(0, .inr (.inl 86)), (1, .inl x1)]) (st' := [.inl x1, .inr (.inl 86)]) (m' := m) [((21, .aload_n 0, 1, 0, 0, 0, 0), (0, 0, 0)), ((22, .iload_n 1, 1, 0, 0, 0, 0), (0, 0, 0))] (by decide +kernel) rfl ?_
        exact hx_call (E := (23, .invokevirtual 284, 3, 191, 0, 6136, 0)) (M' := yp_m191) [.inr (.inl 86), .inl x1] [] rfl (by decide +kernel) rfl ⟨rfl, rfl⟩ rfl rfl (hx_mono (h1 c1 c2) (fun r m' h' => hx_pick [0] h'))
      · have c2 : (m 86 4) < x1 := by have h : ¬ (x1 ≤ (m 86 4)) := c2; omega
        refine hx_blk (npc := 20) (L' := [(0, .inr (.inl 86)), (1, .inl x1)]) (st' := [.inl (-1)]) (m' := m) [((19, .iconst (-1), 1, 0, 0, 0, 0), (0, 0, 0))] (by decide +kernel) rfl ?_
        exact hx_reti (by decide +kernel) (h2 c1 c2)
  · have c1 : ¬ (1 ≤ x1 ∧ x1 ≤ 160) := c1
    show hxn xs n yp_m211 8 [(0, .inr (.inl 86)), (1, .inl x1)] [.inl 0] m Q
    refine hx_if .eq 19 (by decide +kernel) (fun c2 => ?_) (fun c2 => ?_)
    · have c2 : (0 : Int) = 0 := c2
      refine hx_blk (npc := 20) (L' := [(0, .inr (.inl 86)), (1, .inl x1)]) (st' := [.inl (-1)]) (m' := m) [((19, .iconst (-1), 1, 0, 0, 0, 0), (0, 0, 0))] (by decide +kernel) rfl ?_
      exact hx_reti (by decide +kernel) (h3 c1)
    · have c2 : (0 : Int) ≠ 0 := c2
      exfalso; omega

/-- judged from 26 on -/
theorem hr211_26 {xs : List Int32} {n : Nat} {Q : hQ} {m : gx_M} {s0 : Int}
    (h1 : (s0 ≠ 0) → hxn xs n yp_m211 47 [(0, .inr (.inl 86)), (2, .inl 0)] [] (hcopy m 87 0 88 0 1131) Q)
    (h2 : (s0 = 0) → Q (some (.inl (m 86 7))) m) : hxn xs (n + 1) yp_m211 26 [(0, .inr (.inl 86))] [.inl s0] m Q := by
  refine hx_ifs .ne 34 (by decide +kernel) (fun c1 => ?_) (fun c1 => ?_)
  · have c1 : s0 ≠ 0 := c1
    refine hx_blk (npc := 42) (L' := [(0, .inr (.inl 86))]) (st' := [.inr (.inl 88), .inr (.inl 87)]) (m' := m) [((34, .aload_n 0, 1, 0, 0, 0, 0), (0, 0, 0)), ((35, .getfield 7, 3, 10, 0, 5113, 0), (1, 86, 87)), ((38, .aload_n 0, 1, 0, 0, 0, 0), (0, 0, 0)), ((39, .getfield 13, 3, 10, 1, 5114, 0), (1, 86, 88))] (by decide +kernel) rfl ?_
    refine hx_call (E := (42, .invokestatic 290, 3, 212, 0, 6217, 0)) (M' := yp_m212) [.inr (.inl 87), .inr (.inl 88)] [] rfl (by decide +kernel) rfl ⟨rfl, rfl⟩ rfl rfl (hs212_87_88 ?_)
    show hxn xs n yp_m211 45 [(0, .inr (.inl 86))] [] (hcopy m 87 0 88 0 1131) Q
    refine hx_blk (npc := 47) (L' := [(0, .inr (.inl 86)), (2, .inl 0)]) (st' := []) (m' := (hcopy m 87 0 88 0 1131)) [((45, .iconst 0, 1, 0, 0, 0, 0), (0, 0, 0)), ((46, .istore_n 2, 1, 0, 0, 0, 0), (0, 0, 0))] (by decide +kernel) rfl ?_
    exact hx_pick [0, 2] (h1 c1)
  · have c1 : s0 = 0 := by have h : ¬ (s0 ≠ 0) := c1; omega
    refine hx_blk (npc := 33) (L' := [(0, .inr (.inl 86))]) (st' := [.inl (m 86 7)]) (m' := m) [((29, .aload_n 0, 1, 0, 0, 0, 0), (0, 0, 0)), ((30, .getfield 142, 3, 10, 7, 5120, 0), (0, 86, 0))] (by decide +kernel) rfl ?_
    exact hx_reti (by decide +kernel) (h2 c1)

/-- judged from 47 on -/
theorem hr211_47 {xs : List Int32} {n : Nat} {Q : hQ} {m : gx_M} {x2 : Int}
    (h1 : ((m 86 32) ≤ x2) → Q (some (.inl x2)) (hcopy m 88 0 87 0 1131))
    (h2 : (x2 < (m 86 32)) → hxn xs n yp_m195 0 [(0, .inr (.inl 86)), (1, .inl x2)] [] m (fun r m' => hxn xs n yp_m211 60 [(0, .inr (.inl 86)), (2, .inl x2)] (hrs r ++ []) m' Q)) : hxn xs (n + 1) yp_m211 47 [(0, .inr (.inl 86)), (2, .inl x2)] [] m Q := by
  refine hx_blks (npc := 52) (L' := [(0, .inr (.inl 86)), (2, .inl x2)]) (st' := [.inl (m 86 32), .inl x2]) (m' := m) ((47, .iload_n 2, 1, 0, 0, 0, 0), (0, 0, 0)) [((48, .aload_n 0, 1, 0, 0, 0, 0), (0, 0, 0)), ((49, .getfield 254, 3, 10, 32, 5145, 0), (0, 86, 0))] (by decide +kernel) rfl ?_
  refine hx_cmp .ge 70 (by decide +kernel) (fun c1 => ?_) (fun c1 => ?_)
  · have c1 : (m 86 32) ≤ x2 := c1
    refine hx_blk (npc := 78) (L' := [(0, .inr (.inl 86)), (2, .inl x2)]) (st' := [.inr (.inl 87), .inr (.inl 88)]) (m' := m) [((70, .aload_n 0, 1, 0, 0, 0, 0), (0, 0, 0)), ((71, .getfield 13, 3, 10, 1, 5114, 0), (1, 86, 88)), ((74, .aload_n 0, 1, 0, 0, 0, 0), (0, 0, 0)), ((75, .getfield 7, 3, 10, 0, 5113, 0), (1, 86, 87))] (by decide +kernel) rfl ?_
    refine hx_call (E := (78, .invokestatic 290, 3, 212, 0, 6217, 0)) (M' := yp_m212) [.inr (.inl 88), .inr (.inl 87)] [] rfl (by decide +kernel) rfl ⟨rfl, rfl⟩ rfl rfl (hs212_88_87 ?_)
    show hxn xs n yp_m211 81 [(0, .inr (.inl 86)), (2, .inl x2)] [] (hcopy m 88 0 87 0 1131) Q
    refine hx_blk (npc := 82) (L' := [(0, .inr (.inl 86)), (2, .inl x2)]) (st' := [.inl x2]) (m' := (hcopy m 88 0 87 0 1131)) [((81, .iload_n 2, 1, 0, 0, 0, 0), (0, 0, 0))] (by decide +kernel) rfl ?_
    exact hx_reti (by decide +kernel) (h1 c1)
  · have c1 : x2 < (m 86 32) := by have h : ¬ ((m 86 32) ≤ x2) := c1; omega
    refine hx_blk (npc := 57) (L' := [(0, .inr (.inl 86)), (2, .inl x2)]) (st' := [.inl x2, .inr (.inl 86)]) (m' := m) [((55, .aload_n 0, 1, 0, 0, 0, 0), (0, 0, 0)), ((56, .iload_n 2, 1, 0, 0, 0, 0), (0, 0, 0))] (by decide +kernel) rfl ?_
    exact hx_call (E := (57, .invokevirtual 287, 3, 195, 0, 6152, 0)) (M' := yp_m195) [.inr (.inl 86), .inl x2] [] rfl (by decide +kernel) rfl ⟨rfl, rfl⟩ rfl rfl (hx_mono (h2 c1) (fun r m' h' => hx_pick [0, 2] h'))

/-- judged from 60 on -/
theorem hr211_60 {xs : List Int32} {n : Nat} {Q : hQ} {m : gx_M} {x2 s0 : Int}
    (h1 : (s0 = 0) → Q (some (.inl x2)) (hcopy m 88 0 87 0 1131))
    (h2 : (s0 ≠ 0) → hxn xs n yp_m211 47 [(0, .inr (.inl 86)), (2, .inl (gx_w (x2 + 1)))] [] m Q) : hxn xs (n + 1) yp_m211 60 [(0, .inr (.inl 86)), (2, .inl x2)] [.inl s0] m Q := by
  refine hx_ifs .eq 70 (by decide +kernel) (fun c1 => ?_) (fun c1 => ?_)
  · have c1 : s0 = 0 := c1
    refine hx_blk (npc := 78) (L' := [(0, .inr (.inl 86)), (2, .inl x2)]) (st' := [.inr (.inl 87), .inr (.inl 88)]) (m' := m) [((70, .aload_n 0, 1, 0, 0, 0, 0), (0, 0, 0)), ((71, .getfield 13, 3, 10, 1, 5114, 0), (1, 86, 88)), ((74, .aload_n 0, 1, 0, 0, 0, 0), (0, 0, 0)), ((75, .getfield 7, 3, 10, 0, 5113, 0), (1, 86, 87))] (by decide +kernel) rfl ?_
    refine hx_call (E := (78, .invokestatic 290, 3, 212, 0, 6217, 0)) (M' := yp_m212) [.inr (.inl 88), .inr (.inl 87)] [] rfl (by decide +kernel) rfl ⟨rfl, rfl⟩ rfl rfl (hs212_88_87 ?_)
    show hxn xs n yp_m211 81 [(0, .inr (.inl 86)), (2, .inl x2)] [] (hcopy m 88 0 87 0 1131) Q
    refine hx_blk (npc := 82) (L' := [(0, .inr (.inl 86)), (2, .inl x2)]) (st' := [.inl x2]) (m' := (hcopy m 88 0 87 0 1131)) [((81, .iload_n 2, 1, 0, 0, 0, 0), (0, 0, 0))] (by decide +kernel) rfl ?_
    exact hx_reti (by decide +kernel) (h1 c1)
  · have c1 : s0 ≠ 0 := c1
    refine hx_blk (npc := 47) (L' := [(0, .inr (.inl 86)), (2, .inl (gx_w (x2 + 1)))]) (st' := []) (m' := m) [((63, .iload_n 2, 1, 0, 0, 0, 0), (0, 0, 0)), ((64, .iconst 1, 1, 0, 0, 0, 0), (0, 0, 0)), ((65, .iadd, 1, 0, 0, 0, 0), (0, 0, 0)), ((66, .istore_n 2, 1, 0, 0, 0, 0), (0, 0, 0)), ((67, .goto (-20), 3, 0, 0, 0, 0), (0, 0, 0))] (by decide +kernel) rfl ?_
    exact hx_pick [0, 2] (h2 c1)

/-- inOrder from 0 on -/
theorem hr213_0 {xs : List Int32} {n : Nat} {Q : hQ} {m : gx_M} {x1 x2 : Int}
    (h1 : (1 ≤ x1 ∧ x1 ≤ 160) → (x1 ≤ (m 86 4)) → hxn xs n yp_m191 0 [(0, .inr (.inl 86)), (1, .inl x1)] [] m (fun r m' => hxn xs n yp_m213 26 [(0, .inr (.inl 86)), (2, .inl x2)] (hrs r ++ []) m' Q))
    (h2 : (1 ≤ x1 ∧ x1 ≤ 160) → ((m 86 4) < x1) → Q (some (.inl (-1))) m)
    (h3 : (¬ (1 ≤ x1 ∧ x1 ≤ 160)) → Q (some (.inl (-1))) m) : hxn xs (n + 1) yp_m213 0 [(0, .inr (.inl 86)), (1, .inl x1), (2, .inl x2)] [] m Q := by
  refine hx_blks (npc := 5) (L' := [(0, .inr (.inl 86)), (1, .inl x1), (2, .inl x2)]) (st' := [.inl 160, .inl 1, .inl x1]) (m' := m) ((0, .iload_n 1, 1, 0, 0, 0, 0), (0, 0, 0)) [((1, .iconst 1, 1, 0, 0, 0, 0), (0, 0, 0)), ((2, .sipush 160, 3, 0, 0, 0, 0), (0, 0, 0))] (by decide +kernel) rfl ?_
  refine hx_call (E := (5, .invokestatic 108, 3, 162, 0, 6023, 0)) (M' := yp_m162) [.inl x1, .inl 1, .inl 160] [] rfl (by decide +kernel) rfl ⟨rfl, rfl⟩ rfl rfl (hs162 (fun c1 => ?_) (fun c1 => ?_))
  · have c1 : 1 ≤ x1 ∧ x1 ≤ 160 := c1
    show hxn xs n yp_m213 8 [(0, .inr (.inl 86)), (1, .inl x1), (2, .inl x2)] [.inl 1] m Q
    refine hx_if .eq 19 (by decide +kernel) (fun c2 => ?_) (fun c2 => ?_)
    · have c2 : (1 : Int) = 0 := c2
      exfalso; omega
    · have c2 : (1 : Int) ≠ 0 := c2
      refine hx_blk (npc := 16) (L' := [(0, .inr (.inl 86)), (1, .inl x1), (2, .inl x2)]) (st' := [.inl (m 86 4), .inl x1]) (m' := m) [((11, .iload_n 1, 1, 0, 0, 0, 0), (0, 0, 0)), ((12, .aload_n 0, 1, 0, 0, 0, 0), (0, 0, 0)), ((13, .getfield 124, 3, 10, 4, 5117, 0), (0, 86, 0))] (by decide +kernel) rfl ?_
      refine hx_cmp .le 21 (by decide +kernel) (fun c2 => ?_) (fun c2 => ?_)
      · have c2 : x1 ≤ (m 86 4) := c2
        refine hx_blk (npc := 23) (L' := [(0, .inr (.inl 86)), (1, .inl x1), (2, .inl x2)]) (st' := [.inl x1, .inr (.inl 86)]) (m' := m) [((21, .aload_n 0, 1, 0, 0, 0, 0), (0, 0, 0)), ((22, .iload_n 1, 1, 0, 0, 0, 0), (0, 0, 0))] (by decide +kernel) rfl ?_
        exact hx_call (E := (23, .invokevirtual 284, 3, 191, 0, 6136, 0)) (M' := yp_m191) [.inr (.inl 86), .inl x1] [] rfl (by decide +kernel) rfl ⟨rfl, rfl⟩ rfl rfl (hx_mono (h1 c1 c2) (fun r m' h' => hx_pick [0, 2] h'))
      · have c2 : (m 86 4) < x1 := by have h : ¬ (x1 ≤ (m 86 4)) := c2; omega
        refine hx_blk (npc := 20) (L' := [(0, .inr (.inl 86)), (1, .inl x1), (2, .inl x2)]) (st' := [.inl (-1)]) (m' := m) [((19, .iconst (-1), 1, 0, 0, 0, 0), (0, 0, 0))] (by decide +kernel) rfl ?_
        exact hx_reti (by decide +kernel) (h2 c1 c2)
  · have c1 : ¬ (1 ≤ x1 ∧ x1 ≤ 160) := c1
    show hxn xs n yp_m213 8 [(0, .inr (.inl 86)), (1, .inl x1), (2, .inl x2)] [.inl 0] m Q
    refine hx_if .eq 19 (by decide +kernel) (fun c2 => ?_) (fun c2 => ?_)
    · have c2 : (0 : Int) = 0 := c2
      refine hx_blk (npc := 20) (L' := [(0, .inr (.inl 86)), (1, .inl x1), (2, .inl x2)]) (st' := [.inl (-1)]) (m' := m) [((19, .iconst (-1), 1, 0, 0, 0, 0), (0, 0, 0))] (by decide +kernel) rfl ?_
      exact hx_reti (by decide +kernel) (h3 c1)
    · have c2 : (0 : Int) ≠ 0 := c2
      exfalso; omega

/-- inOrder from 26 on -/
theorem hr213_26 {xs : List Int32} {n : Nat} {Q : hQ} {m : gx_M} {x2 s0 : Int}
    (h1 : (s0 ≠ 0) → (6 < (m 86 32)) → Q (some (.inl (-3))) m)
    (h2 : (s0 ≠ 0) → ((m 86 32) ≤ 6) → ((-1) ≤ x2 ∧ x2 ≤ (gx_w ((m 86 32) - 1))) → hxn xs n yp_m213 73 [(0, .inr (.inl 86)), (2, .inl x2), (3, .inl 0)] [] (hcopy m 87 0 88 0 1131) Q)
    (h3 : (s0 ≠ 0) → ((m 86 32) ≤ 6) → (¬ ((-1) ≤ x2 ∧ x2 ≤ (gx_w ((m 86 32) - 1)))) → Q (some (.inl (-3))) m)
    (h4 : (s0 = 0) → Q (some (.inl (m 86 7))) m) : hxn xs (n + 1) yp_m213 26 [(0, .inr (.inl 86)), (2, .inl x2)] [.inl s0] m Q := by
  refine hx_ifs .ne 34 (by decide +kernel) (fun c1 => ?_) (fun c1 => ?_)
  · have c1 : s0 ≠ 0 := c1
    refine hx_blk (npc := 40) (L' := [(0, .inr (.inl 86)), (2, .inl x2)]) (st' := [.inl 6, .inl (m 86 32)]) (m' := m) [((34, .aload_n 0, 1, 0, 0, 0, 0), (0, 0, 0)), ((35, .getfield 254, 3, 10, 32, 5145, 0), (0, 86, 0)), ((38, .bipush 6, 2, 0, 0, 0, 0), (0, 0, 0))] (by decide +kernel) rfl ?_
    refine hx_cmp .gt 57 (by decide +kernel) (fun c2 => ?_) (fun c2 => ?_)
    · have c2 : 6 < (m 86 32) := c2
      refine hx_blk (npc := 59) (L' := [(0, .inr (.inl 86)), (2, .inl x2)]) (st' := [.inl (-3)]) (m' := m) [((57, .bipush (-3), 2, 0, 0, 0, 0), (0, 0, 0))] (by decide +kernel) rfl ?_
      exact hx_reti (by decide +kernel) (h1 c1 c2)
    · have c2 : (m 86 32) ≤ 6 := by have h : ¬ (6 < (m 86 32)) := c2; omega
      refine hx_blk (npc := 51) (L' := [(0, .inr (.inl 86)), (2, .inl x2)]) (st' := [.inl (gx_w ((m 86 32) - 1)), .inl (-1), .inl x2]) (m' := m) [((43, .iload_n 2, 1, 0, 0, 0, 0), (0, 0, 0)), ((44, .iconst (-1), 1, 0, 0, 0, 0), (0, 0, 0)), ((45, .aload_n 0, 1, 0, 0, 0, 0), (0, 0, 0)), ((46, .getfield 254, 3, 10, 32, 5145, 0), (0, 86, 0)), ((49, .iconst 1, 1, 0, 0, 0, 0), (0, 0, 0)), ((50, .isub, 1, 0, 0, 0, 0), (0, 0, 0))] (by decide +kernel) rfl ?_
      refine hx_call (E := (51, .invokestatic 108, 3, 162, 0, 6023, 0)) (M' := yp_m162) [.inl x2, .inl (-1), .inl (gx_w ((m 86 32) - 1))] [] rfl (by decide +kernel) rfl ⟨rfl, rfl⟩ rfl rfl (hs162 (fun c3 => ?_) (fun c3 => ?_))
      · have c3 : (-1) ≤ x2 ∧ x2 ≤ (gx_w ((m 86 32) - 1)) := c3
        show hxn xs n yp_m213 54 [(0, .inr (.inl 86)), (2, .inl x2)] [.inl 1] m Q
        refine hx_if .ne 60 (by decide +kernel) (fun c4 => ?_) (fun c4 => ?_)
        · have c4 : (1 : Int) ≠ 0 := c4
          refine hx_blk (npc := 68) (L' := [(0, .inr (.inl 86)), (2, .inl x2)]) (st' := [.inr (.inl 88), .inr (.inl 87)]) (m' := m) [((60, .aload_n 0, 1, 0, 0, 0, 0), (0, 0, 0)), ((61, .getfield 7, 3, 10, 0, 5113, 0), (1, 86, 87)), ((64, .aload_n 0, 1, 0, 0, 0, 0), (0, 0, 0)), ((65, .getfield 13, 3, 10, 1, 5114, 0), (1, 86, 88))] (by decide +kernel) rfl ?_
          refine hx_call (E := (68, .invokestatic 290, 3, 212, 0, 6217, 0)) (M' := yp_m212) [.inr (.inl 87), .inr (.inl 88)] [] rfl (by decide +kernel) rfl ⟨rfl, rfl⟩ rfl rfl (hs212_87_88 ?_)
          show hxn xs n yp_m213 71 [(0, .inr (.inl 86)), (2, .inl x2)] [] (hcopy m 87 0 88 0 1131) Q
          refine hx_blk (npc := 73) (L' := [(0, .inr (.inl 86)), (2, .inl x2), (3, .inl 0)]) (st' := []) (m' := (hcopy m 87 0 88 0 1131)) [((71, .iconst 0, 1, 0, 0, 0, 0), (0, 0, 0)), ((72, .istore_n 3, 1, 0, 0, 0, 0), (0, 0, 0))] (by decide +kernel) rfl ?_
          exact hx_pick [0, 2, 3] (h2 c1 c2 c3)
        · have c4 : (1 : Int) = 0 := by have h : ¬ ((1 : Int) ≠ 0) := c4; omega
          exfalso; omega
      · have c3 : ¬ ((-1) ≤ x2 ∧ x2 ≤ (gx_w ((m 86 32) - 1))) := c3
        show hxn xs n yp_m213 54 [(0, .inr (.inl 86)), (2, .inl x2)] [.inl 0] m Q
        refine hx_if .ne 60 (by decide +kernel) (fun c4 => ?_) (fun c4 => ?_)
        · have c4 : (0 : Int) ≠ 0 := c4
          exfalso; omega
        · have c4 : (0 : Int) = 0 := by have h : ¬ ((0 : Int) ≠ 0) := c4; omega
          refine hx_blk (npc := 59) (L' := [(0, .inr (.inl 86)), (2, .inl x2)]) (st' := [.inl (-3)]) (m' := m) [((57, .bipush (-3), 2, 0, 0, 0, 0), (0, 0, 0))] (by decide +kernel) rfl ?_
          exact hx_reti (by decide +kernel) (h3 c1 c2 c3)
  · have c1 : s0 = 0 := by have h : ¬ (s0 ≠ 0) := c1; omega
    refine hx_blk (npc := 33) (L' := [(0, .inr (.inl 86)), (2, .inl x2)]) (st' := [.inl (m 86 7)]) (m' := m) [((29, .aload_n 0, 1, 0, 0, 0, 0), (0, 0, 0)), ((30, .getfield 142, 3, 10, 7, 5120, 0), (0, 86, 0))] (by decide +kernel) rfl ?_
    exact hx_reti (by decide +kernel) (h4 c1)

/-- inOrder from 73 on -/
theorem hr213_73 {xs : List Int32} {n : Nat} {Q : hQ} {m : gx_M} {x2 x3 : Int}
    (h1 : ((m 86 32) ≤ x3) → hxn xs n yp_m214 0 [(0, .inr (.inl 86))] [] m (fun r m' => hxn xs n yp_m213 98 [(0, .inr (.inl 86)), (2, .inl x2)] (hrs r ++ []) m' Q))
    (h2 : (x3 < (m 86 32)) → hxn xs n yp_m213 73 [(0, .inr (.inl 86)), (2, .inl x2), (3, .inl (gx_w (x3 + 1)))] [] (gx_u m 109 (x3).toNat x3) Q) : hxn xs (n + 1) yp_m213 73 [(0, .inr (.inl 86)), (2, .inl x2), (3, .inl x3)] [] m Q := by
  refine hx_blks (npc := 78) (L' := [(0, .inr (.inl 86)), (2, .inl x2), (3, .inl x3)]) (st' := [.inl (m 86 32), .inl x3]) (m' := m) ((73, .iload_n 3, 1, 0, 0, 0, 0), (0, 0, 0)) [((74, .aload_n 0, 1, 0, 0, 0, 0), (0, 0, 0)), ((75, .getfield 254, 3, 10, 32, 5145, 0), (0, 86, 0))] (by decide +kernel) rfl ?_
  refine hx_cmp .ge 94 (by decide +kernel) (fun c1 => ?_) (fun c1 => ?_)
  · have c1 : (m 86 32) ≤ x3 := c1
    refine hx_blk (npc := 95) (L' := [(0, .inr (.inl 86)), (2, .inl x2), (3, .inl x3)]) (st' := [.inr (.inl 86)]) (m' := m) [((94, .aload_n 0, 1, 0, 0, 0, 0), (0, 0, 0))] (by decide +kernel) rfl ?_
    exact hx_call (E := (95, .invokevirtual 297, 3, 214, 0, 6224, 0)) (M' := yp_m214) [.inr (.inl 86)] [] rfl (by decide +kernel) rfl ⟨rfl, rfl⟩ rfl rfl (hx_mono (h1 c1) (fun r m' h' => hx_pick [0, 2] h'))
  · have c1 : x3 < (m 86 32) := by have h : ¬ ((m 86 32) ≤ x3) := c1; omega
    refine hx_blk (npc := 73) (L' := [(0, .inr (.inl 86)), (2, .inl x2), (3, .inl (gx_w (x3 + 1)))]) (st' := []) (m' := (gx_u m 109 (x3).toNat x3)) [((81, .aload_n 0, 1, 0, 0, 0, 0), (0, 0, 0)), ((82, .getfield 77, 3, 10, 33, 5146, 0), (1, 86, 109)), ((85, .iload_n 3, 1, 0, 0, 0, 0), (0, 0, 0)), ((86, .iload_n 3, 1, 0, 0, 0, 0), (0, 0, 0)), ((87, .iastore, 1, 0, 0, 0, 0), (0, 109, 0)), ((88, .iinc 3 1, 3, 0, 0, 0, 0), (0, 0, 0)), ((91, .goto (-18), 3, 0, 0, 0, 0), (0, 0, 0))] (by decide +kernel) rfl ?_
    exact hx_pick [0, 2, 3] (h2 c1)

/-- inOrder from 98 on -/
theorem hr213_98 {xs : List Int32} {n : Nat} {Q : hQ} {m : gx_M} {x2 s0 : Int}
    (h1 : hxn xs n yp_m213 99 [(0, .inr (.inl 86)), (2, .inl x2), (3, .inl s0)] [] m Q) : hxn xs (n + 1) yp_m213 98 [(0, .inr (.inl 86)), (2, .inl x2)] [.inl s0] m Q := by
  refine hx_blks (npc := 99) (L' := [(0, .inr (.inl 86)), (2, .inl x2), (3, .inl s0)]) (st' := []) (m' := m) ((98, .istore_n 3, 1, 0, 0, 0, 0), (0, 0, 0)) [] (by decide +kernel) rfl ?_
  exact hx_pick [0, 2, 3] h1

/-- inOrder from 99 on -/
theorem hr213_99 {xs : List Int32} {n : Nat} {Q : hQ} {m : gx_M} {x2 x3 : Int}
    (h1 : (x3 ≠ 0) → (x2 ≠ (-1)) → (x3 = 0) → Q (some (.inl (-2))) m)
    (h2 : (x3 ≠ 0) → (x2 ≠ (-1)) → (x3 ≠ 0) → Q (some (.inl (m 109 (x2).toNat))) m)
    (h3 : (x3 ≠ 0) → (x2 = (-1)) → (x3 = 0) → Q (some (.inl 0)) m)
    (h4 : (x3 ≠ 0) → (x2 = (-1)) → (x3 ≠ 0) → Q (some (.inl 1)) m)
    (h5 : (x3 = 0) → hxn xs n yp_m215 0 [(0, .inr (.inl 86))] [] m (fun r m' => hxn xs n yp_m213 107 [(0, .inr (.inl 86)), (2, .inl x2), (3, .inl x3)] (hrs r ++ []) m' Q)) : hxn xs (n + 1) yp_m213 99 [(0, .inr (.inl 86)), (2, .inl x2), (3, .inl x3)] [] m Q := by
  refine hx_blks (npc := 100) (L' := [(0, .inr (.inl 86)), (2, .inl x2), (3, .inl x3)]) (st' := [.inl x3]) (m' := m) ((99, .iload_n 3, 1, 0, 0, 0, 0), (0, 0, 0)) [] (by decide +kernel) rfl ?_
  refine hx_if .ne 118 (by decide +kernel) (fun c1 => ?_) (fun c1 => ?_)
  · have c1 : x3 ≠ 0 := c1
    refine hx_blk (npc := 120) (L' := [(0, .inr (.inl 86)), (2, .inl x2), (3, .inl x3)]) (st' := [.inl (-1), .inl x2]) (m' := m) [((118, .iload_n 2, 1, 0, 0, 0, 0), (0, 0, 0)), ((119, .iconst (-1), 1, 0, 0, 0, 0), (0, 0, 0))] (by decide +kernel) rfl ?_
    refine hx_cmp .ne 133 (by decide +kernel) (fun c2 => ?_) (fun c2 => ?_)
    · have c2 : x2 ≠ (-1) := c2
      refine hx_blk (npc := 134) (L' := [(0, .inr (.inl 86)), (2, .inl x2), (3, .inl x3)]) (st' := [.inl x3]) (m' := m) [((133, .iload_n 3, 1, 0, 0, 0, 0), (0, 0, 0))] (by decide +kernel) rfl ?_
      refine hx_if .eq 146 (by decide +kernel) (fun c3 => ?_) (fun c3 => ?_)
      · have c3 : x3 = 0 := c3
        refine hx_blk (npc := 148) (L' := [(0, .inr (.inl 86)), (2, .inl x2), (3, .inl x3)]) (st' := [.inl (-2)]) (m' := m) [((146, .bipush (-2), 2, 0, 0, 0, 0), (0, 0, 0))] (by decide +kernel) rfl ?_
        exact hx_reti (by decide +kernel) (h1 c1 c2 c3)
      · have c3 : x3 ≠ 0 := c3
        refine hx_blk (npc := 148) (L' := [(0, .inr (.inl 86)), (2, .inl x2), (3, .inl x3)]) (st' := [.inl (m 109 (x2).toNat)]) (m' := m) [((137, .aload_n 0, 1, 0, 0, 0, 0), (0, 0, 0)), ((138, .getfield 77, 3, 10, 33, 5146, 0), (1, 86, 109)), ((141, .iload_n 2, 1, 0, 0, 0, 0), (0, 0, 0)), ((142, .iaload, 1, 0, 0, 0, 0), (0, 109, 0)), ((143, .goto 5, 3, 0, 0, 0, 0), (0, 0, 0))] (by decide +kernel) rfl ?_
        exact hx_reti (by decide +kernel) (h2 c1 c2 c3)
    · have c2 : x2 = (-1) := by have h : ¬ (x2 ≠ (-1)) := c2; omega
      refine hx_blk (npc := 124) (L' := [(0, .inr (.inl 86)), (2, .inl x2), (3, .inl x3)]) (st' := [.inl x3]) (m' := m) [((123, .iload_n 3, 1, 0, 0, 0, 0), (0, 0, 0))] (by decide +kernel) rfl ?_
      refine hx_if .eq 131 (by decide +kernel) (fun c3 => ?_) (fun c3 => ?_)
      · have c3 : x3 = 0 := c3
        refine hx_blk (npc := 132) (L' := [(0, .inr (.inl 86)), (2, .inl x2), (3, .inl x3)]) (st' := [.inl 0]) (m' := m) [((131, .iconst 0, 1, 0, 0, 0, 0), (0, 0, 0))] (by decide +kernel) rfl ?_
        exact hx_reti (by decide +kernel) (h3 c1 c2 c3)
      · have c3 : x3 ≠ 0 := c3
        refine hx_blk (npc := 132) (L' := [(0, .inr (.inl 86)), (2, .inl x2), (3, .inl x3)]) (st' := [.inl 1]) (m' := m) [((127, .iconst 1, 1, 0, 0, 0, 0), (0, 0, 0)), ((128, .goto 4, 3, 0, 0, 0, 0), (0, 0, 0))] (by decide +kernel) rfl ?_
        exact hx_reti (by decide +kernel) (h4 c1 c2 c3)
  · have c1 : x3 = 0 := by have h : ¬ (x3 ≠ 0) := c1; omega
    refine hx_blk (npc := 104) (L' := [(0, .inr (.inl 86)), (2, .inl x2), (3, .inl x3)]) (st' := [.inr (.inl 86)]) (m' := m) [((103, .aload_n 0, 1, 0, 0, 0, 0), (0, 0, 0))] (by decide +kernel) rfl ?_
    exact hx_call (E := (104, .invokevirtual 300, 3, 215, 0, 6228, 0)) (M' := yp_m215) [.inr (.inl 86)] [] rfl (by decide +kernel) rfl ⟨rfl, rfl⟩ rfl rfl (hx_mono (h5 c1) (fun r m' h' => hx_pick [0, 2, 3] h'))

/-- inOrder from 107 on -/
theorem hr213_107 {xs : List Int32} {n : Nat} {Q : hQ} {m : gx_M} {x2 x3 s0 : Int}
    (h1 : (s0 = 0) → (x2 ≠ (-1)) → (x3 = 0) → Q (some (.inl (-2))) m)
    (h2 : (s0 = 0) → (x2 ≠ (-1)) → (x3 ≠ 0) → Q (some (.inl (m 109 (x2).toNat))) m)
    (h3 : (s0 = 0) → (x2 = (-1)) → (x3 = 0) → Q (some (.inl 0)) m)
    (h4 : (s0 = 0) → (x2 = (-1)) → (x3 ≠ 0) → Q (some (.inl 1)) m)
    (h5 : (s0 ≠ 0) → hxn xs n yp_m214 0 [(0, .inr (.inl 86))] [] m (fun r m' => hxn xs n yp_m213 114 [(0, .inr (.inl 86)), (2, .inl x2)] (hrs r ++ []) m' Q)) : hxn xs (n + 1) yp_m213 107 [(0, .inr (.inl 86)), (2, .inl x2), (3, .inl x3)] [.inl s0] m Q := by
  refine hx_ifs .eq 118 (by decide +kernel) (fun c1 => ?_) (fun c1 => ?_)
  · have c1 : s0 = 0 := c1
    refine hx_blk (npc := 120) (L' := [(0, .inr (.inl 86)), (2, .inl x2), (3, .inl x3)]) (st' := [.inl (-1), .inl x2]) (m' := m) [((118, .iload_n 2, 1, 0, 0, 0, 0), (0, 0, 0)), ((119, .iconst (-1), 1, 0, 0, 0, 0), (0, 0, 0))] (by decide +kernel) rfl ?_
    refine hx_cmp .ne 133 (by decide +kernel) (fun c2 => ?_) (fun c2 => ?_)
    · have c2 : x2 ≠ (-1) := c2
      refine hx_blk (npc := 134) (L' := [(0, .inr (.inl 86)), (2, .inl x2), (3, .inl x3)]) (st' := [.inl x3]) (m' := m) [((133, .iload_n 3, 1, 0, 0, 0, 0), (0, 0, 0))] (by decide +kernel) rfl ?_
      refine hx_if .eq 146 (by decide +kernel) (fun c3 => ?_) (fun c3 => ?_)
      · have c3 : x3 = 0 := c3
        refine hx_blk (npc := 148) (L' := [(0, .inr (.inl 86)), (2, .inl x2), (3, .inl x3)]) (st' := [.inl (-2)]) (m' := m) [((146, .bipush (-2), 2, 0, 0, 0, 0), (0, 0, 0))] (by decide +kernel) rfl ?_
        exact hx_reti (by decide +kernel) (h1 c1 c2 c3)
      · have c3 : x3 ≠ 0 := c3
        refine hx_blk (npc := 148) (L' := [(0, .inr (.inl 86)), (2, .inl x2), (3, .inl x3)]) (st' := [.inl (m 109 (x2).toNat)]) (m' := m) [((137, .aload_n 0, 1, 0, 0, 0, 0), (0, 0, 0)), ((138, .getfield 77, 3, 10, 33, 5146, 0), (1, 86, 109)), ((141, .iload_n 2, 1, 0, 0, 0, 0), (0, 0, 0)), ((142, .iaload, 1, 0, 0, 0, 0), (0, 109, 0)), ((143, .goto 5, 3, 0, 0, 0, 0), (0, 0, 0))] (by decide +kernel) rfl ?_
        exact hx_reti (by decide +kernel) (h2 c1 c2 c3)
    · have c2 : x2 = (-1) := by have h : ¬ (x2 ≠ (-1)) := c2; omega
      refine hx_blk (npc := 124) (L' := [(0, .inr (.inl 86)), (2, .inl x2), (3, .inl x3)]) (st' := [.inl x3]) (m' := m) [((123, .iload_n 3, 1, 0, 0, 0, 0), (0, 0, 0))] (by decide +kernel) rfl ?_
      refine hx_if .eq 131 (by decide +kernel) (fun c3 => ?_) (fun c3 => ?_)
      · have c3 : x3 = 0 := c3
        refine hx_blk (npc := 132) (L' := [(0, .inr (.inl 86)), (2, .inl x2), (3, .inl x3)]) (st' := [.inl 0]) (m' := m) [((131, .iconst 0, 1, 0, 0, 0, 0), (0, 0, 0))] (by decide +kernel) rfl ?_
        exact hx_reti (by decide +kernel) (h3 c1 c2 c3)
      · have c3 : x3 ≠ 0 := c3
        refine hx_blk (npc := 132) (L' := [(0, .inr (.inl 86)), (2, .inl x2), (3, .inl x3)]) (st' := [.inl 1]) (m' := m) [((127, .iconst 1, 1, 0, 0, 0, 0), (0, 0, 0)), ((128, .goto 4, 3, 0, 0, 0, 0), (0, 0, 0))] (by decide +kernel) rfl ?_
        exact hx_reti (by decide +kernel) (h4 c1 c2 c3)
  · have c1 : s0 ≠ 0 := c1
    refine hx_blk (npc := 111) (L' := [(0, .inr (.inl 86)), (2, .inl x2), (3, .inl x3)]) (st' := [.inr (.inl 86)]) (m' := m) [((110, .aload_n 0, 1, 0, 0, 0, 0), (0, 0, 0))] (by decide +kernel) rfl ?_
    exact hx_call (E := (111, .invokevirtual 297, 3, 214, 0, 6224, 0)) (M' := yp_m214) [.inr (.inl 86)] [] rfl (by decide +kernel) rfl ⟨rfl, rfl⟩ rfl rfl (hx_mono (h5 c1) (fun r m' h' => hx_pick [0, 2] h'))

/-- inOrder from 114 on -/
theorem hr213_114 {xs : List Int32} {n : Nat} {Q : hQ} {m : gx_M} {x2 s0 : Int}
    (h1 : hxn xs n yp_m213 99 [(0, .inr (.inl 86)), (2, .inl x2), (3, .inl s0)] [] m Q) : hxn xs (n + 1) yp_m213 114 [(0, .inr (.inl 86)), (2, .inl x2)] [.inl s0] m Q := by
  refine hx_blks (npc := 99) (L' := [(0, .inr (.inl 86)), (2, .inl x2), (3, .inl s0)]) (st' := []) (m' := m) ((114, .istore_n 3, 1, 0, 0, 0, 0), (0, 0, 0)) [((115, .goto (-16), 3, 0, 0, 0, 0), (0, 0, 0))] (by decide +kernel) rfl ?_
  exact hx_pick [0, 2, 3] h1

/-- areDone from 0 on -/
theorem hr214_0 {xs : List Int32} {n : Nat} {Q : hQ} {m : gx_M}
    (h1 : hxn xs n yp_m214 4 [(0, .inr (.inl 86)), (1, .inl 1), (2, .inl 0)] [] m Q) : hxn xs (n + 1) yp_m214 0 [(0, .inr (.inl 86))] [] m Q := by
  refine hx_blks (npc := 4) (L' := [(0, .inr (.inl 86)), (1, .inl 1), (2, .inl 0)]) (st' := []) (m' := m) ((0, .iconst 1, 1, 0, 0, 0, 0), (0, 0, 0)) [((1, .istore_n 1, 1, 0, 0, 0, 0), (0, 0, 0)), ((2, .iconst 0, 1, 0, 0, 0, 0), (0, 0, 0)), ((3, .istore_n 2, 1, 0, 0, 0, 0), (0, 0, 0))] (by decide +kernel) rfl ?_
  exact hx_pick [0, 1, 2] h1

/-- areDone from 4 on -/
theorem hr214_4 {xs : List Int32} {n : Nat} {Q : hQ} {m : gx_M} {x1 x2 : Int}
    (h1 : ((m 86 32) ≤ x2) → Q (some (.inl x1)) (hcopy m 88 0 87 0 1131))
    (h2 : (x2 < (m 86 32)) → (x1 = 0) → Q (some (.inl x1)) (hcopy m 88 0 87 0 1131))
    (h3 : (x2 < (m 86 32)) → (x1 ≠ 0) → hxn xs n yp_m195 0 [(0, .inr (.inl 86)), (1, .inl (m 109 (x2).toNat))] [] m (fun r m' => hxn xs n yp_m214 26 [(0, .inr (.inl 86)), (2, .inl x2)] (hrs r ++ []) m' Q)) : hxn xs (n + 1) yp_m214 4 [(0, .inr (.inl 86)), (1, .inl x1), (2, .inl x2)] [] m Q := by
  refine hx_blks (npc := 9) (L' := [(0, .inr (.inl 86)), (1, .inl x1), (2, .inl x2)]) (st' := [.inl (m 86 32), .inl x2]) (m' := m) ((4, .iload_n 2, 1, 0, 0, 0, 0), (0, 0, 0)) [((5, .aload_n 0, 1, 0, 0, 0, 0), (0, 0, 0)), ((6, .getfield 254, 3, 10, 32, 5145, 0), (0, 86, 0))] (by decide +kernel) rfl ?_
  refine hx_cmp .ge 33 (by decide +kernel) (fun c1 => ?_) (fun c1 => ?_)
  · have c1 : (m 86 32) ≤ x2 := c1
    refine hx_blk (npc := 41) (L' := [(0, .inr (.inl 86)), (1, .inl x1), (2, .inl x2)]) (st' := [.inr (.inl 87), .inr (.inl 88)]) (m' := m) [((33, .aload_n 0, 1, 0, 0, 0, 0), (0, 0, 0)), ((34, .getfield 13, 3, 10, 1, 5114, 0), (1, 86, 88)), ((37, .aload_n 0, 1, 0, 0, 0, 0), (0, 0, 0)), ((38, .getfield 7, 3, 10, 0, 5113, 0), (1, 86, 87))] (by decide +kernel) rfl ?_
    refine hx_call (E := (41, .invokestatic 290, 3, 212, 0, 6217, 0)) (M' := yp_m212) [.inr (.inl 88), .inr (.inl 87)] [] rfl (by decide +kernel) rfl ⟨rfl, rfl⟩ rfl rfl (hs212_88_87 ?_)
    show hxn xs n yp_m214 44 [(0, .inr (.inl 86)), (1, .inl x1), (2, .inl x2)] [] (hcopy m 88 0 87 0 1131) Q
    refine hx_blk (npc := 45) (L' := [(0, .inr (.inl 86)), (1, .inl x1), (2, .inl x2)]) (st' := [.inl x1]) (m' := (hcopy m 88 0 87 0 1131)) [((44, .iload_n 1, 1, 0, 0, 0, 0), (0, 0, 0))] (by decide +kernel) rfl ?_
    exact hx_reti (by decide +kernel) (h1 c1)
  · have c1 : x2 < (m 86 32) := by have h : ¬ ((m 86 32) ≤ x2) := c1; omega
    refine hx_blk (npc := 13) (L' := [(0, .inr (.inl 86)), (1, .inl x1), (2, .inl x2)]) (st' := [.inl x1]) (m' := m) [((12, .iload_n 1, 1, 0, 0, 0, 0), (0, 0, 0))] (by decide +kernel) rfl ?_
    refine hx_if .eq 33 (by decide +kernel) (fun c2 => ?_) (fun c2 => ?_)
    · have c2 : x1 = 0 := c2
      refine hx_blk (npc := 41) (L' := [(0, .inr (.inl 86)), (1, .inl x1), (2, .inl x2)]) (st' := [.inr (.inl 87), .inr (.inl 88)]) (m' := m) [((33, .aload_n 0, 1, 0, 0, 0, 0), (0, 0, 0)), ((34, .getfield 13, 3, 10, 1, 5114, 0), (1, 86, 88)), ((37, .aload_n 0, 1, 0, 0, 0, 0), (0, 0, 0)), ((38, .getfield 7, 3, 10, 0, 5113, 0), (1, 86, 87))] (by decide +kernel) rfl ?_
      refine hx_call (E := (41, .invokestatic 290, 3, 212, 0, 6217, 0)) (M' := yp_m212) [.inr (.inl 88), .inr (.inl 87)] [] rfl (by decide +kernel) rfl ⟨rfl, rfl⟩ rfl rfl (hs212_88_87 ?_)
      show hxn xs n yp_m214 44 [(0, .inr (.inl 86)), (1, .inl x1), (2, .inl x2)] [] (hcopy m 88 0 87 0 1131) Q
      refine hx_blk (npc := 45) (L' := [(0, .inr (.inl 86)), (1, .inl x1), (2, .inl x2)]) (st' := [.inl x1]) (m' := (hcopy m 88 0 87 0 1131)) [((44, .iload_n 1, 1, 0, 0, 0, 0), (0, 0, 0))] (by decide +kernel) rfl ?_
      exact hx_reti (by decide +kernel) (h2 c1 c2)
    · have c2 : x1 ≠ 0 := c2
      refine hx_blk (npc := 23) (L' := [(0, .inr (.inl 86)), (1, .inl x1), (2, .inl x2)]) (st' := [.inl (m 109 (x2).toNat), .inr (.inl 86)]) (m' := m) [((16, .aload_n 0, 1, 0, 0, 0, 0), (0, 0, 0)), ((17, .aload_n 0, 1, 0, 0, 0, 0), (0, 0, 0)), ((18, .getfield 77, 3, 10, 33, 5146, 0), (1, 86, 109)), ((21, .iload_n 2, 1, 0, 0, 0, 0), (0, 0, 0)), ((22, .iaload, 1, 0, 0, 0, 0), (0, 109, 0))] (by decide +kernel) rfl ?_
      exact hx_call (E := (23, .invokevirtual 287, 3, 195, 0, 6152, 0)) (M' := yp_m195) [.inr (.inl 86), .inl (m 109 (x2).toNat)] [] rfl (by decide +kernel) rfl ⟨rfl, rfl⟩ rfl rfl (hx_mono (h3 c1 c2) (fun r m' h' => hx_pick [0, 2] h'))

/-- areDone from 26 on -/
theorem hr214_26 {xs : List Int32} {n : Nat} {Q : hQ} {m : gx_M} {x2 s0 : Int}
    (h1 : hxn xs n yp_m214 4 [(0, .inr (.inl 86)), (1, .inl s0), (2, .inl (gx_w (x2 + 1)))] [] m Q) : hxn xs (n + 1) yp_m214 26 [(0, .inr (.inl 86)), (2, .inl x2)] [.inl s0] m Q := by
  refine hx_blks (npc := 4) (L' := [(0, .inr (.inl 86)), (2, .inl (gx_w (x2 + 1))), (1, .inl s0)]) (st' := []) (m' := m) ((26, .istore_n 1, 1, 0, 0, 0, 0), (0, 0, 0)) [((27, .iinc 2 1, 3, 0, 0, 0, 0), (0, 0, 0)), ((30, .goto (-26), 3, 0, 0, 0, 0), (0, 0, 0))] (by decide +kernel) rfl ?_
  exact hx_pick [0, 1, 2] h1

/-- tried from 0 on -/
theorem hr261_0 {xs : List Int32} {n : Nat} {Q : hQ} {m : gx_M} {x1 x2 : Int}
    (h1 : (1 ≤ x1 ∧ x1 ≤ 100) → (0 ≤ x2 ∧ x2 ≤ 1) → hxn xs n yp_m258 0 [(0, .inr (.inl 86)), (1, .inl x1)] [] (hcopy m 87 0 88 0 1131) (fun r m' => hxn xs n yp_m261 59 [(0, .inr (.inl 86)), (2, .inl x2)] (hrs r ++ []) m' Q))
    (h2 : (1 ≤ x1 ∧ x1 ≤ 100) → (¬ (0 ≤ x2 ∧ x2 ≤ 1)) → (10 ≤ x2 ∧ x2 ≤ 17) → (aPers (m 87) (gx_w (x2 - 10))) → hxn xs n yp_m258 0 [(0, .inr (.inl 86)), (1, .inl x1)] [] (hcopy m 87 0 88 0 1131) (fun r m' => hxn xs n yp_m261 59 [(0, .inr (.inl 86)), (2, .inl x2)] (hrs r ++ []) m' Q))
    (h3 : (1 ≤ x1 ∧ x1 ≤ 100) → (¬ (0 ≤ x2 ∧ x2 ≤ 1)) → (10 ≤ x2 ∧ x2 ≤ 17) → (¬ (aPers (m 87) (gx_w (x2 - 10)))) → Q (some (.inl (-1))) m)
    (h4 : (1 ≤ x1 ∧ x1 ≤ 100) → (¬ (0 ≤ x2 ∧ x2 ≤ 1)) → (¬ (10 ≤ x2 ∧ x2 ≤ 17)) → Q (some (.inl (-1))) m)
    (h5 : (¬ (1 ≤ x1 ∧ x1 ≤ 100)) → Q (some (.inl (-1))) m) : hxn xs (n + 1) yp_m261 0 [(0, .inr (.inl 86)), (1, .inl x1), (2, .inl x2)] [] m Q := by
  refine hx_blks (npc := 4) (L' := [(0, .inr (.inl 86)), (1, .inl x1), (2, .inl x2)]) (st' := [.inl 100, .inl 1, .inl x1]) (m' := m) ((0, .iload_n 1, 1, 0, 0, 0, 0), (0, 0, 0)) [((1, .iconst 1, 1, 0, 0, 0, 0), (0, 0, 0)), ((2, .bipush 100, 2, 0, 0, 0, 0), (0, 0, 0))] (by decide +kernel) rfl ?_
  refine hx_call (E := (4, .invokestatic 108, 3, 162, 0, 6023, 0)) (M' := yp_m162) [.inl x1, .inl 1, .inl 100] [] rfl (by decide +kernel) rfl ⟨rfl, rfl⟩ rfl rfl (hs162 (fun c1 => ?_) (fun c1 => ?_))
  · have c1 : 1 ≤ x1 ∧ x1 ≤ 100 := c1
    show hxn xs n yp_m261 7 [(0, .inr (.inl 86)), (1, .inl x1), (2, .inl x2)] [.inl 1] m Q
    refine hx_if .eq 41 (by decide +kernel) (fun c2 => ?_) (fun c2 => ?_)
    · have c2 : (1 : Int) = 0 := c2
      exfalso; omega
    · have c2 : (1 : Int) ≠ 0 := c2
      refine hx_blk (npc := 13) (L' := [(0, .inr (.inl 86)), (1, .inl x1), (2, .inl x2)]) (st' := [.inl 1, .inl 0, .inl x2]) (m' := m) [((10, .iload_n 2, 1, 0, 0, 0, 0), (0, 0, 0)), ((11, .iconst 0, 1, 0, 0, 0, 0), (0, 0, 0)), ((12, .iconst 1, 1, 0, 0, 0, 0), (0, 0, 0))] (by decide +kernel) rfl ?_
      refine hx_call (E := (13, .invokestatic 108, 3, 162, 0, 6023, 0)) (M' := yp_m162) [.inl x2, .inl 0, .inl 1] [] rfl (by decide +kernel) rfl ⟨rfl, rfl⟩ rfl rfl (hs162 (fun c2 => ?_) (fun c2 => ?_))
      · have c2 : 0 ≤ x2 ∧ x2 ≤ 1 := c2
        show hxn xs n yp_m261 16 [(0, .inr (.inl 86)), (1, .inl x1), (2, .inl x2)] [.inl 1] m Q
        refine hx_if .ne 43 (by decide +kernel) (fun c3 => ?_) (fun c3 => ?_)
        · have c3 : (1 : Int) ≠ 0 := c3
          refine hx_blk (npc := 51) (L' := [(0, .inr (.inl 86)), (1, .inl x1), (2, .inl x2)]) (st' := [.inr (.inl 88), .inr (.inl 87)]) (m' := m) [((43, .aload_n 0, 1, 0, 0, 0, 0), (0, 0, 0)), ((44, .getfield 7, 3, 10, 0, 5113, 0), (1, 86, 87)), ((47, .aload_n 0, 1, 0, 0, 0, 0), (0, 0, 0)), ((48, .getfield 13, 3, 10, 1, 5114, 0), (1, 86, 88))] (by decide +kernel) rfl ?_
          refine hx_call (E := (51, .invokestatic 290, 3, 212, 0, 6217, 0)) (M' := yp_m212) [.inr (.inl 87), .inr (.inl 88)] [] rfl (by decide +kernel) rfl ⟨rfl, rfl⟩ rfl rfl (hs212_87_88 ?_)
          show hxn xs n yp_m261 54 [(0, .inr (.inl 86)), (1, .inl x1), (2, .inl x2)] [] (hcopy m 87 0 88 0 1131) Q
          refine hx_blk (npc := 56) (L' := [(0, .inr (.inl 86)), (1, .inl x1), (2, .inl x2)]) (st' := [.inl x1, .inr (.inl 86)]) (m' := (hcopy m 87 0 88 0 1131)) [((54, .aload_n 0, 1, 0, 0, 0, 0), (0, 0, 0)), ((55, .iload_n 1, 1, 0, 0, 0, 0), (0, 0, 0))] (by decide +kernel) rfl ?_
          exact hx_call (E := (56, .invokevirtual 400, 3, 258, 0, 7160, 0)) (M' := yp_m258) [.inr (.inl 86), .inl x1] [] rfl (by decide +kernel) rfl ⟨rfl, rfl⟩ rfl rfl (hx_mono (h1 c1 c2) (fun r m' h' => hx_pick [0, 2] h'))
        · have c3 : (1 : Int) = 0 := by have h : ¬ ((1 : Int) ≠ 0) := c3; omega
          exfalso; omega
      · have c2 : ¬ (0 ≤ x2 ∧ x2 ≤ 1) := c2
        show hxn xs n yp_m261 16 [(0, .inr (.inl 86)), (1, .inl x1), (2, .inl x2)] [.inl 0] m Q
        refine hx_if .ne 43 (by decide +kernel) (fun c3 => ?_) (fun c3 => ?_)
        · have c3 : (0 : Int) ≠ 0 := c3
          exfalso; omega
        · have c3 : (0 : Int) = 0 := by have h : ¬ ((0 : Int) ≠ 0) := c3; omega
          refine hx_blk (npc := 24) (L' := [(0, .inr (.inl 86)), (1, .inl x1), (2, .inl x2)]) (st' := [.inl 17, .inl 10, .inl x2]) (m' := m) [((19, .iload_n 2, 1, 0, 0, 0, 0), (0, 0, 0)), ((20, .bipush 10, 2, 0, 0, 0, 0), (0, 0, 0)), ((22, .bipush 17, 2, 0, 0, 0, 0), (0, 0, 0))] (by decide +kernel) rfl ?_
          refine hx_call (E := (24, .invokestatic 108, 3, 162, 0, 6023, 0)) (M' := yp_m162) [.inl x2, .inl 10, .inl 17] [] rfl (by decide +kernel) rfl ⟨rfl, rfl⟩ rfl rfl (hs162 (fun c3 => ?_) (fun c3 => ?_))
          · have c3 : 10 ≤ x2 ∧ x2 ≤ 17 := c3
            show hxn xs n yp_m261 27 [(0, .inr (.inl 86)), (1, .inl x1), (2, .inl x2)] [.inl 1] m Q
            refine hx_if .eq 41 (by decide +kernel) (fun c4 => ?_) (fun c4 => ?_)
            · have c4 : (1 : Int) = 0 := c4
              exfalso; omega
            · have c4 : (1 : Int) ≠ 0 := c4
              refine hx_blk (npc := 35) (L' := [(0, .inr (.inl 86)), (1, .inl x1), (2, .inl x2)]) (st' := [.inl (gx_w (x2 - 10)), .inr (.inl 86)]) (m' := m) [((30, .aload_n 0, 1, 0, 0, 0, 0), (0, 0, 0)), ((31, .iload_n 2, 1, 0, 0, 0, 0), (0, 0, 0)), ((32, .bipush 10, 2, 0, 0, 0, 0), (0, 0, 0)), ((34, .isub, 1, 0, 0, 0, 0), (0, 0, 0))] (by decide +kernel) rfl ?_
              refine hx_call (E := (35, .invokevirtual 113, 3, 164, 0, 6031, 0)) (M' := yp_m164) [.inr (.inl 86), .inl (gx_w (x2 - 10))] [] rfl (by decide +kernel) rfl ⟨rfl, rfl⟩ rfl rfl (hs164 (fun c4 => ?_) (fun c4 => ?_))
              · have c4 : aPers (m 87) (gx_w (x2 - 10)) := c4
                show hxn xs n yp_m261 38 [(0, .inr (.inl 86)), (1, .inl x1), (2, .inl x2)] [.inl 1] m Q
                refine hx_if .ne 43 (by decide +kernel) (fun c5 => ?_) (fun c5 => ?_)
                · have c5 : (1 : Int) ≠ 0 := c5
                  refine hx_blk (npc := 51) (L' := [(0, .inr (.inl 86)), (1, .inl x1), (2, .inl x2)]) (st' := [.inr (.inl 88), .inr (.inl 87)]) (m' := m) [((43, .aload_n 0, 1, 0, 0, 0, 0), (0, 0, 0)), ((44, .getfield 7, 3, 10, 0, 5113, 0), (1, 86, 87)), ((47, .aload_n 0, 1, 0, 0, 0, 0), (0, 0, 0)), ((48, .getfield 13, 3, 10, 1, 5114, 0), (1, 86, 88))] (by decide +kernel) rfl ?_
                  refine hx_call (E := (51, .invokestatic 290, 3, 212, 0, 6217, 0)) (M' := yp_m212) [.inr (.inl 87), .inr (.inl 88)] [] rfl (by decide +kernel) rfl ⟨rfl, rfl⟩ rfl rfl (hs212_87_88 ?_)
                  show hxn xs n yp_m261 54 [(0, .inr (.inl 86)), (1, .inl x1), (2, .inl x2)] [] (hcopy m 87 0 88 0 1131) Q
                  refine hx_blk (npc := 56) (L' := [(0, .inr (.inl 86)), (1, .inl x1), (2, .inl x2)]) (st' := [.inl x1, .inr (.inl 86)]) (m' := (hcopy m 87 0 88 0 1131)) [((54, .aload_n 0, 1, 0, 0, 0, 0), (0, 0, 0)), ((55, .iload_n 1, 1, 0, 0, 0, 0), (0, 0, 0))] (by decide +kernel) rfl ?_
                  exact hx_call (E := (56, .invokevirtual 400, 3, 258, 0, 7160, 0)) (M' := yp_m258) [.inr (.inl 86), .inl x1] [] rfl (by decide +kernel) rfl ⟨rfl, rfl⟩ rfl rfl (hx_mono (h2 c1 c2 c3 c4) (fun r m' h' => hx_pick [0, 2] h'))
                · have c5 : (1 : Int) = 0 := by have h : ¬ ((1 : Int) ≠ 0) := c5; omega
                  exfalso; omega
              · have c4 : ¬ (aPers (m 87) (gx_w (x2 - 10))) := c4
                show hxn xs n yp_m261 38 [(0, .inr (.inl 86)), (1, .inl x1), (2, .inl x2)] [.inl 0] m Q
                refine hx_if .ne 43 (by decide +kernel) (fun c5 => ?_) (fun c5 => ?_)
                · have c5 : (0 : Int) ≠ 0 := c5
                  exfalso; omega
                · have c5 : (0 : Int) = 0 := by have h : ¬ ((0 : Int) ≠ 0) := c5; omega
                  refine hx_blk (npc := 42) (L' := [(0, .inr (.inl 86)), (1, .inl x1), (2, .inl x2)]) (st' := [.inl (-1)]) (m' := m) [((41, .iconst (-1), 1, 0, 0, 0, 0), (0, 0, 0))] (by decide +kernel) rfl ?_
                  exact hx_reti (by decide +kernel) (h3 c1 c2 c3 c4)
          · have c3 : ¬ (10 ≤ x2 ∧ x2 ≤ 17) := c3
            show hxn xs n yp_m261 27 [(0, .inr (.inl 86)), (1, .inl x1), (2, .inl x2)] [.inl 0] m Q
            refine hx_if .eq 41 (by decide +kernel) (fun c4 => ?_) (fun c4 => ?_)
            · have c4 : (0 : Int) = 0 := c4
              refine hx_blk (npc := 42) (L' := [(0, .inr (.inl 86)), (1, .inl x1), (2, .inl x2)]) (st' := [.inl (-1)]) (m' := m) [((41, .iconst (-1), 1, 0, 0, 0, 0), (0, 0, 0))] (by decide +kernel) rfl ?_
              exact hx_reti (by decide +kernel) (h4 c1 c2 c3)
            · have c4 : (0 : Int) ≠ 0 := c4
              exfalso; omega
  · have c1 : ¬ (1 ≤ x1 ∧ x1 ≤ 100) := c1
    show hxn xs n yp_m261 7 [(0, .inr (.inl 86)), (1, .inl x1), (2, .inl x2)] [.inl 0] m Q
    refine hx_if .eq 41 (by decide +kernel) (fun c2 => ?_) (fun c2 => ?_)
    · have c2 : (0 : Int) = 0 := c2
      refine hx_blk (npc := 42) (L' := [(0, .inr (.inl 86)), (1, .inl x1), (2, .inl x2)]) (st' := [.inl (-1)]) (m' := m) [((41, .iconst (-1), 1, 0, 0, 0, 0), (0, 0, 0))] (by decide +kernel) rfl ?_
      exact hx_reti (by decide +kernel) (h5 c1)
    · have c2 : (0 : Int) ≠ 0 := c2
      exfalso; omega

/-- tried from 59 on -/
theorem hr261_59 {xs : List Int32} {n : Nat} {Q : hQ} {m : gx_M} {x2 : Int}
    (h1 : (x2 ≠ 0) → (x2 ≠ 1) → hxn xs n yp_m204 0 [(0, .inr (.inl 86)), (1, .inl (gx_w (x2 - 10)))] [] m (fun r m' => hxn xs n yp_m261 90 [(0, .inr (.inl 86))] (hrs r ++ []) m' Q))
    (h2 : (x2 ≠ 0) → (x2 = 1) → hxn xs n yp_m262 0 [(0, .inr (.inl 86))] [] m (fun r m' => hxn xs n yp_m261 79 [(0, .inr (.inl 86))] (hrs r ++ []) m' Q))
    (h3 : (x2 = 0) → Q (some (.inl (m 86 45))) (hcopy m 88 0 87 0 1131)) : hxn xs (n + 1) yp_m261 59 [(0, .inr (.inl 86)), (2, .inl x2)] [] m Q := by
  refine hx_blks (npc := 60) (L' := [(0, .inr (.inl 86)), (2, .inl x2)]) (st' := [.inl x2]) (m' := m) ((59, .iload_n 2, 1, 0, 0, 0, 0), (0, 0, 0)) [] (by decide +kernel) rfl ?_
  refine hx_if .ne 70 (by decide +kernel) (fun c1 => ?_) (fun c1 => ?_)
  · have c1 : x2 ≠ 0 := c1
    refine hx_blk (npc := 72) (L' := [(0, .inr (.inl 86)), (2, .inl x2)]) (st' := [.inl 1, .inl x2]) (m' := m) [((70, .iload_n 2, 1, 0, 0, 0, 0), (0, 0, 0)), ((71, .iconst 1, 1, 0, 0, 0, 0), (0, 0, 0))] (by decide +kernel) rfl ?_
    refine hx_cmp .ne 82 (by decide +kernel) (fun c2 => ?_) (fun c2 => ?_)
    · have c2 : x2 ≠ 1 := c2
      refine hx_blk (npc := 87) (L' := [(0, .inr (.inl 86)), (2, .inl x2)]) (st' := [.inl (gx_w (x2 - 10)), .inr (.inl 86)]) (m' := m) [((82, .aload_n 0, 1, 0, 0, 0, 0), (0, 0, 0)), ((83, .iload_n 2, 1, 0, 0, 0, 0), (0, 0, 0)), ((84, .bipush 10, 2, 0, 0, 0, 0), (0, 0, 0)), ((86, .isub, 1, 0, 0, 0, 0), (0, 0, 0))] (by decide +kernel) rfl ?_
      exact hx_call (E := (87, .invokevirtual 235, 3, 204, 0, 6187, 0)) (M' := yp_m204) [.inr (.inl 86), .inl (gx_w (x2 - 10))] [] rfl (by decide +kernel) rfl ⟨rfl, rfl⟩ rfl rfl (hx_mono (h1 c1 c2) (fun r m' h' => hx_pick [0] h'))
    · have c2 : x2 = 1 := by have h : ¬ (x2 ≠ 1) := c2; omega
      refine hx_blk (npc := 76) (L' := [(0, .inr (.inl 86)), (2, .inl x2)]) (st' := [.inr (.inl 86)]) (m' := m) [((75, .aload_n 0, 1, 0, 0, 0, 0), (0, 0, 0))] (by decide +kernel) rfl ?_
      exact hx_call (E := (76, .invokevirtual 406, 3, 262, 0, 7177, 0)) (M' := yp_m262) [.inr (.inl 86)] [] rfl (by decide +kernel) rfl ⟨rfl, rfl⟩ rfl rfl (hx_mono (h2 c1 c2) (fun r m' h' => hx_pick [0] h'))
  · have c1 : x2 = 0 := by have h : ¬ (x2 ≠ 0) := c1; omega
    refine hx_blk (npc := 99) (L' := [(0, .inr (.inl 86)), (2, .inl x2), (3, .inl (m 86 45))]) (st' := [.inr (.inl 87), .inr (.inl 88)]) (m' := m) [((63, .aload_n 0, 1, 0, 0, 0, 0), (0, 0, 0)), ((64, .getfield 390, 3, 10, 45, 5158, 0), (0, 86, 0)), ((67, .goto 23, 3, 0, 0, 0, 0), (0, 0, 0)), ((90, .istore_n 3, 1, 0, 0, 0, 0), (0, 0, 0)), ((91, .aload_n 0, 1, 0, 0, 0, 0), (0, 0, 0)), ((92, .getfield 13, 3, 10, 1, 5114, 0), (1, 86, 88)), ((95, .aload_n 0, 1, 0, 0, 0, 0), (0, 0, 0)), ((96, .getfield 7, 3, 10, 0, 5113, 0), (1, 86, 87))] (by decide +kernel) rfl ?_
    refine hx_call (E := (99, .invokestatic 290, 3, 212, 0, 6217, 0)) (M' := yp_m212) [.inr (.inl 88), .inr (.inl 87)] [] rfl (by decide +kernel) rfl ⟨rfl, rfl⟩ rfl rfl (hs212_88_87 ?_)
    show hxn xs n yp_m261 102 [(0, .inr (.inl 86)), (2, .inl x2), (3, .inl (m 86 45))] [] (hcopy m 88 0 87 0 1131) Q
    refine hx_blk (npc := 103) (L' := [(0, .inr (.inl 86)), (2, .inl x2), (3, .inl (m 86 45))]) (st' := [.inl (m 86 45)]) (m' := (hcopy m 88 0 87 0 1131)) [((102, .iload_n 3, 1, 0, 0, 0, 0), (0, 0, 0))] (by decide +kernel) rfl ?_
    exact hx_reti (by decide +kernel) (h3 c1)

/-- tried from 79 on -/
theorem hr261_79 {xs : List Int32} {n : Nat} {Q : hQ} {m : gx_M} {s0 : Int}
    (h1 : Q (some (.inl s0)) (hcopy m 88 0 87 0 1131)) : hxn xs (n + 1) yp_m261 79 [(0, .inr (.inl 86))] [.inl s0] m Q := by
  refine hx_blks (npc := 99) (L' := [(0, .inr (.inl 86)), (3, .inl s0)]) (st' := [.inr (.inl 87), .inr (.inl 88)]) (m' := m) ((79, .goto 11, 3, 0, 0, 0, 0), (0, 0, 0)) [((90, .istore_n 3, 1, 0, 0, 0, 0), (0, 0, 0)), ((91, .aload_n 0, 1, 0, 0, 0, 0), (0, 0, 0)), ((92, .getfield 13, 3, 10, 1, 5114, 0), (1, 86, 88)), ((95, .aload_n 0, 1, 0, 0, 0, 0), (0, 0, 0)), ((96, .getfield 7, 3, 10, 0, 5113, 0), (1, 86, 87))] (by decide +kernel) rfl ?_
  refine hx_call (E := (99, .invokestatic 290, 3, 212, 0, 6217, 0)) (M' := yp_m212) [.inr (.inl 88), .inr (.inl 87)] [] rfl (by decide +kernel) rfl ⟨rfl, rfl⟩ rfl rfl (hs212_88_87 ?_)
  show hxn xs n yp_m261 102 [(0, .inr (.inl 86)), (3, .inl s0)] [] (hcopy m 88 0 87 0 1131) Q
  refine hx_blk (npc := 103) (L' := [(0, .inr (.inl 86)), (3, .inl s0)]) (st' := [.inl s0]) (m' := (hcopy m 88 0 87 0 1131)) [((102, .iload_n 3, 1, 0, 0, 0, 0), (0, 0, 0))] (by decide +kernel) rfl ?_
  exact hx_reti (by decide +kernel) h1

/-- tried from 90 on -/
theorem hr261_90 {xs : List Int32} {n : Nat} {Q : hQ} {m : gx_M} {s0 : Int}
    (h1 : Q (some (.inl s0)) (hcopy m 88 0 87 0 1131)) : hxn xs (n + 1) yp_m261 90 [(0, .inr (.inl 86))] [.inl s0] m Q := by
  refine hx_blks (npc := 99) (L' := [(0, .inr (.inl 86)), (3, .inl s0)]) (st' := [.inr (.inl 87), .inr (.inl 88)]) (m' := m) ((90, .istore_n 3, 1, 0, 0, 0, 0), (0, 0, 0)) [((91, .aload_n 0, 1, 0, 0, 0, 0), (0, 0, 0)), ((92, .getfield 13, 3, 10, 1, 5114, 0), (1, 86, 88)), ((95, .aload_n 0, 1, 0, 0, 0, 0), (0, 0, 0)), ((96, .getfield 7, 3, 10, 0, 5113, 0), (1, 86, 87))] (by decide +kernel) rfl ?_
  refine hx_call (E := (99, .invokestatic 290, 3, 212, 0, 6217, 0)) (M' := yp_m212) [.inr (.inl 88), .inr (.inl 87)] [] rfl (by decide +kernel) rfl ⟨rfl, rfl⟩ rfl rfl (hs212_88_87 ?_)
  show hxn xs n yp_m261 102 [(0, .inr (.inl 86)), (3, .inl s0)] [] (hcopy m 88 0 87 0 1131) Q
  refine hx_blk (npc := 103) (L' := [(0, .inr (.inl 86)), (3, .inl s0)]) (st' := [.inl s0]) (m' := (hcopy m 88 0 87 0 1131)) [((102, .iload_n 3, 1, 0, 0, 0, 0), (0, 0, 0))] (by decide +kernel) rfl ?_
  exact hx_reti (by decide +kernel) h1

theorem hk_cp {o : Nat → Int} {m : gx_M} (h : ∀ k, k < 1131 → m 88 k = o k) : ∀ k, k < 1131 → hcopy m 88 0 87 0 1131 87 k = o k := fun k hk => by
  rw [hcopy_at hk]
  exact h k hk
theorem hk_fr {W : List Nat} {o : Nat → Int} {m m1 : gx_M} (h : ∀ k, k < 1131 → m 88 k = o k) (g : hFr W m m1) (hW : 88 ∉ W) : ∀ k, k < 1131 → m1 88 k = o k := fun k hk => by
  rw [congrFun (g 88 hW) k]
  exact h k hk
section HQ
variable {xs : List Int32} {Q : hQ}
theorem hl211 {o : Nat → Int} (hQ : ∀ v m', (∀ k, k < 1131 → m' 87 k = o k) → Q (some (.inl v)) m') : ∀ (n : Nat) (x2 : Int) (m : gx_M), (∀ k, k < 1131 → m 88 k = o k) → hxn xs n yp_m211 47 [(0, .inr (.inl 86)), (2, .inl x2)] [] m Q := by
  intro n
  induction n with
  | zero => exact fun _ _ _ => hx_0
  | succ n ih =>
    intro x2 m h
    refine hr211_47 (fun _ => hQ _ _ (hk_cp h)) (fun _ => ?_)
    refine hF195d (m0 := m) hFr.rf (fun v1 m1 g1 => ?_)
    show hxn xs n yp_m211 60 [(0, .inr (.inl 86)), (2, .inl x2)] [.inl v1] m1 Q
    have h' := hk_fr h g1 (by decide)
    exact hx_dn (hr211_60 (fun _ => hQ _ _ (hk_cp h')) (fun _ => ih _ _ h'))
theorem hq211 {n : Nat} {m : gx_M} {x1 : Int} (hQ : ∀ v m', (∀ k, k < 1131 → m' 87 k = m 87 k) → Q (some (.inl v)) m') : hxn xs n yp_m211 0 [(0, .inr (.inl 86)), (1, .inl x1)] [] m Q := by
  refine hx_dn (hr211_0 (fun _ _ => ?_) (fun _ _ => hQ _ _ (fun _ _ => rfl)) (fun _ => hQ _ _ (fun _ _ => rfl)))
  refine hF191a (m0 := m) hFr.rf (fun v1 m1 g1 => ?_)
  show hxn xs n yp_m211 26 [(0, .inr (.inl 86))] [.inl v1] m1 Q
  have e : m1 87 = m 87 := g1 87 (by decide)
  refine hx_dn (hr211_26 (fun _ => ?_) (fun _ => hQ _ _ (fun k _ => congrFun e k)))
  exact hl211 hQ n _ _ (fun k hk => by rw [hcopy_at hk, e])
theorem hl214 {o : Nat → Int} (hQ : ∀ v m', (∀ k, k < 1131 → m' 87 k = o k) → (∀ k, k < 1131 → m' 88 k = o k) → Q (some (.inl v)) m') : ∀ (n : Nat) (x1 x2 : Int) (m : gx_M), (∀ k, k < 1131 → m 88 k = o k) → hxn xs n yp_m214 4 [(0, .inr (.inl 86)), (1, .inl x1), (2, .inl x2)] [] m Q := by
  intro n
  induction n with
  | zero => exact fun _ _ _ _ => hx_0
  | succ n ih =>
    intro x1 x2 m h
    have hq : Q (some (.inl x1)) (hcopy m 88 0 87 0 1131) := hQ _ _ (hk_cp h) (fun k hk => by rw [hcopy_ne (by decide)]; exact h k hk)
    refine hr214_4 (fun _ => hq) (fun _ _ => hq) (fun _ _ => ?_)
    refine hF195d (m0 := m) hFr.rf (fun v1 m1 g1 => ?_)
    show hxn xs n yp_m214 26 [(0, .inr (.inl 86)), (2, .inl x2)] [.inl v1] m1 Q
    exact hx_dn (hr214_26 (ih _ _ _ (hk_fr h g1 (by decide))))
theorem hq214 {n : Nat} {m : gx_M} {o : Nat → Int} (h : ∀ k, k < 1131 → m 88 k = o k) (hQ : ∀ v m', (∀ k, k < 1131 → m' 87 k = o k) → (∀ k, k < 1131 → m' 88 k = o k) → Q (some (.inl v)) m') : hxn xs n yp_m214 0 [(0, .inr (.inl 86))] [] m Q :=
  hx_dn (hr214_0 (hl214 hQ n _ _ m h))
theorem hl213_99 {o : Nat → Int} {x2 : Int} (hQ : ∀ v m', (∀ k, k < 1131 → m' 87 k = o k) → Q (some (.inl v)) m') : ∀ (n : Nat) (x3 : Int) (m : gx_M), (∀ k, k < 1131 → m 87 k = o k) → (∀ k, k < 1131 → m 88 k = o k) → hxn xs n yp_m213 99 [(0, .inr (.inl 86)), (2, .inl x2), (3, .inl x3)] [] m Q := by
  intro n
  induction n with
  | zero => exact fun _ _ _ _ => hx_0
  | succ n ih =>
    intro x3 m h7 h8
    refine hr213_99 (fun _ _ _ => hQ _ _ h7) (fun _ _ _ => hQ _ _ h7) (fun _ _ _ => hQ _ _ h7) (fun _ _ _ => hQ _ _ h7) (fun _ => ?_)
    refine hF215n (m0 := m) hFr.rf (fun v1 m1 g1 => ?_)
    show hxn xs n yp_m213 107 [(0, .inr (.inl 86)), (2, .inl x2), (3, .inl x3)] [.inl v1] m1 Q
    have h7' : ∀ k, k < 1131 → m1 87 k = o k := fun k hk => by rw [congrFun (g1 87 (by decide)) k]; exact h7 k hk
    have h8' := hk_fr h8 g1 (by decide)
    refine hx_dn (hr213_107 (fun _ _ _ => hQ _ _ h7') (fun _ _ _ => hQ _ _ h7') (fun _ _ _ => hQ _ _ h7') (fun _ _ _ => hQ _ _ h7') (fun _ => ?_))
    refine hq214 h8' (fun v2 m2 j7 j8 => ?_)
    show hxn xs n yp_m213 114 [(0, .inr (.inl 86)), (2, .inl x2)] [.inl v2] m2 Q
    exact hx_dn (hr213_114 (ih _ _ j7 j8))
theorem hl213_73 {o : Nat → Int} {x2 : Int} (hQ : ∀ v m', (∀ k, k < 1131 → m' 87 k = o k) → Q (some (.inl v)) m') : ∀ (n : Nat) (x3 : Int) (m : gx_M), (∀ k, k < 1131 → m 88 k = o k) → hxn xs n yp_m213 73 [(0, .inr (.inl 86)), (2, .inl x2), (3, .inl x3)] [] m Q := by
  intro n
  induction n with
  | zero => exact fun _ _ _ => hx_0
  | succ n ih =>
    intro x3 m h8
    refine hr213_73 (fun _ => ?_) (fun _ => ih _ _ (fun k hk => by rw [gx_u_ne (by omega)]; exact h8 k hk))
    refine hq214 h8 (fun v2 m2 j7 j8 => ?_)
    show hxn xs n yp_m213 98 [(0, .inr (.inl 86)), (2, .inl x2)] [.inl v2] m2 Q
    exact hx_dn (hr213_98 (hl213_99 hQ n _ _ j7 j8))
theorem hq213 {n : Nat} {m : gx_M} {x1 x2 : Int} (hQ : ∀ v m', (∀ k, k < 1131 → m' 87 k = m 87 k) → Q (some (.inl v)) m') : hxn xs n yp_m213 0 [(0, .inr (.inl 86)), (1, .inl x1), (2, .inl x2)] [] m Q := by
  refine hx_dn (hr213_0 (fun _ _ => ?_) (fun _ _ => hQ _ _ (fun _ _ => rfl)) (fun _ => hQ _ _ (fun _ _ => rfl)))
  refine hF191a (m0 := m) hFr.rf (fun v1 m1 g1 => ?_)
  show hxn xs n yp_m213 26 [(0, .inr (.inl 86)), (2, .inl x2)] [.inl v1] m1 Q
  have e : m1 87 = m 87 := g1 87 (by decide)
  have hq : ∀ v, Q (some (.inl v)) m1 := fun v => hQ _ _ (fun k _ => congrFun e k)
  refine hx_dn (hr213_26 (fun _ _ => hq _) (fun _ _ _ => ?_) (fun _ _ _ => hq _) (fun _ => hq _))
  exact hl213_73 hQ n _ _ (fun k hk => by rw [hcopy_at hk, e])
theorem hq261 {n : Nat} {m : gx_M} {x1 x2 : Int} (hQ : ∀ v m', (∀ k, k < 1131 → m' 87 k = m 87 k) → Q (some (.inl v)) m') : hxn xs n yp_m261 0 [(0, .inr (.inl 86)), (1, .inl x1), (2, .inl x2)] [] m Q := by
  have go : hxn xs n yp_m258 0 [(0, .inr (.inl 86)), (1, .inl x1)] [] (hcopy m 87 0 88 0 1131) (fun r m' => hxn xs n yp_m261 59 [(0, .inr (.inl 86)), (2, .inl x2)] (hrs r ++ []) m' Q) := by
    refine hF258g (m0 := hcopy m 87 0 88 0 1131) hFr.rf (fun m1 g1 => ?_)
    show hxn xs n yp_m261 59 [(0, .inr (.inl 86)), (2, .inl x2)] [] m1 Q
    have h : ∀ k, k < 1131 → m1 88 k = m 87 k := hk_fr (fun k hk => hcopy_at hk) g1 (by decide)
    refine hx_dn (hr261_59 (fun _ _ => ?_) (fun _ _ => ?_) (fun _ => hQ _ _ (hk_cp h)))
    · refine hF204o (m0 := m1) hFr.rf (fun v2 m2 g2 => ?_)
      show hxn xs n yp_m261 90 [(0, .inr (.inl 86))] [.inl v2] m2 Q
      exact hx_dn (hr261_90 (hQ _ _ (hk_cp (hk_fr h g2 (by decide)))))
    · refine hF262o (m0 := m1) hFr.rf (fun v2 m2 g2 => ?_)
      show hxn xs n yp_m261 79 [(0, .inr (.inl 86))] [.inl v2] m2 Q
      exact hx_dn (hr261_79 (hQ _ _ (hk_cp (hk_fr h g2 (by decide)))))
  refine hx_dn (hr261_0 (fun _ _ => go) (fun _ _ _ _ => go) (fun _ _ _ _ => hQ _ _ (fun _ _ => rfl)) (fun _ _ _ => hQ _ _ (fun _ _ => rfl)) (fun _ => hQ _ _ (fun _ _ => rfl)))
end HQ
