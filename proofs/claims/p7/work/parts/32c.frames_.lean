section
/-! judged, tried, inOrder of the reference: now stands as before; frames of what they call -/
def hFa : List Nat := [86, 104, 105, 106, 107, 108]
theorem hF170a {xs : List Int32} {n : Nat} {Q : hQ} {m0 m : gx_M} (g : hFr hFa m0 m) (hQ : ∀ v m', hFr hFa m0 m' → Q (some (.inl v)) m') : hxn xs n yp_m170 0 [(0, .inr (.inl 86))] [] m Q := by
  refine hx_dn ?_
  refine hx_blks (npc := 8) (L' := [(0, .inr (.inl 86))]) (st' := [.inl (m 86 6), .inl (m 86 5)]) (m' := m) ((0, .aload_n 0, 1, 0, 0, 0, 0), (0, 0, 0)) [((1, .getfield 132, 3, 10, 5, 5118, 0), (0, 86, 0)), ((4, .aload_n 0, 1, 0, 0, 0, 0), (0, 0, 0)), ((5, .getfield 135, 3, 10, 6, 5119, 0), (0, 86, 0))] (by decide +kernel) rfl ?_
  refine hx_cmp .ge 27 (by decide +kernel) (fun _ => ?_) (fun _ => ?_)
  · refine hx_blk (npc := 28) (L' := [(0, .inr (.inl 86))]) (st' := [.inl (-1)]) (m' := m) [((27, .iconst (-1), 1, 0, 0, 0, 0), (0, 0, 0))] (by decide +kernel) rfl ?_
    exact hx_reti (by decide +kernel) (hQ _ _ g)
  · refine hx_blk (npc := 28) (L' := [(0, .inr (.inl 86))]) (st' := [.inl (gx_and (m 90 (m 86 5).toNat) 255)]) (m' := m) [((11, .aload_n 0, 1, 0, 0, 0, 0), (0, 0, 0)), ((12, .getfield 19, 3, 10, 3, 5116, 0), (1, 86, 90)), ((15, .aload_n 0, 1, 0, 0, 0, 0), (0, 0, 0)), ((16, .getfield 132, 3, 10, 5, 5118, 0), (0, 86, 0)), ((19, .baload, 1, 0, 0, 0, 0), (0, 90, 0)), ((20, .sipush 255, 3, 0, 0, 0, 0), (0, 0, 0)), ((23, .iand, 1, 0, 0, 0, 0), (0, 0, 0)), ((24, .goto 4, 3, 0, 0, 0, 0), (0, 0, 0))] (by decide +kernel) rfl ?_
    exact hx_reti (by decide +kernel) (hQ _ _ g)
theorem hF176a {xs : List Int32} {n : Nat} {Q : hQ} {m0 m : gx_M} (g : hFr hFa m0 m) (hQ : ∀ v m', hFr hFa m0 m' → Q (some (.inl v)) m') : hxn xs n yp_m176 0 [(0, .inr (.inl 86))] [] m Q := by
  refine hx_dn ?_
  refine hx_blks (npc := 1) (L' := [(0, .inr (.inl 86))]) (st' := [.inr (.inl 86)]) (m' := m) ((0, .aload_n 0, 1, 0, 0, 0, 0), (0, 0, 0)) [] (by decide +kernel) rfl ?_
  refine hx_call (E := (1, .invokevirtual 138, 3, 170, 0, 6054, 0)) (M' := yp_m170) [.inr (.inl 86)] [] rfl (by decide +kernel) rfl ⟨rfl, rfl⟩ rfl rfl (hF170a (m0 := m0) g (fun v1 m1 g1 => ?_))
  show hxn xs n yp_m176 4 [(0, .inr (.inl 86))] [.inl v1] m1 Q
  refine hx_blk (npc := 6) (L' := [(0, .inr (.inl 86))]) (st' := [.inl 48, .inl v1]) (m' := m1) [((4, .bipush 48, 2, 0, 0, 0, 0), (0, 0, 0))] (by decide +kernel) rfl ?_
  refine hx_cmp .lt 22 (by decide +kernel) (fun _ => ?_) (fun _ => ?_)
  · refine hx_blk (npc := 23) (L' := [(0, .inr (.inl 86))]) (st' := [.inl 0]) (m' := m1) [((22, .iconst 0, 1, 0, 0, 0, 0), (0, 0, 0))] (by decide +kernel) rfl ?_
    exact hx_reti (by decide +kernel) (hQ _ _ g1)
  · refine hx_blk (npc := 10) (L' := [(0, .inr (.inl 86))]) (st' := [.inr (.inl 86)]) (m' := m1) [((9, .aload_n 0, 1, 0, 0, 0, 0), (0, 0, 0))] (by decide +kernel) rfl ?_
    refine hx_call (E := (10, .invokevirtual 138, 3, 170, 0, 6054, 0)) (M' := yp_m170) [.inr (.inl 86)] [] rfl (by decide +kernel) rfl ⟨rfl, rfl⟩ rfl rfl (hF170a (m0 := m0) g1 (fun v2 m2 g2 => ?_))
    show hxn xs n yp_m176 13 [(0, .inr (.inl 86))] [.inl v2] m2 Q
    refine hx_blk (npc := 15) (L' := [(0, .inr (.inl 86))]) (st' := [.inl 57, .inl v2]) (m' := m2) [((13, .bipush 57, 2, 0, 0, 0, 0), (0, 0, 0))] (by decide +kernel) rfl ?_
    refine hx_cmp .gt 22 (by decide +kernel) (fun _ => ?_) (fun _ => ?_)
    · refine hx_blk (npc := 23) (L' := [(0, .inr (.inl 86))]) (st' := [.inl 0]) (m' := m2) [((22, .iconst 0, 1, 0, 0, 0, 0), (0, 0, 0))] (by decide +kernel) rfl ?_
      exact hx_reti (by decide +kernel) (hQ _ _ g2)
    · refine hx_blk (npc := 23) (L' := [(0, .inr (.inl 86))]) (st' := [.inl 1]) (m' := m2) [((18, .iconst 1, 1, 0, 0, 0, 0), (0, 0, 0)), ((19, .goto 4, 3, 0, 0, 0, 0), (0, 0, 0))] (by decide +kernel) rfl ?_
      exact hx_reti (by decide +kernel) (hQ _ _ g2)
theorem hF172a {xs : List Int32} {n : Nat} {Q : hQ} {m0 m : gx_M} {x1 x2 : Int} (g : hFr hFa m0 m) (hQ : ∀ v m', hFr hFa m0 m' → Q (some (.inl v)) m') : hxn xs n yp_m172 0 [(0, .inr (.inl 86)), (1, .inl x1), (2, .inl x2)] [] m Q := by
  refine hx_dn ?_
  refine hx_blks (npc := 12) (L' := [(0, .inr (.inl 86)), (1, .inl x1), (2, .inl x2)]) (st' := [.inl 0]) (m' := (gx_u m 86 7 (gx_w ((gx_w ((-1000) * x1)) - x2)))) ((0, .aload_n 0, 1, 0, 0, 0, 0), (0, 0, 0)) [((1, .sipush (-1000), 3, 0, 0, 0, 0), (0, 0, 0)), ((4, .iload_n 1, 1, 0, 0, 0, 0), (0, 0, 0)), ((5, .imul, 1, 0, 0, 0, 0), (0, 0, 0)), ((6, .iload_n 2, 1, 0, 0, 0, 0), (0, 0, 0)), ((7, .isub, 1, 0, 0, 0, 0), (0, 0, 0)), ((8, .putfield 142, 3, 10, 7, 5120, 0), (0, 86, 0)), ((11, .iconst 0, 1, 0, 0, 0, 0), (0, 0, 0))] (by decide +kernel) rfl ?_
  exact hx_reti (by decide +kernel) (hQ _ _ (g.w 86 (by decide)))
theorem hF193al {xs : List Int32} {Q : hQ} {m0 : gx_M} (hQ : ∀ v m', hFr hFa m0 m' → Q (some (.inl v)) m') : ∀ n : Nat, (∀ (x1 x2 : Int) (m : gx_M), hFr hFa m0 m → hxn xs n yp_m193 10 [(0, .inr (.inl 86)), (1, .inl x1), (2, .inl x2)] [] m Q) := by
  intro n
  induction n with
  | zero => exact fun _ _ _ _ => hx_0
  | succ n ih =>
    intro x1 x2 m g
    refine hx_blks (npc := 11) (L' := [(0, .inr (.inl 86)), (1, .inl x1), (2, .inl x2)]) (st' := [.inr (.inl 86)]) (m' := m) ((10, .aload_n 0, 1, 0, 0, 0, 0), (0, 0, 0)) [] (by decide +kernel) rfl ?_
    refine hx_call (E := (11, .invokevirtual 151, 3, 176, 0, 6078, 0)) (M' := yp_m176) [.inr (.inl 86)] [] rfl (by decide +kernel) rfl ⟨rfl, rfl⟩ rfl rfl (hF176a (m0 := m0) g (fun v1 m1 g1 => ?_))
    show hxn xs n yp_m193 14 [(0, .inr (.inl 86)), (1, .inl x1), (2, .inl x2)] [.inl v1] m1 Q
    refine hx_if .eq 59 (by decide +kernel) (fun _ => ?_) (fun _ => ?_)
    · refine hx_blk (npc := 64) (L' := [(0, .inr (.inl 86)), (1, .inl x1), (2, .inl x2)]) (st' := [.inl x2, .inl (m1 86 5)]) (m' := m1) [((59, .aload_n 0, 1, 0, 0, 0, 0), (0, 0, 0)), ((60, .getfield 132, 3, 10, 5, 5118, 0), (0, 86, 0)), ((63, .iload_n 2, 1, 0, 0, 0, 0), (0, 0, 0))] (by decide +kernel) rfl ?_
      refine hx_cmp .gt 79 (by decide +kernel) (fun _ => ?_) (fun _ => ?_)
      · refine hx_blk (npc := 84) (L' := [(0, .inr (.inl 86)), (1, .inl x1), (2, .inl x2)]) (st' := [.inl 1]) (m' := m1) [((79, .iconst 1, 1, 0, 0, 0, 0), (0, 0, 0)), ((80, .goto 4, 3, 0, 0, 0, 0), (0, 0, 0))] (by decide +kernel) rfl ?_
        exact hx_reti (by decide +kernel) (hQ _ _ g1)
      · refine hx_blk (npc := 73) (L' := [(0, .inr (.inl 86)), (1, .inl x1), (2, .inl x2)]) (st' := [.inl (m1 86 5), .inl 1, .inr (.inl 86)]) (m' := m1) [((67, .aload_n 0, 1, 0, 0, 0, 0), (0, 0, 0)), ((68, .iconst 1, 1, 0, 0, 0, 0), (0, 0, 0)), ((69, .aload_n 0, 1, 0, 0, 0, 0), (0, 0, 0)), ((70, .getfield 132, 3, 10, 5, 5118, 0), (0, 86, 0))] (by decide +kernel) rfl ?_
        refine hx_call (E := (73, .invokevirtual 145, 3, 172, 0, 6061, 0)) (M' := yp_m172) [.inr (.inl 86), .inl 1, .inl (m1 86 5)] [] rfl (by decide +kernel) rfl ⟨rfl, rfl⟩ rfl rfl (hF172a (m0 := m0) g1 (fun v2 m2 g2 => ?_))
        show hxn xs n yp_m193 76 [(0, .inr (.inl 86)), (1, .inl x1), (2, .inl x2)] [.inl v2] m2 Q
        refine hx_if .eq 83 (by decide +kernel) (fun _ => ?_) (fun _ => ?_)
        · refine hx_blk (npc := 84) (L' := [(0, .inr (.inl 86)), (1, .inl x1), (2, .inl x2)]) (st' := [.inl 0]) (m' := m2) [((83, .iconst 0, 1, 0, 0, 0, 0), (0, 0, 0))] (by decide +kernel) rfl ?_
          exact hx_reti (by decide +kernel) (hQ _ _ g2)
        · refine hx_blk (npc := 84) (L' := [(0, .inr (.inl 86)), (1, .inl x1), (2, .inl x2)]) (st' := [.inl 1]) (m' := m2) [((79, .iconst 1, 1, 0, 0, 0, 0), (0, 0, 0)), ((80, .goto 4, 3, 0, 0, 0, 0), (0, 0, 0))] (by decide +kernel) rfl ?_
          exact hx_reti (by decide +kernel) (hQ _ _ g2)
    · refine hx_blk (npc := 24) (L' := [(0, .inr (.inl 86)), (1, .inl x1), (2, .inl x2)]) (st' := [.inl (gx_w (x2 + x1)), .inl (m1 86 5)]) (m' := m1) [((17, .aload_n 0, 1, 0, 0, 0, 0), (0, 0, 0)), ((18, .getfield 132, 3, 10, 5, 5118, 0), (0, 86, 0)), ((21, .iload_n 2, 1, 0, 0, 0, 0), (0, 0, 0)), ((22, .iload_n 1, 1, 0, 0, 0, 0), (0, 0, 0)), ((23, .iadd, 1, 0, 0, 0, 0), (0, 0, 0))] (by decide +kernel) rfl ?_
      refine hx_cmp .ge 59 (by decide +kernel) (fun _ => ?_) (fun _ => ?_)
      · refine hx_blk (npc := 64) (L' := [(0, .inr (.inl 86)), (1, .inl x1), (2, .inl x2)]) (st' := [.inl x2, .inl (m1 86 5)]) (m' := m1) [((59, .aload_n 0, 1, 0, 0, 0, 0), (0, 0, 0)), ((60, .getfield 132, 3, 10, 5, 5118, 0), (0, 86, 0)), ((63, .iload_n 2, 1, 0, 0, 0, 0), (0, 0, 0))] (by decide +kernel) rfl ?_
        refine hx_cmp .gt 79 (by decide +kernel) (fun _ => ?_) (fun _ => ?_)
        · refine hx_blk (npc := 84) (L' := [(0, .inr (.inl 86)), (1, .inl x1), (2, .inl x2)]) (st' := [.inl 1]) (m' := m1) [((79, .iconst 1, 1, 0, 0, 0, 0), (0, 0, 0)), ((80, .goto 4, 3, 0, 0, 0, 0), (0, 0, 0))] (by decide +kernel) rfl ?_
          exact hx_reti (by decide +kernel) (hQ _ _ g1)
        · refine hx_blk (npc := 73) (L' := [(0, .inr (.inl 86)), (1, .inl x1), (2, .inl x2)]) (st' := [.inl (m1 86 5), .inl 1, .inr (.inl 86)]) (m' := m1) [((67, .aload_n 0, 1, 0, 0, 0, 0), (0, 0, 0)), ((68, .iconst 1, 1, 0, 0, 0, 0), (0, 0, 0)), ((69, .aload_n 0, 1, 0, 0, 0, 0), (0, 0, 0)), ((70, .getfield 132, 3, 10, 5, 5118, 0), (0, 86, 0))] (by decide +kernel) rfl ?_
          refine hx_call (E := (73, .invokevirtual 145, 3, 172, 0, 6061, 0)) (M' := yp_m172) [.inr (.inl 86), .inl 1, .inl (m1 86 5)] [] rfl (by decide +kernel) rfl ⟨rfl, rfl⟩ rfl rfl (hF172a (m0 := m0) g1 (fun v3 m3 g3 => ?_))
          show hxn xs n yp_m193 76 [(0, .inr (.inl 86)), (1, .inl x1), (2, .inl x2)] [.inl v3] m3 Q
          refine hx_if .eq 83 (by decide +kernel) (fun _ => ?_) (fun _ => ?_)
          · refine hx_blk (npc := 84) (L' := [(0, .inr (.inl 86)), (1, .inl x1), (2, .inl x2)]) (st' := [.inl 0]) (m' := m3) [((83, .iconst 0, 1, 0, 0, 0, 0), (0, 0, 0))] (by decide +kernel) rfl ?_
            exact hx_reti (by decide +kernel) (hQ _ _ g3)
          · refine hx_blk (npc := 84) (L' := [(0, .inr (.inl 86)), (1, .inl x1), (2, .inl x2)]) (st' := [.inl 1]) (m' := m3) [((79, .iconst 1, 1, 0, 0, 0, 0), (0, 0, 0)), ((80, .goto 4, 3, 0, 0, 0, 0), (0, 0, 0))] (by decide +kernel) rfl ?_
            exact hx_reti (by decide +kernel) (hQ _ _ g3)
      · refine hx_blk (npc := 36) (L' := [(0, .inr (.inl 86)), (1, .inl x1), (2, .inl x2)]) (st' := [.inr (.inl 86), .inl (gx_w (10 * (m1 86 8))), .inr (.inl 86)]) (m' := m1) [((27, .aload_n 0, 1, 0, 0, 0, 0), (0, 0, 0)), ((28, .bipush 10, 2, 0, 0, 0, 0), (0, 0, 0)), ((30, .aload_n 0, 1, 0, 0, 0, 0), (0, 0, 0)), ((31, .getfield 148, 3, 10, 8, 5121, 0), (0, 86, 0)), ((34, .imul, 1, 0, 0, 0, 0), (0, 0, 0)), ((35, .aload_n 0, 1, 0, 0, 0, 0), (0, 0, 0))] (by decide +kernel) rfl ?_
        refine hx_call (E := (36, .invokevirtual 138, 3, 170, 0, 6054, 0)) (M' := yp_m170) [.inr (.inl 86)] [.inl (gx_w (10 * (m1 86 8))), .inr (.inl 86)] rfl (by decide +kernel) rfl ⟨rfl, rfl⟩ rfl rfl (hF170a (m0 := m0) g1 (fun v4 m4 g4 => ?_))
        show hxn xs n yp_m193 39 [(0, .inr (.inl 86)), (1, .inl x1), (2, .inl x2)] [.inl v4, .inl (gx_w (10 * (m1 86 8))), .inr (.inl 86)] m4 Q
        refine hx_blk (npc := 10) (L' := [(0, .inr (.inl 86)), (1, .inl x1), (2, .inl x2)]) (st' := []) (m' := (gx_u (gx_u m4 86 8 (gx_w ((gx_w ((gx_w (10 * (m1 86 8))) + v4)) - 48))) 86 5 (gx_w (((gx_u m4 86 8 (gx_w ((gx_w ((gx_w (10 * (m1 86 8))) + v4)) - 48))) 86 5) + 1)))) [((39, .iadd, 1, 0, 0, 0, 0), (0, 0, 0)), ((40, .bipush 48, 2, 0, 0, 0, 0), (0, 0, 0)), ((42, .isub, 1, 0, 0, 0, 0), (0, 0, 0)), ((43, .putfield 148, 3, 10, 8, 5121, 0), (0, 86, 0)), ((46, .aload_n 0, 1, 0, 0, 0, 0), (0, 0, 0)), ((47, .aload_n 0, 1, 0, 0, 0, 0), (0, 0, 0)), ((48, .getfield 132, 3, 10, 5, 5118, 0), (0, 86, 0)), ((51, .iconst 1, 1, 0, 0, 0, 0), (0, 0, 0)), ((52, .iadd, 1, 0, 0, 0, 0), (0, 0, 0)), ((53, .putfield 132, 3, 10, 5, 5118, 0), (0, 86, 0)), ((56, .goto (-46), 3, 0, 0, 0, 0), (0, 0, 0))] (by decide +kernel) rfl ?_
        exact hx_pick [0, 1, 2] (ih x1 x2 (gx_u (gx_u m4 86 8 (gx_w ((gx_w ((gx_w (10 * (m1 86 8))) + v4)) - 48))) 86 5 (gx_w (((gx_u m4 86 8 (gx_w ((gx_w ((gx_w (10 * (m1 86 8))) + v4)) - 48))) 86 5) + 1))) ((g4.w 86 (by decide)).w 86 (by decide)))
theorem hF193a {xs : List Int32} {n : Nat} {Q : hQ} {m0 m : gx_M} {x1 : Int} (g : hFr hFa m0 m) (hQ : ∀ v m', hFr hFa m0 m' → Q (some (.inl v)) m') : hxn xs n yp_m193 0 [(0, .inr (.inl 86)), (1, .inl x1)] [] m Q := by
  refine hx_dn ?_
  refine hx_blks (npc := 10) (L' := [(0, .inr (.inl 86)), (1, .inl x1), (2, .inl (m 86 5))]) (st' := []) (m' := (gx_u m 86 8 0)) ((0, .aload_n 0, 1, 0, 0, 0, 0), (0, 0, 0)) [((1, .getfield 132, 3, 10, 5, 5118, 0), (0, 86, 0)), ((4, .istore_n 2, 1, 0, 0, 0, 0), (0, 0, 0)), ((5, .aload_n 0, 1, 0, 0, 0, 0), (0, 0, 0)), ((6, .iconst 0, 1, 0, 0, 0, 0), (0, 0, 0)), ((7, .putfield 148, 3, 10, 8, 5121, 0), (0, 86, 0))] (by decide +kernel) rfl ?_
  exact hx_pick [0, 1, 2] ((hF193al (xs := xs) hQ n) x1 (m 86 5) (gx_u m 86 8 0) (g.w 86 (by decide)))
theorem hF162a {xs : List Int32} {n : Nat} {Q : hQ} {m0 m : gx_M} {x0 x1 x2 : Int} (g : hFr hFa m0 m) (hQ : ∀ v m', hFr hFa m0 m' → Q (some (.inl v)) m') : hxn xs n yp_m162 0 [(0, .inl x0), (1, .inl x1), (2, .inl x2)] [] m Q := by
  refine hx_dn ?_
  refine hx_blks (npc := 2) (L' := [(0, .inl x0), (1, .inl x1), (2, .inl x2)]) (st' := [.inl x1, .inl x0]) (m' := m) ((0, .iload_n 0, 1, 0, 0, 0, 0), (0, 0, 0)) [((1, .iload_n 1, 1, 0, 0, 0, 0), (0, 0, 0))] (by decide +kernel) rfl ?_
  refine hx_cmp .lt 14 (by decide +kernel) (fun _ => ?_) (fun _ => ?_)
  · refine hx_blk (npc := 15) (L' := [(0, .inl x0), (1, .inl x1), (2, .inl x2)]) (st' := [.inl 0]) (m' := m) [((14, .iconst 0, 1, 0, 0, 0, 0), (0, 0, 0))] (by decide +kernel) rfl ?_
    exact hx_reti (by decide +kernel) (hQ _ _ g)
  · refine hx_blk (npc := 7) (L' := [(0, .inl x0), (1, .inl x1), (2, .inl x2)]) (st' := [.inl x2, .inl x0]) (m' := m) [((5, .iload_n 0, 1, 0, 0, 0, 0), (0, 0, 0)), ((6, .iload_n 2, 1, 0, 0, 0, 0), (0, 0, 0))] (by decide +kernel) rfl ?_
    refine hx_cmp .gt 14 (by decide +kernel) (fun _ => ?_) (fun _ => ?_)
    · refine hx_blk (npc := 15) (L' := [(0, .inl x0), (1, .inl x1), (2, .inl x2)]) (st' := [.inl 0]) (m' := m) [((14, .iconst 0, 1, 0, 0, 0, 0), (0, 0, 0))] (by decide +kernel) rfl ?_
      exact hx_reti (by decide +kernel) (hQ _ _ g)
    · refine hx_blk (npc := 15) (L' := [(0, .inl x0), (1, .inl x1), (2, .inl x2)]) (st' := [.inl 1]) (m' := m) [((10, .iconst 1, 1, 0, 0, 0, 0), (0, 0, 0)), ((11, .goto 4, 3, 0, 0, 0, 0), (0, 0, 0))] (by decide +kernel) rfl ?_
      exact hx_reti (by decide +kernel) (hQ _ _ g)
theorem hF194a {xs : List Int32} {n : Nat} {Q : hQ} {m0 m : gx_M} (g : hFr hFa m0 m) (hQ : ∀ v m', hFr hFa m0 m' → Q (some (.inl v)) m') : hxn xs n yp_m194 0 [(0, .inr (.inl 86))] [] m Q := by
  refine hx_dn ?_
  refine hx_blks (npc := 1) (L' := [(0, .inr (.inl 86))]) (st' := [.inr (.inl 86)]) (m' := m) ((0, .aload_n 0, 1, 0, 0, 0, 0), (0, 0, 0)) [] (by decide +kernel) rfl ?_
  refine hx_call (E := (1, .invokevirtual 138, 3, 170, 0, 6054, 0)) (M' := yp_m170) [.inr (.inl 86)] [] rfl (by decide +kernel) rfl ⟨rfl, rfl⟩ rfl rfl (hF170a (m0 := m0) g (fun v1 m1 g1 => ?_))
  show hxn xs n yp_m194 4 [(0, .inr (.inl 86))] [.inl v1] m1 Q
  refine hx_blk (npc := 8) (L' := [(0, .inr (.inl 86))]) (st' := [.inl 104, .inl 97, .inl v1]) (m' := m1) [((4, .bipush 97, 2, 0, 0, 0, 0), (0, 0, 0)), ((6, .bipush 104, 2, 0, 0, 0, 0), (0, 0, 0))] (by decide +kernel) rfl ?_
  refine hx_call (E := (8, .invokestatic 108, 3, 162, 0, 6023, 0)) (M' := yp_m162) [.inl v1, .inl 97, .inl 104] [] rfl (by decide +kernel) rfl ⟨rfl, rfl⟩ rfl rfl (hF162a (m0 := m0) g1 (fun v2 m2 g2 => ?_))
  show hxn xs n yp_m194 11 [(0, .inr (.inl 86))] [.inl v2] m2 Q
  exact hx_reti (by decide +kernel) (hQ _ _ g2)
theorem hF192a {xs : List Int32} {n : Nat} {Q : hQ} {m0 m : gx_M} (g : hFr hFa m0 m) (hQ : ∀ v m', hFr hFa m0 m' → Q (some (.inl v)) m') : hxn xs n yp_m192 0 [(0, .inr (.inl 86))] [] m Q := by
  refine hx_dn ?_
  refine hx_blks (npc := 6) (L' := [(0, .inr (.inl 86)), (1, .inl (m 86 5))]) (st' := [.inr (.inl 86)]) (m' := m) ((0, .aload_n 0, 1, 0, 0, 0, 0), (0, 0, 0)) [((1, .getfield 132, 3, 10, 5, 5118, 0), (0, 86, 0)), ((4, .istore_n 1, 1, 0, 0, 0, 0), (0, 0, 0)), ((5, .aload_n 0, 1, 0, 0, 0, 0), (0, 0, 0))] (by decide +kernel) rfl ?_
  refine hx_call (E := (6, .invokevirtual 151, 3, 176, 0, 6078, 0)) (M' := yp_m176) [.inr (.inl 86)] [] rfl (by decide +kernel) rfl ⟨rfl, rfl⟩ rfl rfl (hF176a (m0 := m0) g (fun v1 m1 g1 => ?_))
  show hxn xs n yp_m192 9 [(0, .inr (.inl 86)), (1, .inl (m 86 5))] [.inl v1] m1 Q
  refine hx_if .ne 22 (by decide +kernel) (fun _ => ?_) (fun _ => ?_)
  · refine hx_blk (npc := 28) (L' := [(0, .inr (.inl 86)), (1, .inl (m 86 5))]) (st' := [.inl 16, .inl (m1 86 32)]) (m' := m1) [((22, .aload_n 0, 1, 0, 0, 0, 0), (0, 0, 0)), ((23, .getfield 254, 3, 10, 32, 5145, 0), (0, 86, 0)), ((26, .bipush 16, 2, 0, 0, 0, 0), (0, 0, 0))] (by decide +kernel) rfl ?_
    refine hx_cmp .ne 41 (by decide +kernel) (fun _ => ?_) (fun _ => ?_)
    · refine hx_blk (npc := 43) (L' := [(0, .inr (.inl 86)), (1, .inl (m 86 5))]) (st' := [.inl 2, .inr (.inl 86)]) (m' := m1) [((41, .aload_n 0, 1, 0, 0, 0, 0), (0, 0, 0)), ((42, .iconst 2, 1, 0, 0, 0, 0), (0, 0, 0))] (by decide +kernel) rfl ?_
      refine hx_call (E := (43, .invokevirtual 257, 3, 193, 0, 6144, 0)) (M' := yp_m193) [.inr (.inl 86), .inl 2] [] rfl (by decide +kernel) rfl ⟨rfl, rfl⟩ rfl rfl (hF193a (m0 := m0) g1 (fun v2 m2 g2 => ?_))
      show hxn xs n yp_m192 46 [(0, .inr (.inl 86)), (1, .inl (m 86 5))] [.inl v2] m2 Q
      refine hx_blk (npc := 53) (L' := [(0, .inr (.inl 86)), (1, .inl (m 86 5))]) (st' := [.inl 40, .inl (m2 86 8)]) (m' := m2) [((46, .pop, 1, 0, 0, 0, 0), (0, 0, 0)), ((47, .aload_n 0, 1, 0, 0, 0, 0), (0, 0, 0)), ((48, .getfield 148, 3, 10, 8, 5121, 0), (0, 86, 0)), ((51, .bipush 40, 2, 0, 0, 0, 0), (0, 0, 0))] (by decide +kernel) rfl ?_
      refine hx_cmp .lt 63 (by decide +kernel) (fun _ => ?_) (fun _ => ?_)
      · refine hx_blk (npc := 77) (L' := [(0, .inr (.inl 86)), (1, .inl (m 86 5))]) (st' := [.inr (.inl 86)]) (m' := (gx_u m2 104 (m2 86 32).toNat (m2 86 8))) [((63, .aload_n 0, 1, 0, 0, 0, 0), (0, 0, 0)), ((64, .getfield 62, 3, 10, 27, 5140, 0), (1, 86, 104)), ((67, .aload_n 0, 1, 0, 0, 0, 0), (0, 0, 0)), ((68, .getfield 254, 3, 10, 32, 5145, 0), (0, 86, 0)), ((71, .aload_n 0, 1, 0, 0, 0, 0), (0, 0, 0)), ((72, .getfield 148, 3, 10, 8, 5121, 0), (0, 86, 0)), ((75, .iastore, 1, 0, 0, 0, 0), (0, 104, 0)), ((76, .aload_n 0, 1, 0, 0, 0, 0), (0, 0, 0))] (by decide +kernel) rfl ?_
        refine hx_call (E := (77, .invokevirtual 260, 3, 194, 0, 6148, 0)) (M' := yp_m194) [.inr (.inl 86)] [] rfl (by decide +kernel) rfl ⟨rfl, rfl⟩ rfl rfl (hF194a (m0 := m0) (g2.w 104 (by decide)) (fun v3 m3 g3 => ?_))
        show hxn xs n yp_m192 80 [(0, .inr (.inl 86)), (1, .inl (m 86 5))] [.inl v3] m3 Q
        refine hx_if .ne 93 (by decide +kernel) (fun _ => ?_) (fun _ => ?_)
        · refine hx_blk (npc := 102) (L' := [(0, .inr (.inl 86)), (1, .inl (m 86 5))]) (st' := [.inr (.inl 86), .inl (m3 86 32), .inr (.inl 105)]) (m' := m3) [((93, .aload_n 0, 1, 0, 0, 0, 0), (0, 0, 0)), ((94, .getfield 65, 3, 10, 28, 5141, 0), (1, 86, 105)), ((97, .aload_n 0, 1, 0, 0, 0, 0), (0, 0, 0)), ((98, .getfield 254, 3, 10, 32, 5145, 0), (0, 86, 0)), ((101, .aload_n 0, 1, 0, 0, 0, 0), (0, 0, 0))] (by decide +kernel) rfl ?_
          refine hx_call (E := (102, .invokevirtual 138, 3, 170, 0, 6054, 0)) (M' := yp_m170) [.inr (.inl 86)] [.inl (m3 86 32), .inr (.inl 105)] rfl (by decide +kernel) rfl ⟨rfl, rfl⟩ rfl rfl (hF170a (m0 := m0) g3 (fun v4 m4 g4 => ?_))
          show hxn xs n yp_m192 105 [(0, .inr (.inl 86)), (1, .inl (m 86 5))] [.inl v4, .inl (m3 86 32), .inr (.inl 105)] m4 Q
          refine hx_blk (npc := 120) (L' := [(0, .inr (.inl 86)), (1, .inl (m 86 5))]) (st' := [.inr (.inl 86)]) (m' := (gx_u (gx_u m4 105 (m3 86 32).toNat (gx_w (v4 - 97))) 86 5 (gx_w (((gx_u m4 105 (m3 86 32).toNat (gx_w (v4 - 97))) 86 5) + 1)))) [((105, .bipush 97, 2, 0, 0, 0, 0), (0, 0, 0)), ((107, .isub, 1, 0, 0, 0, 0), (0, 0, 0)), ((108, .iastore, 1, 0, 0, 0, 0), (0, 105, 0)), ((109, .aload_n 0, 1, 0, 0, 0, 0), (0, 0, 0)), ((110, .aload_n 0, 1, 0, 0, 0, 0), (0, 0, 0)), ((111, .getfield 132, 3, 10, 5, 5118, 0), (0, 86, 0)), ((114, .iconst 1, 1, 0, 0, 0, 0), (0, 0, 0)), ((115, .iadd, 1, 0, 0, 0, 0), (0, 0, 0)), ((116, .putfield 132, 3, 10, 5, 5118, 0), (0, 86, 0)), ((119, .aload_n 0, 1, 0, 0, 0, 0), (0, 0, 0))] (by decide +kernel) rfl ?_
          refine hx_call (E := (120, .invokevirtual 138, 3, 170, 0, 6054, 0)) (M' := yp_m170) [.inr (.inl 86)] [] rfl (by decide +kernel) rfl ⟨rfl, rfl⟩ rfl rfl (hF170a (m0 := m0) ((g4.w 105 (by decide)).w 86 (by decide)) (fun v5 m5 g5 => ?_))
          show hxn xs n yp_m192 123 [(0, .inr (.inl 86)), (1, .inl (m 86 5))] [.inl v5] m5 Q
          refine hx_blk (npc := 127) (L' := [(0, .inr (.inl 86)), (1, .inl (m 86 5)), (2, .inl v5)]) (st' := [.inl 62, .inl v5]) (m' := m5) [((123, .istore_n 2, 1, 0, 0, 0, 0), (0, 0, 0)), ((124, .iload_n 2, 1, 0, 0, 0, 0), (0, 0, 0)), ((125, .bipush 62, 2, 0, 0, 0, 0), (0, 0, 0))] (by decide +kernel) rfl ?_
          refine hx_cmp .eq 158 (by decide +kernel) (fun _ => ?_) (fun _ => ?_)
          · refine hx_blk (npc := 179) (L' := [(0, .inr (.inl 86)), (1, .inl (m 86 5)), (2, .inl v5)]) (st' := [.inr (.inl 86)]) (m' := (gx_u (gx_u m5 106 (m5 86 32).toNat v5) 86 5 (gx_w (((gx_u m5 106 (m5 86 32).toNat v5) 86 5) + 1)))) [((158, .aload_n 0, 1, 0, 0, 0, 0), (0, 0, 0)), ((159, .getfield 68, 3, 10, 29, 5142, 0), (1, 86, 106)), ((162, .aload_n 0, 1, 0, 0, 0, 0), (0, 0, 0)), ((163, .getfield 254, 3, 10, 32, 5145, 0), (0, 86, 0)), ((166, .iload_n 2, 1, 0, 0, 0, 0), (0, 0, 0)), ((167, .iastore, 1, 0, 0, 0, 0), (0, 106, 0)), ((168, .aload_n 0, 1, 0, 0, 0, 0), (0, 0, 0)), ((169, .aload_n 0, 1, 0, 0, 0, 0), (0, 0, 0)), ((170, .getfield 132, 3, 10, 5, 5118, 0), (0, 86, 0)), ((173, .iconst 1, 1, 0, 0, 0, 0), (0, 0, 0)), ((174, .iadd, 1, 0, 0, 0, 0), (0, 0, 0)), ((175, .putfield 132, 3, 10, 5, 5118, 0), (0, 86, 0)), ((178, .aload_n 0, 1, 0, 0, 0, 0), (0, 0, 0))] (by decide +kernel) rfl ?_
            refine hx_call (E := (179, .invokevirtual 260, 3, 194, 0, 6148, 0)) (M' := yp_m194) [.inr (.inl 86)] [] rfl (by decide +kernel) rfl ⟨rfl, rfl⟩ rfl rfl (hF194a (m0 := m0) ((g5.w 106 (by decide)).w 86 (by decide)) (fun v6 m6 g6 => ?_))
            show hxn xs n yp_m192 182 [(0, .inr (.inl 86)), (1, .inl (m 86 5)), (2, .inl v5)] [.inl v6] m6 Q
            refine hx_if .ne 195 (by decide +kernel) (fun _ => ?_) (fun _ => ?_)
            · refine hx_blk (npc := 204) (L' := [(0, .inr (.inl 86)), (1, .inl (m 86 5)), (2, .inl v5)]) (st' := [.inr (.inl 86), .inl (m6 86 32), .inr (.inl 107)]) (m' := m6) [((195, .aload_n 0, 1, 0, 0, 0, 0), (0, 0, 0)), ((196, .getfield 71, 3, 10, 30, 5143, 0), (1, 86, 107)), ((199, .aload_n 0, 1, 0, 0, 0, 0), (0, 0, 0)), ((200, .getfield 254, 3, 10, 32, 5145, 0), (0, 86, 0)), ((203, .aload_n 0, 1, 0, 0, 0, 0), (0, 0, 0))] (by decide +kernel) rfl ?_
              refine hx_call (E := (204, .invokevirtual 138, 3, 170, 0, 6054, 0)) (M' := yp_m170) [.inr (.inl 86)] [.inl (m6 86 32), .inr (.inl 107)] rfl (by decide +kernel) rfl ⟨rfl, rfl⟩ rfl rfl (hF170a (m0 := m0) g6 (fun v7 m7 g7 => ?_))
              show hxn xs n yp_m192 207 [(0, .inr (.inl 86)), (1, .inl (m 86 5)), (2, .inl v5)] [.inl v7, .inl (m6 86 32), .inr (.inl 107)] m7 Q
              refine hx_blk (npc := 229) (L' := [(0, .inr (.inl 86)), (1, .inl (m 86 5)), (2, .inl v5)]) (st' := [.inl ((gx_u m7 107 (m6 86 32).toNat (gx_w (v7 - 97))) 105 ((gx_u m7 107 (m6 86 32).toNat (gx_w (v7 - 97))) 86 32).toNat), .inl ((gx_u m7 107 (m6 86 32).toNat (gx_w (v7 - 97))) 107 ((gx_u m7 107 (m6 86 32).toNat (gx_w (v7 - 97))) 86 32).toNat)]) (m' := (gx_u m7 107 (m6 86 32).toNat (gx_w (v7 - 97)))) [((207, .bipush 97, 2, 0, 0, 0, 0), (0, 0, 0)), ((209, .isub, 1, 0, 0, 0, 0), (0, 0, 0)), ((210, .iastore, 1, 0, 0, 0, 0), (0, 107, 0)), ((211, .aload_n 0, 1, 0, 0, 0, 0), (0, 0, 0)), ((212, .getfield 71, 3, 10, 30, 5143, 0), (1, 86, 107)), ((215, .aload_n 0, 1, 0, 0, 0, 0), (0, 0, 0)), ((216, .getfield 254, 3, 10, 32, 5145, 0), (0, 86, 0)), ((219, .iaload, 1, 0, 0, 0, 0), (0, 107, 0)), ((220, .aload_n 0, 1, 0, 0, 0, 0), (0, 0, 0)), ((221, .getfield 65, 3, 10, 28, 5141, 0), (1, 86, 105)), ((224, .aload_n 0, 1, 0, 0, 0, 0), (0, 0, 0)), ((225, .getfield 254, 3, 10, 32, 5145, 0), (0, 86, 0)), ((228, .iaload, 1, 0, 0, 0, 0), (0, 105, 0))] (by decide +kernel) rfl ?_
              refine hx_cmp .ne 243 (by decide +kernel) (fun _ => ?_) (fun _ => ?_)
              · refine hx_blk (npc := 266) (L' := [(0, .inr (.inl 86)), (1, .inl (m 86 5)), (2, .inl v5)]) (st' := [.inl 62, .inl v5]) (m' := (gx_u (gx_u (gx_u m7 107 (m6 86 32).toNat (gx_w (v7 - 97))) 86 5 (gx_w (((gx_u m7 107 (m6 86 32).toNat (gx_w (v7 - 97))) 86 5) + 1))) 108 ((gx_u (gx_u m7 107 (m6 86 32).toNat (gx_w (v7 - 97))) 86 5 (gx_w (((gx_u m7 107 (m6 86 32).toNat (gx_w (v7 - 97))) 86 5) + 1))) 86 32).toNat 0)) [((243, .aload_n 0, 1, 0, 0, 0, 0), (0, 0, 0)), ((244, .aload_n 0, 1, 0, 0, 0, 0), (0, 0, 0)), ((245, .getfield 132, 3, 10, 5, 5118, 0), (0, 86, 0)), ((248, .iconst 1, 1, 0, 0, 0, 0), (0, 0, 0)), ((249, .iadd, 1, 0, 0, 0, 0), (0, 0, 0)), ((250, .putfield 132, 3, 10, 5, 5118, 0), (0, 86, 0)), ((253, .aload_n 0, 1, 0, 0, 0, 0), (0, 0, 0)), ((254, .getfield 74, 3, 10, 31, 5144, 0), (1, 86, 108)), ((257, .aload_n 0, 1, 0, 0, 0, 0), (0, 0, 0)), ((258, .getfield 254, 3, 10, 32, 5145, 0), (0, 86, 0)), ((261, .iconst 0, 1, 0, 0, 0, 0), (0, 0, 0)), ((262, .iastore, 1, 0, 0, 0, 0), (0, 108, 0)), ((263, .iload_n 2, 1, 0, 0, 0, 0), (0, 0, 0)), ((264, .bipush 62, 2, 0, 0, 0, 0), (0, 0, 0))] (by decide +kernel) rfl ?_
                refine hx_cmp .eq 275 (by decide +kernel) (fun _ => ?_) (fun _ => ?_)
                · refine hx_blk (npc := 277) (L' := [(0, .inr (.inl 86)), (1, .inl (m 86 5)), (2, .inl v5)]) (st' := [.inl 4, .inr (.inl 86)]) (m' := (gx_u (gx_u (gx_u m7 107 (m6 86 32).toNat (gx_w (v7 - 97))) 86 5 (gx_w (((gx_u m7 107 (m6 86 32).toNat (gx_w (v7 - 97))) 86 5) + 1))) 108 ((gx_u (gx_u m7 107 (m6 86 32).toNat (gx_w (v7 - 97))) 86 5 (gx_w (((gx_u m7 107 (m6 86 32).toNat (gx_w (v7 - 97))) 86 5) + 1))) 86 32).toNat 0)) [((275, .aload_n 0, 1, 0, 0, 0, 0), (0, 0, 0)), ((276, .iconst 4, 1, 0, 0, 0, 0), (0, 0, 0))] (by decide +kernel) rfl ?_
                  refine hx_call (E := (277, .invokevirtual 257, 3, 193, 0, 6144, 0)) (M' := yp_m193) [.inr (.inl 86), .inl 4] [] rfl (by decide +kernel) rfl ⟨rfl, rfl⟩ rfl rfl (hF193a (m0 := m0) (((g7.w 107 (by decide)).w 86 (by decide)).w 108 (by decide)) (fun v8 m8 g8 => ?_))
                  show hxn xs n yp_m192 280 [(0, .inr (.inl 86)), (1, .inl (m 86 5)), (2, .inl v5)] [.inl v8] m8 Q
                  refine hx_if .ne 285 (by decide +kernel) (fun _ => ?_) (fun _ => ?_)
                  · refine hx_blk (npc := 309) (L' := [(0, .inr (.inl 86)), (1, .inl (m 86 5)), (2, .inl v5)]) (st' := [.inl 1]) (m' := (gx_u (gx_u m8 108 (m8 86 32).toNat (m8 86 8)) 86 32 (gx_w (((gx_u m8 108 (m8 86 32).toNat (m8 86 8)) 86 32) + 1)))) [((285, .aload_n 0, 1, 0, 0, 0, 0), (0, 0, 0)), ((286, .getfield 74, 3, 10, 31, 5144, 0), (1, 86, 108)), ((289, .aload_n 0, 1, 0, 0, 0, 0), (0, 0, 0)), ((290, .getfield 254, 3, 10, 32, 5145, 0), (0, 86, 0)), ((293, .aload_n 0, 1, 0, 0, 0, 0), (0, 0, 0)), ((294, .getfield 148, 3, 10, 8, 5121, 0), (0, 86, 0)), ((297, .iastore, 1, 0, 0, 0, 0), (0, 108, 0)), ((298, .aload_n 0, 1, 0, 0, 0, 0), (0, 0, 0)), ((299, .aload_n 0, 1, 0, 0, 0, 0), (0, 0, 0)), ((300, .getfield 254, 3, 10, 32, 5145, 0), (0, 86, 0)), ((303, .iconst 1, 1, 0, 0, 0, 0), (0, 0, 0)), ((304, .iadd, 1, 0, 0, 0, 0), (0, 0, 0)), ((305, .putfield 254, 3, 10, 32, 5145, 0), (0, 86, 0)), ((308, .iconst 1, 1, 0, 0, 0, 0), (0, 0, 0))] (by decide +kernel) rfl ?_
                    exact hx_reti (by decide +kernel) (hQ _ _ ((g8.w 108 (by decide)).w 86 (by decide)))
                  · refine hx_blk (npc := 284) (L' := [(0, .inr (.inl 86)), (1, .inl (m 86 5)), (2, .inl v5)]) (st' := [.inl 0]) (m' := m8) [((283, .iconst 0, 1, 0, 0, 0, 0), (0, 0, 0))] (by decide +kernel) rfl ?_
                    exact hx_reti (by decide +kernel) (hQ _ _ g8)
                · refine hx_blk (npc := 272) (L' := [(0, .inr (.inl 86)), (1, .inl (m 86 5)), (2, .inl v5)]) (st' := [.inl 93, .inl v5]) (m' := (gx_u (gx_u (gx_u m7 107 (m6 86 32).toNat (gx_w (v7 - 97))) 86 5 (gx_w (((gx_u m7 107 (m6 86 32).toNat (gx_w (v7 - 97))) 86 5) + 1))) 108 ((gx_u (gx_u m7 107 (m6 86 32).toNat (gx_w (v7 - 97))) 86 5 (gx_w (((gx_u m7 107 (m6 86 32).toNat (gx_w (v7 - 97))) 86 5) + 1))) 86 32).toNat 0)) [((269, .iload_n 2, 1, 0, 0, 0, 0), (0, 0, 0)), ((270, .bipush 93, 2, 0, 0, 0, 0), (0, 0, 0))] (by decide +kernel) rfl ?_
                  refine hx_cmp .ne 298 (by decide +kernel) (fun _ => ?_) (fun _ => ?_)
                  · refine hx_blk (npc := 309) (L' := [(0, .inr (.inl 86)), (1, .inl (m 86 5)), (2, .inl v5)]) (st' := [.inl 1]) (m' := (gx_u (gx_u (gx_u (gx_u m7 107 (m6 86 32).toNat (gx_w (v7 - 97))) 86 5 (gx_w (((gx_u m7 107 (m6 86 32).toNat (gx_w (v7 - 97))) 86 5) + 1))) 108 ((gx_u (gx_u m7 107 (m6 86 32).toNat (gx_w (v7 - 97))) 86 5 (gx_w (((gx_u m7 107 (m6 86 32).toNat (gx_w (v7 - 97))) 86 5) + 1))) 86 32).toNat 0) 86 32 (gx_w (((gx_u (gx_u (gx_u m7 107 (m6 86 32).toNat (gx_w (v7 - 97))) 86 5 (gx_w (((gx_u m7 107 (m6 86 32).toNat (gx_w (v7 - 97))) 86 5) + 1))) 108 ((gx_u (gx_u m7 107 (m6 86 32).toNat (gx_w (v7 - 97))) 86 5 (gx_w (((gx_u m7 107 (m6 86 32).toNat (gx_w (v7 - 97))) 86 5) + 1))) 86 32).toNat 0) 86 32) + 1)))) [((298, .aload_n 0, 1, 0, 0, 0, 0), (0, 0, 0)), ((299, .aload_n 0, 1, 0, 0, 0, 0), (0, 0, 0)), ((300, .getfield 254, 3, 10, 32, 5145, 0), (0, 86, 0)), ((303, .iconst 1, 1, 0, 0, 0, 0), (0, 0, 0)), ((304, .iadd, 1, 0, 0, 0, 0), (0, 0, 0)), ((305, .putfield 254, 3, 10, 32, 5145, 0), (0, 86, 0)), ((308, .iconst 1, 1, 0, 0, 0, 0), (0, 0, 0))] (by decide +kernel) rfl ?_
                    exact hx_reti (by decide +kernel) (hQ _ _ ((((g7.w 107 (by decide)).w 86 (by decide)).w 108 (by decide)).w 86 (by decide)))
                  · refine hx_blk (npc := 277) (L' := [(0, .inr (.inl 86)), (1, .inl (m 86 5)), (2, .inl v5)]) (st' := [.inl 4, .inr (.inl 86)]) (m' := (gx_u (gx_u (gx_u m7 107 (m6 86 32).toNat (gx_w (v7 - 97))) 86 5 (gx_w (((gx_u m7 107 (m6 86 32).toNat (gx_w (v7 - 97))) 86 5) + 1))) 108 ((gx_u (gx_u m7 107 (m6 86 32).toNat (gx_w (v7 - 97))) 86 5 (gx_w (((gx_u m7 107 (m6 86 32).toNat (gx_w (v7 - 97))) 86 5) + 1))) 86 32).toNat 0)) [((275, .aload_n 0, 1, 0, 0, 0, 0), (0, 0, 0)), ((276, .iconst 4, 1, 0, 0, 0, 0), (0, 0, 0))] (by decide +kernel) rfl ?_
                    refine hx_call (E := (277, .invokevirtual 257, 3, 193, 0, 6144, 0)) (M' := yp_m193) [.inr (.inl 86), .inl 4] [] rfl (by decide +kernel) rfl ⟨rfl, rfl⟩ rfl rfl (hF193a (m0 := m0) (((g7.w 107 (by decide)).w 86 (by decide)).w 108 (by decide)) (fun v9 m9 g9 => ?_))
                    show hxn xs n yp_m192 280 [(0, .inr (.inl 86)), (1, .inl (m 86 5)), (2, .inl v5)] [.inl v9] m9 Q
                    refine hx_if .ne 285 (by decide +kernel) (fun _ => ?_) (fun _ => ?_)
                    · refine hx_blk (npc := 309) (L' := [(0, .inr (.inl 86)), (1, .inl (m 86 5)), (2, .inl v5)]) (st' := [.inl 1]) (m' := (gx_u (gx_u m9 108 (m9 86 32).toNat (m9 86 8)) 86 32 (gx_w (((gx_u m9 108 (m9 86 32).toNat (m9 86 8)) 86 32) + 1)))) [((285, .aload_n 0, 1, 0, 0, 0, 0), (0, 0, 0)), ((286, .getfield 74, 3, 10, 31, 5144, 0), (1, 86, 108)), ((289, .aload_n 0, 1, 0, 0, 0, 0), (0, 0, 0)), ((290, .getfield 254, 3, 10, 32, 5145, 0), (0, 86, 0)), ((293, .aload_n 0, 1, 0, 0, 0, 0), (0, 0, 0)), ((294, .getfield 148, 3, 10, 8, 5121, 0), (0, 86, 0)), ((297, .iastore, 1, 0, 0, 0, 0), (0, 108, 0)), ((298, .aload_n 0, 1, 0, 0, 0, 0), (0, 0, 0)), ((299, .aload_n 0, 1, 0, 0, 0, 0), (0, 0, 0)), ((300, .getfield 254, 3, 10, 32, 5145, 0), (0, 86, 0)), ((303, .iconst 1, 1, 0, 0, 0, 0), (0, 0, 0)), ((304, .iadd, 1, 0, 0, 0, 0), (0, 0, 0)), ((305, .putfield 254, 3, 10, 32, 5145, 0), (0, 86, 0)), ((308, .iconst 1, 1, 0, 0, 0, 0), (0, 0, 0))] (by decide +kernel) rfl ?_
                      exact hx_reti (by decide +kernel) (hQ _ _ ((g9.w 108 (by decide)).w 86 (by decide)))
                    · refine hx_blk (npc := 284) (L' := [(0, .inr (.inl 86)), (1, .inl (m 86 5)), (2, .inl v5)]) (st' := [.inl 0]) (m' := m9) [((283, .iconst 0, 1, 0, 0, 0, 0), (0, 0, 0))] (by decide +kernel) rfl ?_
                      exact hx_reti (by decide +kernel) (hQ _ _ g9)
              · refine hx_blk (npc := 239) (L' := [(0, .inr (.inl 86)), (1, .inl (m 86 5)), (2, .inl v5)]) (st' := [.inl ((gx_u m7 107 (m6 86 32).toNat (gx_w (v7 - 97))) 86 5), .inl 6, .inr (.inl 86)]) (m' := (gx_u m7 107 (m6 86 32).toNat (gx_w (v7 - 97)))) [((232, .aload_n 0, 1, 0, 0, 0, 0), (0, 0, 0)), ((233, .bipush 6, 2, 0, 0, 0, 0), (0, 0, 0)), ((235, .aload_n 0, 1, 0, 0, 0, 0), (0, 0, 0)), ((236, .getfield 132, 3, 10, 5, 5118, 0), (0, 86, 0))] (by decide +kernel) rfl ?_
                refine hx_call (E := (239, .invokevirtual 145, 3, 172, 0, 6061, 0)) (M' := yp_m172) [.inr (.inl 86), .inl 6, .inl ((gx_u m7 107 (m6 86 32).toNat (gx_w (v7 - 97))) 86 5)] [] rfl (by decide +kernel) rfl ⟨rfl, rfl⟩ rfl rfl (hF172a (m0 := m0) (g7.w 107 (by decide)) (fun v10 m10 g10 => ?_))
                show hxn xs n yp_m192 242 [(0, .inr (.inl 86)), (1, .inl (m 86 5)), (2, .inl v5)] [.inl v10] m10 Q
                exact hx_reti (by decide +kernel) (hQ _ _ g10)
            · refine hx_blk (npc := 191) (L' := [(0, .inr (.inl 86)), (1, .inl (m 86 5)), (2, .inl v5)]) (st' := [.inl (m6 86 5), .inl 1, .inr (.inl 86)]) (m' := m6) [((185, .aload_n 0, 1, 0, 0, 0, 0), (0, 0, 0)), ((186, .iconst 1, 1, 0, 0, 0, 0), (0, 0, 0)), ((187, .aload_n 0, 1, 0, 0, 0, 0), (0, 0, 0)), ((188, .getfield 132, 3, 10, 5, 5118, 0), (0, 86, 0))] (by decide +kernel) rfl ?_
              refine hx_call (E := (191, .invokevirtual 145, 3, 172, 0, 6061, 0)) (M' := yp_m172) [.inr (.inl 86), .inl 1, .inl (m6 86 5)] [] rfl (by decide +kernel) rfl ⟨rfl, rfl⟩ rfl rfl (hF172a (m0 := m0) g6 (fun v11 m11 g11 => ?_))
              show hxn xs n yp_m192 194 [(0, .inr (.inl 86)), (1, .inl (m 86 5)), (2, .inl v5)] [.inl v11] m11 Q
              exact hx_reti (by decide +kernel) (hQ _ _ g11)
          · refine hx_blk (npc := 133) (L' := [(0, .inr (.inl 86)), (1, .inl (m 86 5)), (2, .inl v5)]) (st' := [.inl 93, .inl v5]) (m' := m5) [((130, .iload_n 2, 1, 0, 0, 0, 0), (0, 0, 0)), ((131, .bipush 93, 2, 0, 0, 0, 0), (0, 0, 0))] (by decide +kernel) rfl ?_
            refine hx_cmp .eq 158 (by decide +kernel) (fun _ => ?_) (fun _ => ?_)
            · refine hx_blk (npc := 179) (L' := [(0, .inr (.inl 86)), (1, .inl (m 86 5)), (2, .inl v5)]) (st' := [.inr (.inl 86)]) (m' := (gx_u (gx_u m5 106 (m5 86 32).toNat v5) 86 5 (gx_w (((gx_u m5 106 (m5 86 32).toNat v5) 86 5) + 1)))) [((158, .aload_n 0, 1, 0, 0, 0, 0), (0, 0, 0)), ((159, .getfield 68, 3, 10, 29, 5142, 0), (1, 86, 106)), ((162, .aload_n 0, 1, 0, 0, 0, 0), (0, 0, 0)), ((163, .getfield 254, 3, 10, 32, 5145, 0), (0, 86, 0)), ((166, .iload_n 2, 1, 0, 0, 0, 0), (0, 0, 0)), ((167, .iastore, 1, 0, 0, 0, 0), (0, 106, 0)), ((168, .aload_n 0, 1, 0, 0, 0, 0), (0, 0, 0)), ((169, .aload_n 0, 1, 0, 0, 0, 0), (0, 0, 0)), ((170, .getfield 132, 3, 10, 5, 5118, 0), (0, 86, 0)), ((173, .iconst 1, 1, 0, 0, 0, 0), (0, 0, 0)), ((174, .iadd, 1, 0, 0, 0, 0), (0, 0, 0)), ((175, .putfield 132, 3, 10, 5, 5118, 0), (0, 86, 0)), ((178, .aload_n 0, 1, 0, 0, 0, 0), (0, 0, 0))] (by decide +kernel) rfl ?_
              refine hx_call (E := (179, .invokevirtual 260, 3, 194, 0, 6148, 0)) (M' := yp_m194) [.inr (.inl 86)] [] rfl (by decide +kernel) rfl ⟨rfl, rfl⟩ rfl rfl (hF194a (m0 := m0) ((g5.w 106 (by decide)).w 86 (by decide)) (fun v12 m12 g12 => ?_))
              show hxn xs n yp_m192 182 [(0, .inr (.inl 86)), (1, .inl (m 86 5)), (2, .inl v5)] [.inl v12] m12 Q
              refine hx_if .ne 195 (by decide +kernel) (fun _ => ?_) (fun _ => ?_)
              · refine hx_blk (npc := 204) (L' := [(0, .inr (.inl 86)), (1, .inl (m 86 5)), (2, .inl v5)]) (st' := [.inr (.inl 86), .inl (m12 86 32), .inr (.inl 107)]) (m' := m12) [((195, .aload_n 0, 1, 0, 0, 0, 0), (0, 0, 0)), ((196, .getfield 71, 3, 10, 30, 5143, 0), (1, 86, 107)), ((199, .aload_n 0, 1, 0, 0, 0, 0), (0, 0, 0)), ((200, .getfield 254, 3, 10, 32, 5145, 0), (0, 86, 0)), ((203, .aload_n 0, 1, 0, 0, 0, 0), (0, 0, 0))] (by decide +kernel) rfl ?_
                refine hx_call (E := (204, .invokevirtual 138, 3, 170, 0, 6054, 0)) (M' := yp_m170) [.inr (.inl 86)] [.inl (m12 86 32), .inr (.inl 107)] rfl (by decide +kernel) rfl ⟨rfl, rfl⟩ rfl rfl (hF170a (m0 := m0) g12 (fun v13 m13 g13 => ?_))
                show hxn xs n yp_m192 207 [(0, .inr (.inl 86)), (1, .inl (m 86 5)), (2, .inl v5)] [.inl v13, .inl (m12 86 32), .inr (.inl 107)] m13 Q
                refine hx_blk (npc := 229) (L' := [(0, .inr (.inl 86)), (1, .inl (m 86 5)), (2, .inl v5)]) (st' := [.inl ((gx_u m13 107 (m12 86 32).toNat (gx_w (v13 - 97))) 105 ((gx_u m13 107 (m12 86 32).toNat (gx_w (v13 - 97))) 86 32).toNat), .inl ((gx_u m13 107 (m12 86 32).toNat (gx_w (v13 - 97))) 107 ((gx_u m13 107 (m12 86 32).toNat (gx_w (v13 - 97))) 86 32).toNat)]) (m' := (gx_u m13 107 (m12 86 32).toNat (gx_w (v13 - 97)))) [((207, .bipush 97, 2, 0, 0, 0, 0), (0, 0, 0)), ((209, .isub, 1, 0, 0, 0, 0), (0, 0, 0)), ((210, .iastore, 1, 0, 0, 0, 0), (0, 107, 0)), ((211, .aload_n 0, 1, 0, 0, 0, 0), (0, 0, 0)), ((212, .getfield 71, 3, 10, 30, 5143, 0), (1, 86, 107)), ((215, .aload_n 0, 1, 0, 0, 0, 0), (0, 0, 0)), ((216, .getfield 254, 3, 10, 32, 5145, 0), (0, 86, 0)), ((219, .iaload, 1, 0, 0, 0, 0), (0, 107, 0)), ((220, .aload_n 0, 1, 0, 0, 0, 0), (0, 0, 0)), ((221, .getfield 65, 3, 10, 28, 5141, 0), (1, 86, 105)), ((224, .aload_n 0, 1, 0, 0, 0, 0), (0, 0, 0)), ((225, .getfield 254, 3, 10, 32, 5145, 0), (0, 86, 0)), ((228, .iaload, 1, 0, 0, 0, 0), (0, 105, 0))] (by decide +kernel) rfl ?_
                refine hx_cmp .ne 243 (by decide +kernel) (fun _ => ?_) (fun _ => ?_)
                · refine hx_blk (npc := 266) (L' := [(0, .inr (.inl 86)), (1, .inl (m 86 5)), (2, .inl v5)]) (st' := [.inl 62, .inl v5]) (m' := (gx_u (gx_u (gx_u m13 107 (m12 86 32).toNat (gx_w (v13 - 97))) 86 5 (gx_w (((gx_u m13 107 (m12 86 32).toNat (gx_w (v13 - 97))) 86 5) + 1))) 108 ((gx_u (gx_u m13 107 (m12 86 32).toNat (gx_w (v13 - 97))) 86 5 (gx_w (((gx_u m13 107 (m12 86 32).toNat (gx_w (v13 - 97))) 86 5) + 1))) 86 32).toNat 0)) [((243, .aload_n 0, 1, 0, 0, 0, 0), (0, 0, 0)), ((244, .aload_n 0, 1, 0, 0, 0, 0), (0, 0, 0)), ((245, .getfield 132, 3, 10, 5, 5118, 0), (0, 86, 0)), ((248, .iconst 1, 1, 0, 0, 0, 0), (0, 0, 0)), ((249, .iadd, 1, 0, 0, 0, 0), (0, 0, 0)), ((250, .putfield 132, 3, 10, 5, 5118, 0), (0, 86, 0)), ((253, .aload_n 0, 1, 0, 0, 0, 0), (0, 0, 0)), ((254, .getfield 74, 3, 10, 31, 5144, 0), (1, 86, 108)), ((257, .aload_n 0, 1, 0, 0, 0, 0), (0, 0, 0)), ((258, .getfield 254, 3, 10, 32, 5145, 0), (0, 86, 0)), ((261, .iconst 0, 1, 0, 0, 0, 0), (0, 0, 0)), ((262, .iastore, 1, 0, 0, 0, 0), (0, 108, 0)), ((263, .iload_n 2, 1, 0, 0, 0, 0), (0, 0, 0)), ((264, .bipush 62, 2, 0, 0, 0, 0), (0, 0, 0))] (by decide +kernel) rfl ?_
                  refine hx_cmp .eq 275 (by decide +kernel) (fun _ => ?_) (fun _ => ?_)
                  · refine hx_blk (npc := 277) (L' := [(0, .inr (.inl 86)), (1, .inl (m 86 5)), (2, .inl v5)]) (st' := [.inl 4, .inr (.inl 86)]) (m' := (gx_u (gx_u (gx_u m13 107 (m12 86 32).toNat (gx_w (v13 - 97))) 86 5 (gx_w (((gx_u m13 107 (m12 86 32).toNat (gx_w (v13 - 97))) 86 5) + 1))) 108 ((gx_u (gx_u m13 107 (m12 86 32).toNat (gx_w (v13 - 97))) 86 5 (gx_w (((gx_u m13 107 (m12 86 32).toNat (gx_w (v13 - 97))) 86 5) + 1))) 86 32).toNat 0)) [((275, .aload_n 0, 1, 0, 0, 0, 0), (0, 0, 0)), ((276, .iconst 4, 1, 0, 0, 0, 0), (0, 0, 0))] (by decide +kernel) rfl ?_
                    refine hx_call (E := (277, .invokevirtual 257, 3, 193, 0, 6144, 0)) (M' := yp_m193) [.inr (.inl 86), .inl 4] [] rfl (by decide +kernel) rfl ⟨rfl, rfl⟩ rfl rfl (hF193a (m0 := m0) (((g13.w 107 (by decide)).w 86 (by decide)).w 108 (by decide)) (fun v14 m14 g14 => ?_))
                    show hxn xs n yp_m192 280 [(0, .inr (.inl 86)), (1, .inl (m 86 5)), (2, .inl v5)] [.inl v14] m14 Q
                    refine hx_if .ne 285 (by decide +kernel) (fun _ => ?_) (fun _ => ?_)
                    · refine hx_blk (npc := 309) (L' := [(0, .inr (.inl 86)), (1, .inl (m 86 5)), (2, .inl v5)]) (st' := [.inl 1]) (m' := (gx_u (gx_u m14 108 (m14 86 32).toNat (m14 86 8)) 86 32 (gx_w (((gx_u m14 108 (m14 86 32).toNat (m14 86 8)) 86 32) + 1)))) [((285, .aload_n 0, 1, 0, 0, 0, 0), (0, 0, 0)), ((286, .getfield 74, 3, 10, 31, 5144, 0), (1, 86, 108)), ((289, .aload_n 0, 1, 0, 0, 0, 0), (0, 0, 0)), ((290, .getfield 254, 3, 10, 32, 5145, 0), (0, 86, 0)), ((293, .aload_n 0, 1, 0, 0, 0, 0), (0, 0, 0)), ((294, .getfield 148, 3, 10, 8, 5121, 0), (0, 86, 0)), ((297, .iastore, 1, 0, 0, 0, 0), (0, 108, 0)), ((298, .aload_n 0, 1, 0, 0, 0, 0), (0, 0, 0)), ((299, .aload_n 0, 1, 0, 0, 0, 0), (0, 0, 0)), ((300, .getfield 254, 3, 10, 32, 5145, 0), (0, 86, 0)), ((303, .iconst 1, 1, 0, 0, 0, 0), (0, 0, 0)), ((304, .iadd, 1, 0, 0, 0, 0), (0, 0, 0)), ((305, .putfield 254, 3, 10, 32, 5145, 0), (0, 86, 0)), ((308, .iconst 1, 1, 0, 0, 0, 0), (0, 0, 0))] (by decide +kernel) rfl ?_
                      exact hx_reti (by decide +kernel) (hQ _ _ ((g14.w 108 (by decide)).w 86 (by decide)))
                    · refine hx_blk (npc := 284) (L' := [(0, .inr (.inl 86)), (1, .inl (m 86 5)), (2, .inl v5)]) (st' := [.inl 0]) (m' := m14) [((283, .iconst 0, 1, 0, 0, 0, 0), (0, 0, 0))] (by decide +kernel) rfl ?_
                      exact hx_reti (by decide +kernel) (hQ _ _ g14)
                  · refine hx_blk (npc := 272) (L' := [(0, .inr (.inl 86)), (1, .inl (m 86 5)), (2, .inl v5)]) (st' := [.inl 93, .inl v5]) (m' := (gx_u (gx_u (gx_u m13 107 (m12 86 32).toNat (gx_w (v13 - 97))) 86 5 (gx_w (((gx_u m13 107 (m12 86 32).toNat (gx_w (v13 - 97))) 86 5) + 1))) 108 ((gx_u (gx_u m13 107 (m12 86 32).toNat (gx_w (v13 - 97))) 86 5 (gx_w (((gx_u m13 107 (m12 86 32).toNat (gx_w (v13 - 97))) 86 5) + 1))) 86 32).toNat 0)) [((269, .iload_n 2, 1, 0, 0, 0, 0), (0, 0, 0)), ((270, .bipush 93, 2, 0, 0, 0, 0), (0, 0, 0))] (by decide +kernel) rfl ?_
                    refine hx_cmp .ne 298 (by decide +kernel) (fun _ => ?_) (fun _ => ?_)
                    · refine hx_blk (npc := 309) (L' := [(0, .inr (.inl 86)), (1, .inl (m 86 5)), (2, .inl v5)]) (st' := [.inl 1]) (m' := (gx_u (gx_u (gx_u (gx_u m13 107 (m12 86 32).toNat (gx_w (v13 - 97))) 86 5 (gx_w (((gx_u m13 107 (m12 86 32).toNat (gx_w (v13 - 97))) 86 5) + 1))) 108 ((gx_u (gx_u m13 107 (m12 86 32).toNat (gx_w (v13 - 97))) 86 5 (gx_w (((gx_u m13 107 (m12 86 32).toNat (gx_w (v13 - 97))) 86 5) + 1))) 86 32).toNat 0) 86 32 (gx_w (((gx_u (gx_u (gx_u m13 107 (m12 86 32).toNat (gx_w (v13 - 97))) 86 5 (gx_w (((gx_u m13 107 (m12 86 32).toNat (gx_w (v13 - 97))) 86 5) + 1))) 108 ((gx_u (gx_u m13 107 (m12 86 32).toNat (gx_w (v13 - 97))) 86 5 (gx_w (((gx_u m13 107 (m12 86 32).toNat (gx_w (v13 - 97))) 86 5) + 1))) 86 32).toNat 0) 86 32) + 1)))) [((298, .aload_n 0, 1, 0, 0, 0, 0), (0, 0, 0)), ((299, .aload_n 0, 1, 0, 0, 0, 0), (0, 0, 0)), ((300, .getfield 254, 3, 10, 32, 5145, 0), (0, 86, 0)), ((303, .iconst 1, 1, 0, 0, 0, 0), (0, 0, 0)), ((304, .iadd, 1, 0, 0, 0, 0), (0, 0, 0)), ((305, .putfield 254, 3, 10, 32, 5145, 0), (0, 86, 0)), ((308, .iconst 1, 1, 0, 0, 0, 0), (0, 0, 0))] (by decide +kernel) rfl ?_
                      exact hx_reti (by decide +kernel) (hQ _ _ ((((g13.w 107 (by decide)).w 86 (by decide)).w 108 (by decide)).w 86 (by decide)))
                    · refine hx_blk (npc := 277) (L' := [(0, .inr (.inl 86)), (1, .inl (m 86 5)), (2, .inl v5)]) (st' := [.inl 4, .inr (.inl 86)]) (m' := (gx_u (gx_u (gx_u m13 107 (m12 86 32).toNat (gx_w (v13 - 97))) 86 5 (gx_w (((gx_u m13 107 (m12 86 32).toNat (gx_w (v13 - 97))) 86 5) + 1))) 108 ((gx_u (gx_u m13 107 (m12 86 32).toNat (gx_w (v13 - 97))) 86 5 (gx_w (((gx_u m13 107 (m12 86 32).toNat (gx_w (v13 - 97))) 86 5) + 1))) 86 32).toNat 0)) [((275, .aload_n 0, 1, 0, 0, 0, 0), (0, 0, 0)), ((276, .iconst 4, 1, 0, 0, 0, 0), (0, 0, 0))] (by decide +kernel) rfl ?_
                      refine hx_call (E := (277, .invokevirtual 257, 3, 193, 0, 6144, 0)) (M' := yp_m193) [.inr (.inl 86), .inl 4] [] rfl (by decide +kernel) rfl ⟨rfl, rfl⟩ rfl rfl (hF193a (m0 := m0) (((g13.w 107 (by decide)).w 86 (by decide)).w 108 (by decide)) (fun v15 m15 g15 => ?_))
                      show hxn xs n yp_m192 280 [(0, .inr (.inl 86)), (1, .inl (m 86 5)), (2, .inl v5)] [.inl v15] m15 Q
                      refine hx_if .ne 285 (by decide +kernel) (fun _ => ?_) (fun _ => ?_)
                      · refine hx_blk (npc := 309) (L' := [(0, .inr (.inl 86)), (1, .inl (m 86 5)), (2, .inl v5)]) (st' := [.inl 1]) (m' := (gx_u (gx_u m15 108 (m15 86 32).toNat (m15 86 8)) 86 32 (gx_w (((gx_u m15 108 (m15 86 32).toNat (m15 86 8)) 86 32) + 1)))) [((285, .aload_n 0, 1, 0, 0, 0, 0), (0, 0, 0)), ((286, .getfield 74, 3, 10, 31, 5144, 0), (1, 86, 108)), ((289, .aload_n 0, 1, 0, 0, 0, 0), (0, 0, 0)), ((290, .getfield 254, 3, 10, 32, 5145, 0), (0, 86, 0)), ((293, .aload_n 0, 1, 0, 0, 0, 0), (0, 0, 0)), ((294, .getfield 148, 3, 10, 8, 5121, 0), (0, 86, 0)), ((297, .iastore, 1, 0, 0, 0, 0), (0, 108, 0)), ((298, .aload_n 0, 1, 0, 0, 0, 0), (0, 0, 0)), ((299, .aload_n 0, 1, 0, 0, 0, 0), (0, 0, 0)), ((300, .getfield 254, 3, 10, 32, 5145, 0), (0, 86, 0)), ((303, .iconst 1, 1, 0, 0, 0, 0), (0, 0, 0)), ((304, .iadd, 1, 0, 0, 0, 0), (0, 0, 0)), ((305, .putfield 254, 3, 10, 32, 5145, 0), (0, 86, 0)), ((308, .iconst 1, 1, 0, 0, 0, 0), (0, 0, 0))] (by decide +kernel) rfl ?_
                        exact hx_reti (by decide +kernel) (hQ _ _ ((g15.w 108 (by decide)).w 86 (by decide)))
                      · refine hx_blk (npc := 284) (L' := [(0, .inr (.inl 86)), (1, .inl (m 86 5)), (2, .inl v5)]) (st' := [.inl 0]) (m' := m15) [((283, .iconst 0, 1, 0, 0, 0, 0), (0, 0, 0))] (by decide +kernel) rfl ?_
                        exact hx_reti (by decide +kernel) (hQ _ _ g15)
                · refine hx_blk (npc := 239) (L' := [(0, .inr (.inl 86)), (1, .inl (m 86 5)), (2, .inl v5)]) (st' := [.inl ((gx_u m13 107 (m12 86 32).toNat (gx_w (v13 - 97))) 86 5), .inl 6, .inr (.inl 86)]) (m' := (gx_u m13 107 (m12 86 32).toNat (gx_w (v13 - 97)))) [((232, .aload_n 0, 1, 0, 0, 0, 0), (0, 0, 0)), ((233, .bipush 6, 2, 0, 0, 0, 0), (0, 0, 0)), ((235, .aload_n 0, 1, 0, 0, 0, 0), (0, 0, 0)), ((236, .getfield 132, 3, 10, 5, 5118, 0), (0, 86, 0))] (by decide +kernel) rfl ?_
                  refine hx_call (E := (239, .invokevirtual 145, 3, 172, 0, 6061, 0)) (M' := yp_m172) [.inr (.inl 86), .inl 6, .inl ((gx_u m13 107 (m12 86 32).toNat (gx_w (v13 - 97))) 86 5)] [] rfl (by decide +kernel) rfl ⟨rfl, rfl⟩ rfl rfl (hF172a (m0 := m0) (g13.w 107 (by decide)) (fun v16 m16 g16 => ?_))
                  show hxn xs n yp_m192 242 [(0, .inr (.inl 86)), (1, .inl (m 86 5)), (2, .inl v5)] [.inl v16] m16 Q
                  exact hx_reti (by decide +kernel) (hQ _ _ g16)
              · refine hx_blk (npc := 191) (L' := [(0, .inr (.inl 86)), (1, .inl (m 86 5)), (2, .inl v5)]) (st' := [.inl (m12 86 5), .inl 1, .inr (.inl 86)]) (m' := m12) [((185, .aload_n 0, 1, 0, 0, 0, 0), (0, 0, 0)), ((186, .iconst 1, 1, 0, 0, 0, 0), (0, 0, 0)), ((187, .aload_n 0, 1, 0, 0, 0, 0), (0, 0, 0)), ((188, .getfield 132, 3, 10, 5, 5118, 0), (0, 86, 0))] (by decide +kernel) rfl ?_
                refine hx_call (E := (191, .invokevirtual 145, 3, 172, 0, 6061, 0)) (M' := yp_m172) [.inr (.inl 86), .inl 1, .inl (m12 86 5)] [] rfl (by decide +kernel) rfl ⟨rfl, rfl⟩ rfl rfl (hF172a (m0 := m0) g12 (fun v17 m17 g17 => ?_))
                show hxn xs n yp_m192 194 [(0, .inr (.inl 86)), (1, .inl (m 86 5)), (2, .inl v5)] [.inl v17] m17 Q
                exact hx_reti (by decide +kernel) (hQ _ _ g17)
            · refine hx_blk (npc := 139) (L' := [(0, .inr (.inl 86)), (1, .inl (m 86 5)), (2, .inl v5)]) (st' := [.inl 91, .inl v5]) (m' := m5) [((136, .iload_n 2, 1, 0, 0, 0, 0), (0, 0, 0)), ((137, .bipush 91, 2, 0, 0, 0, 0), (0, 0, 0))] (by decide +kernel) rfl ?_
              refine hx_cmp .eq 158 (by decide +kernel) (fun _ => ?_) (fun _ => ?_)
              · refine hx_blk (npc := 179) (L' := [(0, .inr (.inl 86)), (1, .inl (m 86 5)), (2, .inl v5)]) (st' := [.inr (.inl 86)]) (m' := (gx_u (gx_u m5 106 (m5 86 32).toNat v5) 86 5 (gx_w (((gx_u m5 106 (m5 86 32).toNat v5) 86 5) + 1)))) [((158, .aload_n 0, 1, 0, 0, 0, 0), (0, 0, 0)), ((159, .getfield 68, 3, 10, 29, 5142, 0), (1, 86, 106)), ((162, .aload_n 0, 1, 0, 0, 0, 0), (0, 0, 0)), ((163, .getfield 254, 3, 10, 32, 5145, 0), (0, 86, 0)), ((166, .iload_n 2, 1, 0, 0, 0, 0), (0, 0, 0)), ((167, .iastore, 1, 0, 0, 0, 0), (0, 106, 0)), ((168, .aload_n 0, 1, 0, 0, 0, 0), (0, 0, 0)), ((169, .aload_n 0, 1, 0, 0, 0, 0), (0, 0, 0)), ((170, .getfield 132, 3, 10, 5, 5118, 0), (0, 86, 0)), ((173, .iconst 1, 1, 0, 0, 0, 0), (0, 0, 0)), ((174, .iadd, 1, 0, 0, 0, 0), (0, 0, 0)), ((175, .putfield 132, 3, 10, 5, 5118, 0), (0, 86, 0)), ((178, .aload_n 0, 1, 0, 0, 0, 0), (0, 0, 0))] (by decide +kernel) rfl ?_
                refine hx_call (E := (179, .invokevirtual 260, 3, 194, 0, 6148, 0)) (M' := yp_m194) [.inr (.inl 86)] [] rfl (by decide +kernel) rfl ⟨rfl, rfl⟩ rfl rfl (hF194a (m0 := m0) ((g5.w 106 (by decide)).w 86 (by decide)) (fun v18 m18 g18 => ?_))
                show hxn xs n yp_m192 182 [(0, .inr (.inl 86)), (1, .inl (m 86 5)), (2, .inl v5)] [.inl v18] m18 Q
                refine hx_if .ne 195 (by decide +kernel) (fun _ => ?_) (fun _ => ?_)
                · refine hx_blk (npc := 204) (L' := [(0, .inr (.inl 86)), (1, .inl (m 86 5)), (2, .inl v5)]) (st' := [.inr (.inl 86), .inl (m18 86 32), .inr (.inl 107)]) (m' := m18) [((195, .aload_n 0, 1, 0, 0, 0, 0), (0, 0, 0)), ((196, .getfield 71, 3, 10, 30, 5143, 0), (1, 86, 107)), ((199, .aload_n 0, 1, 0, 0, 0, 0), (0, 0, 0)), ((200, .getfield 254, 3, 10, 32, 5145, 0), (0, 86, 0)), ((203, .aload_n 0, 1, 0, 0, 0, 0), (0, 0, 0))] (by decide +kernel) rfl ?_
                  refine hx_call (E := (204, .invokevirtual 138, 3, 170, 0, 6054, 0)) (M' := yp_m170) [.inr (.inl 86)] [.inl (m18 86 32), .inr (.inl 107)] rfl (by decide +kernel) rfl ⟨rfl, rfl⟩ rfl rfl (hF170a (m0 := m0) g18 (fun v19 m19 g19 => ?_))
                  show hxn xs n yp_m192 207 [(0, .inr (.inl 86)), (1, .inl (m 86 5)), (2, .inl v5)] [.inl v19, .inl (m18 86 32), .inr (.inl 107)] m19 Q
                  refine hx_blk (npc := 229) (L' := [(0, .inr (.inl 86)), (1, .inl (m 86 5)), (2, .inl v5)]) (st' := [.inl ((gx_u m19 107 (m18 86 32).toNat (gx_w (v19 - 97))) 105 ((gx_u m19 107 (m18 86 32).toNat (gx_w (v19 - 97))) 86 32).toNat), .inl ((gx_u m19 107 (m18 86 32).toNat (gx_w (v19 - 97))) 107 ((gx_u m19 107 (m18 86 32).toNat (gx_w (v19 - 97))) 86 32).toNat)]) (m' := (gx_u m19 107 (m18 86 32).toNat (gx_w (v19 - 97)))) [((207, .bipush 97, 2, 0, 0, 0, 0), (0, 0, 0)), ((209, .isub, 1, 0, 0, 0, 0), (0, 0, 0)), ((210, .iastore, 1, 0, 0, 0, 0), (0, 107, 0)), ((211, .aload_n 0, 1, 0, 0, 0, 0), (0, 0, 0)), ((212, .getfield 71, 3, 10, 30, 5143, 0), (1, 86, 107)), ((215, .aload_n 0, 1, 0, 0, 0, 0), (0, 0, 0)), ((216, .getfield 254, 3, 10, 32, 5145, 0), (0, 86, 0)), ((219, .iaload, 1, 0, 0, 0, 0), (0, 107, 0)), ((220, .aload_n 0, 1, 0, 0, 0, 0), (0, 0, 0)), ((221, .getfield 65, 3, 10, 28, 5141, 0), (1, 86, 105)), ((224, .aload_n 0, 1, 0, 0, 0, 0), (0, 0, 0)), ((225, .getfield 254, 3, 10, 32, 5145, 0), (0, 86, 0)), ((228, .iaload, 1, 0, 0, 0, 0), (0, 105, 0))] (by decide +kernel) rfl ?_
                  refine hx_cmp .ne 243 (by decide +kernel) (fun _ => ?_) (fun _ => ?_)
                  · refine hx_blk (npc := 266) (L' := [(0, .inr (.inl 86)), (1, .inl (m 86 5)), (2, .inl v5)]) (st' := [.inl 62, .inl v5]) (m' := (gx_u (gx_u (gx_u m19 107 (m18 86 32).toNat (gx_w (v19 - 97))) 86 5 (gx_w (((gx_u m19 107 (m18 86 32).toNat (gx_w (v19 - 97))) 86 5) + 1))) 108 ((gx_u (gx_u m19 107 (m18 86 32).toNat (gx_w (v19 - 97))) 86 5 (gx_w (((gx_u m19 107 (m18 86 32).toNat (gx_w (v19 - 97))) 86 5) + 1))) 86 32).toNat 0)) [((243, .aload_n 0, 1, 0, 0, 0, 0), (0, 0, 0)), ((244, .aload_n 0, 1, 0, 0, 0, 0), (0, 0, 0)), ((245, .getfield 132, 3, 10, 5, 5118, 0), (0, 86, 0)), ((248, .iconst 1, 1, 0, 0, 0, 0), (0, 0, 0)), ((249, .iadd, 1, 0, 0, 0, 0), (0, 0, 0)), ((250, .putfield 132, 3, 10, 5, 5118, 0), (0, 86, 0)), ((253, .aload_n 0, 1, 0, 0, 0, 0), (0, 0, 0)), ((254, .getfield 74, 3, 10, 31, 5144, 0), (1, 86, 108)), ((257, .aload_n 0, 1, 0, 0, 0, 0), (0, 0, 0)), ((258, .getfield 254, 3, 10, 32, 5145, 0), (0, 86, 0)), ((261, .iconst 0, 1, 0, 0, 0, 0), (0, 0, 0)), ((262, .iastore, 1, 0, 0, 0, 0), (0, 108, 0)), ((263, .iload_n 2, 1, 0, 0, 0, 0), (0, 0, 0)), ((264, .bipush 62, 2, 0, 0, 0, 0), (0, 0, 0))] (by decide +kernel) rfl ?_
                    refine hx_cmp .eq 275 (by decide +kernel) (fun _ => ?_) (fun _ => ?_)
                    · refine hx_blk (npc := 277) (L' := [(0, .inr (.inl 86)), (1, .inl (m 86 5)), (2, .inl v5)]) (st' := [.inl 4, .inr (.inl 86)]) (m' := (gx_u (gx_u (gx_u m19 107 (m18 86 32).toNat (gx_w (v19 - 97))) 86 5 (gx_w (((gx_u m19 107 (m18 86 32).toNat (gx_w (v19 - 97))) 86 5) + 1))) 108 ((gx_u (gx_u m19 107 (m18 86 32).toNat (gx_w (v19 - 97))) 86 5 (gx_w (((gx_u m19 107 (m18 86 32).toNat (gx_w (v19 - 97))) 86 5) + 1))) 86 32).toNat 0)) [((275, .aload_n 0, 1, 0, 0, 0, 0), (0, 0, 0)), ((276, .iconst 4, 1, 0, 0, 0, 0), (0, 0, 0))] (by decide +kernel) rfl ?_
                      refine hx_call (E := (277, .invokevirtual 257, 3, 193, 0, 6144, 0)) (M' := yp_m193) [.inr (.inl 86), .inl 4] [] rfl (by decide +kernel) rfl ⟨rfl, rfl⟩ rfl rfl (hF193a (m0 := m0) (((g19.w 107 (by decide)).w 86 (by decide)).w 108 (by decide)) (fun v20 m20 g20 => ?_))
                      show hxn xs n yp_m192 280 [(0, .inr (.inl 86)), (1, .inl (m 86 5)), (2, .inl v5)] [.inl v20] m20 Q
                      refine hx_if .ne 285 (by decide +kernel) (fun _ => ?_) (fun _ => ?_)
                      · refine hx_blk (npc := 309) (L' := [(0, .inr (.inl 86)), (1, .inl (m 86 5)), (2, .inl v5)]) (st' := [.inl 1]) (m' := (gx_u (gx_u m20 108 (m20 86 32).toNat (m20 86 8)) 86 32 (gx_w (((gx_u m20 108 (m20 86 32).toNat (m20 86 8)) 86 32) + 1)))) [((285, .aload_n 0, 1, 0, 0, 0, 0), (0, 0, 0)), ((286, .getfield 74, 3, 10, 31, 5144, 0), (1, 86, 108)), ((289, .aload_n 0, 1, 0, 0, 0, 0), (0, 0, 0)), ((290, .getfield 254, 3, 10, 32, 5145, 0), (0, 86, 0)), ((293, .aload_n 0, 1, 0, 0, 0, 0), (0, 0, 0)), ((294, .getfield 148, 3, 10, 8, 5121, 0), (0, 86, 0)), ((297, .iastore, 1, 0, 0, 0, 0), (0, 108, 0)), ((298, .aload_n 0, 1, 0, 0, 0, 0), (0, 0, 0)), ((299, .aload_n 0, 1, 0, 0, 0, 0), (0, 0, 0)), ((300, .getfield 254, 3, 10, 32, 5145, 0), (0, 86, 0)), ((303, .iconst 1, 1, 0, 0, 0, 0), (0, 0, 0)), ((304, .iadd, 1, 0, 0, 0, 0), (0, 0, 0)), ((305, .putfield 254, 3, 10, 32, 5145, 0), (0, 86, 0)), ((308, .iconst 1, 1, 0, 0, 0, 0), (0, 0, 0))] (by decide +kernel) rfl ?_
                        exact hx_reti (by decide +kernel) (hQ _ _ ((g20.w 108 (by decide)).w 86 (by decide)))
                      · refine hx_blk (npc := 284) (L' := [(0, .inr (.inl 86)), (1, .inl (m 86 5)), (2, .inl v5)]) (st' := [.inl 0]) (m' := m20) [((283, .iconst 0, 1, 0, 0, 0, 0), (0, 0, 0))] (by decide +kernel) rfl ?_
                        exact hx_reti (by decide +kernel) (hQ _ _ g20)
                    · refine hx_blk (npc := 272) (L' := [(0, .inr (.inl 86)), (1, .inl (m 86 5)), (2, .inl v5)]) (st' := [.inl 93, .inl v5]) (m' := (gx_u (gx_u (gx_u m19 107 (m18 86 32).toNat (gx_w (v19 - 97))) 86 5 (gx_w (((gx_u m19 107 (m18 86 32).toNat (gx_w (v19 - 97))) 86 5) + 1))) 108 ((gx_u (gx_u m19 107 (m18 86 32).toNat (gx_w (v19 - 97))) 86 5 (gx_w (((gx_u m19 107 (m18 86 32).toNat (gx_w (v19 - 97))) 86 5) + 1))) 86 32).toNat 0)) [((269, .iload_n 2, 1, 0, 0, 0, 0), (0, 0, 0)), ((270, .bipush 93, 2, 0, 0, 0, 0), (0, 0, 0))] (by decide +kernel) rfl ?_
                      refine hx_cmp .ne 298 (by decide +kernel) (fun _ => ?_) (fun _ => ?_)
                      · refine hx_blk (npc := 309) (L' := [(0, .inr (.inl 86)), (1, .inl (m 86 5)), (2, .inl v5)]) (st' := [.inl 1]) (m' := (gx_u (gx_u (gx_u (gx_u m19 107 (m18 86 32).toNat (gx_w (v19 - 97))) 86 5 (gx_w (((gx_u m19 107 (m18 86 32).toNat (gx_w (v19 - 97))) 86 5) + 1))) 108 ((gx_u (gx_u m19 107 (m18 86 32).toNat (gx_w (v19 - 97))) 86 5 (gx_w (((gx_u m19 107 (m18 86 32).toNat (gx_w (v19 - 97))) 86 5) + 1))) 86 32).toNat 0) 86 32 (gx_w (((gx_u (gx_u (gx_u m19 107 (m18 86 32).toNat (gx_w (v19 - 97))) 86 5 (gx_w (((gx_u m19 107 (m18 86 32).toNat (gx_w (v19 - 97))) 86 5) + 1))) 108 ((gx_u (gx_u m19 107 (m18 86 32).toNat (gx_w (v19 - 97))) 86 5 (gx_w (((gx_u m19 107 (m18 86 32).toNat (gx_w (v19 - 97))) 86 5) + 1))) 86 32).toNat 0) 86 32) + 1)))) [((298, .aload_n 0, 1, 0, 0, 0, 0), (0, 0, 0)), ((299, .aload_n 0, 1, 0, 0, 0, 0), (0, 0, 0)), ((300, .getfield 254, 3, 10, 32, 5145, 0), (0, 86, 0)), ((303, .iconst 1, 1, 0, 0, 0, 0), (0, 0, 0)), ((304, .iadd, 1, 0, 0, 0, 0), (0, 0, 0)), ((305, .putfield 254, 3, 10, 32, 5145, 0), (0, 86, 0)), ((308, .iconst 1, 1, 0, 0, 0, 0), (0, 0, 0))] (by decide +kernel) rfl ?_
                        exact hx_reti (by decide +kernel) (hQ _ _ ((((g19.w 107 (by decide)).w 86 (by decide)).w 108 (by decide)).w 86 (by decide)))
                      · refine hx_blk (npc := 277) (L' := [(0, .inr (.inl 86)), (1, .inl (m 86 5)), (2, .inl v5)]) (st' := [.inl 4, .inr (.inl 86)]) (m' := (gx_u (gx_u (gx_u m19 107 (m18 86 32).toNat (gx_w (v19 - 97))) 86 5 (gx_w (((gx_u m19 107 (m18 86 32).toNat (gx_w (v19 - 97))) 86 5) + 1))) 108 ((gx_u (gx_u m19 107 (m18 86 32).toNat (gx_w (v19 - 97))) 86 5 (gx_w (((gx_u m19 107 (m18 86 32).toNat (gx_w (v19 - 97))) 86 5) + 1))) 86 32).toNat 0)) [((275, .aload_n 0, 1, 0, 0, 0, 0), (0, 0, 0)), ((276, .iconst 4, 1, 0, 0, 0, 0), (0, 0, 0))] (by decide +kernel) rfl ?_
                        refine hx_call (E := (277, .invokevirtual 257, 3, 193, 0, 6144, 0)) (M' := yp_m193) [.inr (.inl 86), .inl 4] [] rfl (by decide +kernel) rfl ⟨rfl, rfl⟩ rfl rfl (hF193a (m0 := m0) (((g19.w 107 (by decide)).w 86 (by decide)).w 108 (by decide)) (fun v21 m21 g21 => ?_))
                        show hxn xs n yp_m192 280 [(0, .inr (.inl 86)), (1, .inl (m 86 5)), (2, .inl v5)] [.inl v21] m21 Q
                        refine hx_if .ne 285 (by decide +kernel) (fun _ => ?_) (fun _ => ?_)
                        · refine hx_blk (npc := 309) (L' := [(0, .inr (.inl 86)), (1, .inl (m 86 5)), (2, .inl v5)]) (st' := [.inl 1]) (m' := (gx_u (gx_u m21 108 (m21 86 32).toNat (m21 86 8)) 86 32 (gx_w (((gx_u m21 108 (m21 86 32).toNat (m21 86 8)) 86 32) + 1)))) [((285, .aload_n 0, 1, 0, 0, 0, 0), (0, 0, 0)), ((286, .getfield 74, 3, 10, 31, 5144, 0), (1, 86, 108)), ((289, .aload_n 0, 1, 0, 0, 0, 0), (0, 0, 0)), ((290, .getfield 254, 3, 10, 32, 5145, 0), (0, 86, 0)), ((293, .aload_n 0, 1, 0, 0, 0, 0), (0, 0, 0)), ((294, .getfield 148, 3, 10, 8, 5121, 0), (0, 86, 0)), ((297, .iastore, 1, 0, 0, 0, 0), (0, 108, 0)), ((298, .aload_n 0, 1, 0, 0, 0, 0), (0, 0, 0)), ((299, .aload_n 0, 1, 0, 0, 0, 0), (0, 0, 0)), ((300, .getfield 254, 3, 10, 32, 5145, 0), (0, 86, 0)), ((303, .iconst 1, 1, 0, 0, 0, 0), (0, 0, 0)), ((304, .iadd, 1, 0, 0, 0, 0), (0, 0, 0)), ((305, .putfield 254, 3, 10, 32, 5145, 0), (0, 86, 0)), ((308, .iconst 1, 1, 0, 0, 0, 0), (0, 0, 0))] (by decide +kernel) rfl ?_
                          exact hx_reti (by decide +kernel) (hQ _ _ ((g21.w 108 (by decide)).w 86 (by decide)))
                        · refine hx_blk (npc := 284) (L' := [(0, .inr (.inl 86)), (1, .inl (m 86 5)), (2, .inl v5)]) (st' := [.inl 0]) (m' := m21) [((283, .iconst 0, 1, 0, 0, 0, 0), (0, 0, 0))] (by decide +kernel) rfl ?_
                          exact hx_reti (by decide +kernel) (hQ _ _ g21)
                  · refine hx_blk (npc := 239) (L' := [(0, .inr (.inl 86)), (1, .inl (m 86 5)), (2, .inl v5)]) (st' := [.inl ((gx_u m19 107 (m18 86 32).toNat (gx_w (v19 - 97))) 86 5), .inl 6, .inr (.inl 86)]) (m' := (gx_u m19 107 (m18 86 32).toNat (gx_w (v19 - 97)))) [((232, .aload_n 0, 1, 0, 0, 0, 0), (0, 0, 0)), ((233, .bipush 6, 2, 0, 0, 0, 0), (0, 0, 0)), ((235, .aload_n 0, 1, 0, 0, 0, 0), (0, 0, 0)), ((236, .getfield 132, 3, 10, 5, 5118, 0), (0, 86, 0))] (by decide +kernel) rfl ?_
                    refine hx_call (E := (239, .invokevirtual 145, 3, 172, 0, 6061, 0)) (M' := yp_m172) [.inr (.inl 86), .inl 6, .inl ((gx_u m19 107 (m18 86 32).toNat (gx_w (v19 - 97))) 86 5)] [] rfl (by decide +kernel) rfl ⟨rfl, rfl⟩ rfl rfl (hF172a (m0 := m0) (g19.w 107 (by decide)) (fun v22 m22 g22 => ?_))
                    show hxn xs n yp_m192 242 [(0, .inr (.inl 86)), (1, .inl (m 86 5)), (2, .inl v5)] [.inl v22] m22 Q
                    exact hx_reti (by decide +kernel) (hQ _ _ g22)
                · refine hx_blk (npc := 191) (L' := [(0, .inr (.inl 86)), (1, .inl (m 86 5)), (2, .inl v5)]) (st' := [.inl (m18 86 5), .inl 1, .inr (.inl 86)]) (m' := m18) [((185, .aload_n 0, 1, 0, 0, 0, 0), (0, 0, 0)), ((186, .iconst 1, 1, 0, 0, 0, 0), (0, 0, 0)), ((187, .aload_n 0, 1, 0, 0, 0, 0), (0, 0, 0)), ((188, .getfield 132, 3, 10, 5, 5118, 0), (0, 86, 0))] (by decide +kernel) rfl ?_
                  refine hx_call (E := (191, .invokevirtual 145, 3, 172, 0, 6061, 0)) (M' := yp_m172) [.inr (.inl 86), .inl 1, .inl (m18 86 5)] [] rfl (by decide +kernel) rfl ⟨rfl, rfl⟩ rfl rfl (hF172a (m0 := m0) g18 (fun v23 m23 g23 => ?_))
                  show hxn xs n yp_m192 194 [(0, .inr (.inl 86)), (1, .inl (m 86 5)), (2, .inl v5)] [.inl v23] m23 Q
                  exact hx_reti (by decide +kernel) (hQ _ _ g23)
              · refine hx_blk (npc := 145) (L' := [(0, .inr (.inl 86)), (1, .inl (m 86 5)), (2, .inl v5)]) (st' := [.inl 61, .inl v5]) (m' := m5) [((142, .iload_n 2, 1, 0, 0, 0, 0), (0, 0, 0)), ((143, .bipush 61, 2, 0, 0, 0, 0), (0, 0, 0))] (by decide +kernel) rfl ?_
                refine hx_cmp .eq 158 (by decide +kernel) (fun _ => ?_) (fun _ => ?_)
                · refine hx_blk (npc := 179) (L' := [(0, .inr (.inl 86)), (1, .inl (m 86 5)), (2, .inl v5)]) (st' := [.inr (.inl 86)]) (m' := (gx_u (gx_u m5 106 (m5 86 32).toNat v5) 86 5 (gx_w (((gx_u m5 106 (m5 86 32).toNat v5) 86 5) + 1)))) [((158, .aload_n 0, 1, 0, 0, 0, 0), (0, 0, 0)), ((159, .getfield 68, 3, 10, 29, 5142, 0), (1, 86, 106)), ((162, .aload_n 0, 1, 0, 0, 0, 0), (0, 0, 0)), ((163, .getfield 254, 3, 10, 32, 5145, 0), (0, 86, 0)), ((166, .iload_n 2, 1, 0, 0, 0, 0), (0, 0, 0)), ((167, .iastore, 1, 0, 0, 0, 0), (0, 106, 0)), ((168, .aload_n 0, 1, 0, 0, 0, 0), (0, 0, 0)), ((169, .aload_n 0, 1, 0, 0, 0, 0), (0, 0, 0)), ((170, .getfield 132, 3, 10, 5, 5118, 0), (0, 86, 0)), ((173, .iconst 1, 1, 0, 0, 0, 0), (0, 0, 0)), ((174, .iadd, 1, 0, 0, 0, 0), (0, 0, 0)), ((175, .putfield 132, 3, 10, 5, 5118, 0), (0, 86, 0)), ((178, .aload_n 0, 1, 0, 0, 0, 0), (0, 0, 0))] (by decide +kernel) rfl ?_
                  refine hx_call (E := (179, .invokevirtual 260, 3, 194, 0, 6148, 0)) (M' := yp_m194) [.inr (.inl 86)] [] rfl (by decide +kernel) rfl ⟨rfl, rfl⟩ rfl rfl (hF194a (m0 := m0) ((g5.w 106 (by decide)).w 86 (by decide)) (fun v24 m24 g24 => ?_))
                  show hxn xs n yp_m192 182 [(0, .inr (.inl 86)), (1, .inl (m 86 5)), (2, .inl v5)] [.inl v24] m24 Q
                  refine hx_if .ne 195 (by decide +kernel) (fun _ => ?_) (fun _ => ?_)
                  · refine hx_blk (npc := 204) (L' := [(0, .inr (.inl 86)), (1, .inl (m 86 5)), (2, .inl v5)]) (st' := [.inr (.inl 86), .inl (m24 86 32), .inr (.inl 107)]) (m' := m24) [((195, .aload_n 0, 1, 0, 0, 0, 0), (0, 0, 0)), ((196, .getfield 71, 3, 10, 30, 5143, 0), (1, 86, 107)), ((199, .aload_n 0, 1, 0, 0, 0, 0), (0, 0, 0)), ((200, .getfield 254, 3, 10, 32, 5145, 0), (0, 86, 0)), ((203, .aload_n 0, 1, 0, 0, 0, 0), (0, 0, 0))] (by decide +kernel) rfl ?_
                    refine hx_call (E := (204, .invokevirtual 138, 3, 170, 0, 6054, 0)) (M' := yp_m170) [.inr (.inl 86)] [.inl (m24 86 32), .inr (.inl 107)] rfl (by decide +kernel) rfl ⟨rfl, rfl⟩ rfl rfl (hF170a (m0 := m0) g24 (fun v25 m25 g25 => ?_))
                    show hxn xs n yp_m192 207 [(0, .inr (.inl 86)), (1, .inl (m 86 5)), (2, .inl v5)] [.inl v25, .inl (m24 86 32), .inr (.inl 107)] m25 Q
                    refine hx_blk (npc := 229) (L' := [(0, .inr (.inl 86)), (1, .inl (m 86 5)), (2, .inl v5)]) (st' := [.inl ((gx_u m25 107 (m24 86 32).toNat (gx_w (v25 - 97))) 105 ((gx_u m25 107 (m24 86 32).toNat (gx_w (v25 - 97))) 86 32).toNat), .inl ((gx_u m25 107 (m24 86 32).toNat (gx_w (v25 - 97))) 107 ((gx_u m25 107 (m24 86 32).toNat (gx_w (v25 - 97))) 86 32).toNat)]) (m' := (gx_u m25 107 (m24 86 32).toNat (gx_w (v25 - 97)))) [((207, .bipush 97, 2, 0, 0, 0, 0), (0, 0, 0)), ((209, .isub, 1, 0, 0, 0, 0), (0, 0, 0)), ((210, .iastore, 1, 0, 0, 0, 0), (0, 107, 0)), ((211, .aload_n 0, 1, 0, 0, 0, 0), (0, 0, 0)), ((212, .getfield 71, 3, 10, 30, 5143, 0), (1, 86, 107)), ((215, .aload_n 0, 1, 0, 0, 0, 0), (0, 0, 0)), ((216, .getfield 254, 3, 10, 32, 5145, 0), (0, 86, 0)), ((219, .iaload, 1, 0, 0, 0, 0), (0, 107, 0)), ((220, .aload_n 0, 1, 0, 0, 0, 0), (0, 0, 0)), ((221, .getfield 65, 3, 10, 28, 5141, 0), (1, 86, 105)), ((224, .aload_n 0, 1, 0, 0, 0, 0), (0, 0, 0)), ((225, .getfield 254, 3, 10, 32, 5145, 0), (0, 86, 0)), ((228, .iaload, 1, 0, 0, 0, 0), (0, 105, 0))] (by decide +kernel) rfl ?_
                    refine hx_cmp .ne 243 (by decide +kernel) (fun _ => ?_) (fun _ => ?_)
                    · refine hx_blk (npc := 266) (L' := [(0, .inr (.inl 86)), (1, .inl (m 86 5)), (2, .inl v5)]) (st' := [.inl 62, .inl v5]) (m' := (gx_u (gx_u (gx_u m25 107 (m24 86 32).toNat (gx_w (v25 - 97))) 86 5 (gx_w (((gx_u m25 107 (m24 86 32).toNat (gx_w (v25 - 97))) 86 5) + 1))) 108 ((gx_u (gx_u m25 107 (m24 86 32).toNat (gx_w (v25 - 97))) 86 5 (gx_w (((gx_u m25 107 (m24 86 32).toNat (gx_w (v25 - 97))) 86 5) + 1))) 86 32).toNat 0)) [((243, .aload_n 0, 1, 0, 0, 0, 0), (0, 0, 0)), ((244, .aload_n 0, 1, 0, 0, 0, 0), (0, 0, 0)), ((245, .getfield 132, 3, 10, 5, 5118, 0), (0, 86, 0)), ((248, .iconst 1, 1, 0, 0, 0, 0), (0, 0, 0)), ((249, .iadd, 1, 0, 0, 0, 0), (0, 0, 0)), ((250, .putfield 132, 3, 10, 5, 5118, 0), (0, 86, 0)), ((253, .aload_n 0, 1, 0, 0, 0, 0), (0, 0, 0)), ((254, .getfield 74, 3, 10, 31, 5144, 0), (1, 86, 108)), ((257, .aload_n 0, 1, 0, 0, 0, 0), (0, 0, 0)), ((258, .getfield 254, 3, 10, 32, 5145, 0), (0, 86, 0)), ((261, .iconst 0, 1, 0, 0, 0, 0), (0, 0, 0)), ((262, .iastore, 1, 0, 0, 0, 0), (0, 108, 0)), ((263, .iload_n 2, 1, 0, 0, 0, 0), (0, 0, 0)), ((264, .bipush 62, 2, 0, 0, 0, 0), (0, 0, 0))] (by decide +kernel) rfl ?_
                      refine hx_cmp .eq 275 (by decide +kernel) (fun _ => ?_) (fun _ => ?_)
                      · refine hx_blk (npc := 277) (L' := [(0, .inr (.inl 86)), (1, .inl (m 86 5)), (2, .inl v5)]) (st' := [.inl 4, .inr (.inl 86)]) (m' := (gx_u (gx_u (gx_u m25 107 (m24 86 32).toNat (gx_w (v25 - 97))) 86 5 (gx_w (((gx_u m25 107 (m24 86 32).toNat (gx_w (v25 - 97))) 86 5) + 1))) 108 ((gx_u (gx_u m25 107 (m24 86 32).toNat (gx_w (v25 - 97))) 86 5 (gx_w (((gx_u m25 107 (m24 86 32).toNat (gx_w (v25 - 97))) 86 5) + 1))) 86 32).toNat 0)) [((275, .aload_n 0, 1, 0, 0, 0, 0), (0, 0, 0)), ((276, .iconst 4, 1, 0, 0, 0, 0), (0, 0, 0))] (by decide +kernel) rfl ?_
                        refine hx_call (E := (277, .invokevirtual 257, 3, 193, 0, 6144, 0)) (M' := yp_m193) [.inr (.inl 86), .inl 4] [] rfl (by decide +kernel) rfl ⟨rfl, rfl⟩ rfl rfl (hF193a (m0 := m0) (((g25.w 107 (by decide)).w 86 (by decide)).w 108 (by decide)) (fun v26 m26 g26 => ?_))
                        show hxn xs n yp_m192 280 [(0, .inr (.inl 86)), (1, .inl (m 86 5)), (2, .inl v5)] [.inl v26] m26 Q
                        refine hx_if .ne 285 (by decide +kernel) (fun _ => ?_) (fun _ => ?_)
                        · refine hx_blk (npc := 309) (L' := [(0, .inr (.inl 86)), (1, .inl (m 86 5)), (2, .inl v5)]) (st' := [.inl 1]) (m' := (gx_u (gx_u m26 108 (m26 86 32).toNat (m26 86 8)) 86 32 (gx_w (((gx_u m26 108 (m26 86 32).toNat (m26 86 8)) 86 32) + 1)))) [((285, .aload_n 0, 1, 0, 0, 0, 0), (0, 0, 0)), ((286, .getfield 74, 3, 10, 31, 5144, 0), (1, 86, 108)), ((289, .aload_n 0, 1, 0, 0, 0, 0), (0, 0, 0)), ((290, .getfield 254, 3, 10, 32, 5145, 0), (0, 86, 0)), ((293, .aload_n 0, 1, 0, 0, 0, 0), (0, 0, 0)), ((294, .getfield 148, 3, 10, 8, 5121, 0), (0, 86, 0)), ((297, .iastore, 1, 0, 0, 0, 0), (0, 108, 0)), ((298, .aload_n 0, 1, 0, 0, 0, 0), (0, 0, 0)), ((299, .aload_n 0, 1, 0, 0, 0, 0), (0, 0, 0)), ((300, .getfield 254, 3, 10, 32, 5145, 0), (0, 86, 0)), ((303, .iconst 1, 1, 0, 0, 0, 0), (0, 0, 0)), ((304, .iadd, 1, 0, 0, 0, 0), (0, 0, 0)), ((305, .putfield 254, 3, 10, 32, 5145, 0), (0, 86, 0)), ((308, .iconst 1, 1, 0, 0, 0, 0), (0, 0, 0))] (by decide +kernel) rfl ?_
                          exact hx_reti (by decide +kernel) (hQ _ _ ((g26.w 108 (by decide)).w 86 (by decide)))
                        · refine hx_blk (npc := 284) (L' := [(0, .inr (.inl 86)), (1, .inl (m 86 5)), (2, .inl v5)]) (st' := [.inl 0]) (m' := m26) [((283, .iconst 0, 1, 0, 0, 0, 0), (0, 0, 0))] (by decide +kernel) rfl ?_
                          exact hx_reti (by decide +kernel) (hQ _ _ g26)
                      · refine hx_blk (npc := 272) (L' := [(0, .inr (.inl 86)), (1, .inl (m 86 5)), (2, .inl v5)]) (st' := [.inl 93, .inl v5]) (m' := (gx_u (gx_u (gx_u m25 107 (m24 86 32).toNat (gx_w (v25 - 97))) 86 5 (gx_w (((gx_u m25 107 (m24 86 32).toNat (gx_w (v25 - 97))) 86 5) + 1))) 108 ((gx_u (gx_u m25 107 (m24 86 32).toNat (gx_w (v25 - 97))) 86 5 (gx_w (((gx_u m25 107 (m24 86 32).toNat (gx_w (v25 - 97))) 86 5) + 1))) 86 32).toNat 0)) [((269, .iload_n 2, 1, 0, 0, 0, 0), (0, 0, 0)), ((270, .bipush 93, 2, 0, 0, 0, 0), (0, 0, 0))] (by decide +kernel) rfl ?_
                        refine hx_cmp .ne 298 (by decide +kernel) (fun _ => ?_) (fun _ => ?_)
                        · refine hx_blk (npc := 309) (L' := [(0, .inr (.inl 86)), (1, .inl (m 86 5)), (2, .inl v5)]) (st' := [.inl 1]) (m' := (gx_u (gx_u (gx_u (gx_u m25 107 (m24 86 32).toNat (gx_w (v25 - 97))) 86 5 (gx_w (((gx_u m25 107 (m24 86 32).toNat (gx_w (v25 - 97))) 86 5) + 1))) 108 ((gx_u (gx_u m25 107 (m24 86 32).toNat (gx_w (v25 - 97))) 86 5 (gx_w (((gx_u m25 107 (m24 86 32).toNat (gx_w (v25 - 97))) 86 5) + 1))) 86 32).toNat 0) 86 32 (gx_w (((gx_u (gx_u (gx_u m25 107 (m24 86 32).toNat (gx_w (v25 - 97))) 86 5 (gx_w (((gx_u m25 107 (m24 86 32).toNat (gx_w (v25 - 97))) 86 5) + 1))) 108 ((gx_u (gx_u m25 107 (m24 86 32).toNat (gx_w (v25 - 97))) 86 5 (gx_w (((gx_u m25 107 (m24 86 32).toNat (gx_w (v25 - 97))) 86 5) + 1))) 86 32).toNat 0) 86 32) + 1)))) [((298, .aload_n 0, 1, 0, 0, 0, 0), (0, 0, 0)), ((299, .aload_n 0, 1, 0, 0, 0, 0), (0, 0, 0)), ((300, .getfield 254, 3, 10, 32, 5145, 0), (0, 86, 0)), ((303, .iconst 1, 1, 0, 0, 0, 0), (0, 0, 0)), ((304, .iadd, 1, 0, 0, 0, 0), (0, 0, 0)), ((305, .putfield 254, 3, 10, 32, 5145, 0), (0, 86, 0)), ((308, .iconst 1, 1, 0, 0, 0, 0), (0, 0, 0))] (by decide +kernel) rfl ?_
                          exact hx_reti (by decide +kernel) (hQ _ _ ((((g25.w 107 (by decide)).w 86 (by decide)).w 108 (by decide)).w 86 (by decide)))
                        · refine hx_blk (npc := 277) (L' := [(0, .inr (.inl 86)), (1, .inl (m 86 5)), (2, .inl v5)]) (st' := [.inl 4, .inr (.inl 86)]) (m' := (gx_u (gx_u (gx_u m25 107 (m24 86 32).toNat (gx_w (v25 - 97))) 86 5 (gx_w (((gx_u m25 107 (m24 86 32).toNat (gx_w (v25 - 97))) 86 5) + 1))) 108 ((gx_u (gx_u m25 107 (m24 86 32).toNat (gx_w (v25 - 97))) 86 5 (gx_w (((gx_u m25 107 (m24 86 32).toNat (gx_w (v25 - 97))) 86 5) + 1))) 86 32).toNat 0)) [((275, .aload_n 0, 1, 0, 0, 0, 0), (0, 0, 0)), ((276, .iconst 4, 1, 0, 0, 0, 0), (0, 0, 0))] (by decide +kernel) rfl ?_
                          refine hx_call (E := (277, .invokevirtual 257, 3, 193, 0, 6144, 0)) (M' := yp_m193) [.inr (.inl 86), .inl 4] [] rfl (by decide +kernel) rfl ⟨rfl, rfl⟩ rfl rfl (hF193a (m0 := m0) (((g25.w 107 (by decide)).w 86 (by decide)).w 108 (by decide)) (fun v27 m27 g27 => ?_))
                          show hxn xs n yp_m192 280 [(0, .inr (.inl 86)), (1, .inl (m 86 5)), (2, .inl v5)] [.inl v27] m27 Q
                          refine hx_if .ne 285 (by decide +kernel) (fun _ => ?_) (fun _ => ?_)
                          · refine hx_blk (npc := 309) (L' := [(0, .inr (.inl 86)), (1, .inl (m 86 5)), (2, .inl v5)]) (st' := [.inl 1]) (m' := (gx_u (gx_u m27 108 (m27 86 32).toNat (m27 86 8)) 86 32 (gx_w (((gx_u m27 108 (m27 86 32).toNat (m27 86 8)) 86 32) + 1)))) [((285, .aload_n 0, 1, 0, 0, 0, 0), (0, 0, 0)), ((286, .getfield 74, 3, 10, 31, 5144, 0), (1, 86, 108)), ((289, .aload_n 0, 1, 0, 0, 0, 0), (0, 0, 0)), ((290, .getfield 254, 3, 10, 32, 5145, 0), (0, 86, 0)), ((293, .aload_n 0, 1, 0, 0, 0, 0), (0, 0, 0)), ((294, .getfield 148, 3, 10, 8, 5121, 0), (0, 86, 0)), ((297, .iastore, 1, 0, 0, 0, 0), (0, 108, 0)), ((298, .aload_n 0, 1, 0, 0, 0, 0), (0, 0, 0)), ((299, .aload_n 0, 1, 0, 0, 0, 0), (0, 0, 0)), ((300, .getfield 254, 3, 10, 32, 5145, 0), (0, 86, 0)), ((303, .iconst 1, 1, 0, 0, 0, 0), (0, 0, 0)), ((304, .iadd, 1, 0, 0, 0, 0), (0, 0, 0)), ((305, .putfield 254, 3, 10, 32, 5145, 0), (0, 86, 0)), ((308, .iconst 1, 1, 0, 0, 0, 0), (0, 0, 0))] (by decide +kernel) rfl ?_
                            exact hx_reti (by decide +kernel) (hQ _ _ ((g27.w 108 (by decide)).w 86 (by decide)))
                          · refine hx_blk (npc := 284) (L' := [(0, .inr (.inl 86)), (1, .inl (m 86 5)), (2, .inl v5)]) (st' := [.inl 0]) (m' := m27) [((283, .iconst 0, 1, 0, 0, 0, 0), (0, 0, 0))] (by decide +kernel) rfl ?_
                            exact hx_reti (by decide +kernel) (hQ _ _ g27)
                    · refine hx_blk (npc := 239) (L' := [(0, .inr (.inl 86)), (1, .inl (m 86 5)), (2, .inl v5)]) (st' := [.inl ((gx_u m25 107 (m24 86 32).toNat (gx_w (v25 - 97))) 86 5), .inl 6, .inr (.inl 86)]) (m' := (gx_u m25 107 (m24 86 32).toNat (gx_w (v25 - 97)))) [((232, .aload_n 0, 1, 0, 0, 0, 0), (0, 0, 0)), ((233, .bipush 6, 2, 0, 0, 0, 0), (0, 0, 0)), ((235, .aload_n 0, 1, 0, 0, 0, 0), (0, 0, 0)), ((236, .getfield 132, 3, 10, 5, 5118, 0), (0, 86, 0))] (by decide +kernel) rfl ?_
                      refine hx_call (E := (239, .invokevirtual 145, 3, 172, 0, 6061, 0)) (M' := yp_m172) [.inr (.inl 86), .inl 6, .inl ((gx_u m25 107 (m24 86 32).toNat (gx_w (v25 - 97))) 86 5)] [] rfl (by decide +kernel) rfl ⟨rfl, rfl⟩ rfl rfl (hF172a (m0 := m0) (g25.w 107 (by decide)) (fun v28 m28 g28 => ?_))
                      show hxn xs n yp_m192 242 [(0, .inr (.inl 86)), (1, .inl (m 86 5)), (2, .inl v5)] [.inl v28] m28 Q
                      exact hx_reti (by decide +kernel) (hQ _ _ g28)
                  · refine hx_blk (npc := 191) (L' := [(0, .inr (.inl 86)), (1, .inl (m 86 5)), (2, .inl v5)]) (st' := [.inl (m24 86 5), .inl 1, .inr (.inl 86)]) (m' := m24) [((185, .aload_n 0, 1, 0, 0, 0, 0), (0, 0, 0)), ((186, .iconst 1, 1, 0, 0, 0, 0), (0, 0, 0)), ((187, .aload_n 0, 1, 0, 0, 0, 0), (0, 0, 0)), ((188, .getfield 132, 3, 10, 5, 5118, 0), (0, 86, 0))] (by decide +kernel) rfl ?_
                    refine hx_call (E := (191, .invokevirtual 145, 3, 172, 0, 6061, 0)) (M' := yp_m172) [.inr (.inl 86), .inl 1, .inl (m24 86 5)] [] rfl (by decide +kernel) rfl ⟨rfl, rfl⟩ rfl rfl (hF172a (m0 := m0) g24 (fun v29 m29 g29 => ?_))
                    show hxn xs n yp_m192 194 [(0, .inr (.inl 86)), (1, .inl (m 86 5)), (2, .inl v5)] [.inl v29] m29 Q
                    exact hx_reti (by decide +kernel) (hQ _ _ g29)
                · refine hx_blk (npc := 154) (L' := [(0, .inr (.inl 86)), (1, .inl (m 86 5)), (2, .inl v5)]) (st' := [.inl (m5 86 5), .inl 1, .inr (.inl 86)]) (m' := m5) [((148, .aload_n 0, 1, 0, 0, 0, 0), (0, 0, 0)), ((149, .iconst 1, 1, 0, 0, 0, 0), (0, 0, 0)), ((150, .aload_n 0, 1, 0, 0, 0, 0), (0, 0, 0)), ((151, .getfield 132, 3, 10, 5, 5118, 0), (0, 86, 0))] (by decide +kernel) rfl ?_
                  refine hx_call (E := (154, .invokevirtual 145, 3, 172, 0, 6061, 0)) (M' := yp_m172) [.inr (.inl 86), .inl 1, .inl (m5 86 5)] [] rfl (by decide +kernel) rfl ⟨rfl, rfl⟩ rfl rfl (hF172a (m0 := m0) g5 (fun v30 m30 g30 => ?_))
                  show hxn xs n yp_m192 157 [(0, .inr (.inl 86)), (1, .inl (m 86 5)), (2, .inl v5)] [.inl v30] m30 Q
                  exact hx_reti (by decide +kernel) (hQ _ _ g30)
        · refine hx_blk (npc := 89) (L' := [(0, .inr (.inl 86)), (1, .inl (m 86 5))]) (st' := [.inl (m3 86 5), .inl 1, .inr (.inl 86)]) (m' := m3) [((83, .aload_n 0, 1, 0, 0, 0, 0), (0, 0, 0)), ((84, .iconst 1, 1, 0, 0, 0, 0), (0, 0, 0)), ((85, .aload_n 0, 1, 0, 0, 0, 0), (0, 0, 0)), ((86, .getfield 132, 3, 10, 5, 5118, 0), (0, 86, 0))] (by decide +kernel) rfl ?_
          refine hx_call (E := (89, .invokevirtual 145, 3, 172, 0, 6061, 0)) (M' := yp_m172) [.inr (.inl 86), .inl 1, .inl (m3 86 5)] [] rfl (by decide +kernel) rfl ⟨rfl, rfl⟩ rfl rfl (hF172a (m0 := m0) g3 (fun v31 m31 g31 => ?_))
          show hxn xs n yp_m192 92 [(0, .inr (.inl 86)), (1, .inl (m 86 5))] [.inl v31] m31 Q
          exact hx_reti (by decide +kernel) (hQ _ _ g31)
      · refine hx_blk (npc := 59) (L' := [(0, .inr (.inl 86)), (1, .inl (m 86 5))]) (st' := [.inl (m 86 5), .inl 3, .inr (.inl 86)]) (m' := m2) [((56, .aload_n 0, 1, 0, 0, 0, 0), (0, 0, 0)), ((57, .iconst 3, 1, 0, 0, 0, 0), (0, 0, 0)), ((58, .iload_n 1, 1, 0, 0, 0, 0), (0, 0, 0))] (by decide +kernel) rfl ?_
        refine hx_call (E := (59, .invokevirtual 145, 3, 172, 0, 6061, 0)) (M' := yp_m172) [.inr (.inl 86), .inl 3, .inl (m 86 5)] [] rfl (by decide +kernel) rfl ⟨rfl, rfl⟩ rfl rfl (hF172a (m0 := m0) g2 (fun v32 m32 g32 => ?_))
        show hxn xs n yp_m192 62 [(0, .inr (.inl 86)), (1, .inl (m 86 5))] [.inl v32] m32 Q
        exact hx_reti (by decide +kernel) (hQ _ _ g32)
    · refine hx_blk (npc := 37) (L' := [(0, .inr (.inl 86)), (1, .inl (m 86 5))]) (st' := [.inl (m1 86 5), .inl 4, .inr (.inl 86)]) (m' := m1) [((31, .aload_n 0, 1, 0, 0, 0, 0), (0, 0, 0)), ((32, .iconst 4, 1, 0, 0, 0, 0), (0, 0, 0)), ((33, .aload_n 0, 1, 0, 0, 0, 0), (0, 0, 0)), ((34, .getfield 132, 3, 10, 5, 5118, 0), (0, 86, 0))] (by decide +kernel) rfl ?_
      refine hx_call (E := (37, .invokevirtual 145, 3, 172, 0, 6061, 0)) (M' := yp_m172) [.inr (.inl 86), .inl 4, .inl (m1 86 5)] [] rfl (by decide +kernel) rfl ⟨rfl, rfl⟩ rfl rfl (hF172a (m0 := m0) g1 (fun v33 m33 g33 => ?_))
      show hxn xs n yp_m192 40 [(0, .inr (.inl 86)), (1, .inl (m 86 5))] [.inl v33] m33 Q
      exact hx_reti (by decide +kernel) (hQ _ _ g33)
  · refine hx_blk (npc := 18) (L' := [(0, .inr (.inl 86)), (1, .inl (m 86 5))]) (st' := [.inl (m1 86 5), .inl 1, .inr (.inl 86)]) (m' := m1) [((12, .aload_n 0, 1, 0, 0, 0, 0), (0, 0, 0)), ((13, .iconst 1, 1, 0, 0, 0, 0), (0, 0, 0)), ((14, .aload_n 0, 1, 0, 0, 0, 0), (0, 0, 0)), ((15, .getfield 132, 3, 10, 5, 5118, 0), (0, 86, 0))] (by decide +kernel) rfl ?_
    refine hx_call (E := (18, .invokevirtual 145, 3, 172, 0, 6061, 0)) (M' := yp_m172) [.inr (.inl 86), .inl 1, .inl (m1 86 5)] [] rfl (by decide +kernel) rfl ⟨rfl, rfl⟩ rfl rfl (hF172a (m0 := m0) g1 (fun v34 m34 g34 => ?_))
    show hxn xs n yp_m192 21 [(0, .inr (.inl 86)), (1, .inl (m 86 5))] [.inl v34] m34 Q
    exact hx_reti (by decide +kernel) (hQ _ _ g34)
theorem hF189a {xs : List Int32} {n : Nat} {Q : hQ} {m0 m : gx_M} {x1 : Int} (g : hFr hFa m0 m) (hQ : ∀ v m', hFr hFa m0 m' → Q (some (.inl v)) m') : hxn xs n yp_m189 0 [(0, .inr (.inl 86)), (1, .inl x1)] [] m Q := by
  refine hx_dn ?_
  refine hx_blks (npc := 1) (L' := [(0, .inr (.inl 86)), (1, .inl x1)]) (st' := [.inr (.inl 86)]) (m' := m) ((0, .aload_n 0, 1, 0, 0, 0, 0), (0, 0, 0)) [] (by decide +kernel) rfl ?_
  refine hx_call (E := (1, .invokevirtual 138, 3, 170, 0, 6054, 0)) (M' := yp_m170) [.inr (.inl 86)] [] rfl (by decide +kernel) rfl ⟨rfl, rfl⟩ rfl rfl (hF170a (m0 := m0) g (fun v1 m1 g1 => ?_))
  show hxn xs n yp_m189 4 [(0, .inr (.inl 86)), (1, .inl x1)] [.inl v1] m1 Q
  refine hx_blk (npc := 5) (L' := [(0, .inr (.inl 86)), (1, .inl x1)]) (st' := [.inl x1, .inl v1]) (m' := m1) [((4, .iload_n 1, 1, 0, 0, 0, 0), (0, 0, 0))] (by decide +kernel) rfl ?_
  refine hx_cmp .eq 18 (by decide +kernel) (fun _ => ?_) (fun _ => ?_)
  · refine hx_blk (npc := 29) (L' := [(0, .inr (.inl 86)), (1, .inl x1)]) (st' := [.inl 1]) (m' := (gx_u m1 86 5 (gx_w ((m1 86 5) + 1)))) [((18, .aload_n 0, 1, 0, 0, 0, 0), (0, 0, 0)), ((19, .aload_n 0, 1, 0, 0, 0, 0), (0, 0, 0)), ((20, .getfield 132, 3, 10, 5, 5118, 0), (0, 86, 0)), ((23, .iconst 1, 1, 0, 0, 0, 0), (0, 0, 0)), ((24, .iadd, 1, 0, 0, 0, 0), (0, 0, 0)), ((25, .putfield 132, 3, 10, 5, 5118, 0), (0, 86, 0)), ((28, .iconst 1, 1, 0, 0, 0, 0), (0, 0, 0))] (by decide +kernel) rfl ?_
    exact hx_reti (by decide +kernel) (hQ _ _ (g1.w 86 (by decide)))
  · refine hx_blk (npc := 14) (L' := [(0, .inr (.inl 86)), (1, .inl x1)]) (st' := [.inl (m1 86 5), .inl 1, .inr (.inl 86)]) (m' := m1) [((8, .aload_n 0, 1, 0, 0, 0, 0), (0, 0, 0)), ((9, .iconst 1, 1, 0, 0, 0, 0), (0, 0, 0)), ((10, .aload_n 0, 1, 0, 0, 0, 0), (0, 0, 0)), ((11, .getfield 132, 3, 10, 5, 5118, 0), (0, 86, 0))] (by decide +kernel) rfl ?_
    refine hx_call (E := (14, .invokevirtual 145, 3, 172, 0, 6061, 0)) (M' := yp_m172) [.inr (.inl 86), .inl 1, .inl (m1 86 5)] [] rfl (by decide +kernel) rfl ⟨rfl, rfl⟩ rfl rfl (hF172a (m0 := m0) g1 (fun v2 m2 g2 => ?_))
    show hxn xs n yp_m189 17 [(0, .inr (.inl 86)), (1, .inl x1)] [.inl v2] m2 Q
    exact hx_reti (by decide +kernel) (hQ _ _ g2)
theorem hF191al {xs : List Int32} {Q : hQ} {m0 : gx_M} (hQ : ∀ v m', hFr hFa m0 m' → Q (some (.inl v)) m') : ∀ n : Nat, (∀ (x2 : Int) (m : gx_M), hFr hFa m0 m → hxn xs n yp_m191 20 [(0, .inr (.inl 86)), (2, .inl x2)] [] m Q) := by
  intro n
  induction n with
  | zero => exact fun _ _ _ => hx_0
  | succ n ih =>
    intro x2 m g
    refine hx_blks (npc := 21) (L' := [(0, .inr (.inl 86)), (2, .inl x2)]) (st' := [.inl x2]) (m' := m) ((20, .iload_n 2, 1, 0, 0, 0, 0), (0, 0, 0)) [] (by decide +kernel) rfl ?_
    refine hx_if .eq 60 (by decide +kernel) (fun _ => ?_) (fun _ => ?_)
    · refine hx_blk (npc := 66) (L' := [(0, .inr (.inl 86)), (2, .inl x2)]) (st' := [.inl x2]) (m' := (gx_u m 86 4 0)) [((60, .aload_n 0, 1, 0, 0, 0, 0), (0, 0, 0)), ((61, .iconst 0, 1, 0, 0, 0, 0), (0, 0, 0)), ((62, .putfield 124, 3, 10, 4, 5117, 0), (0, 86, 0)), ((65, .iload_n 2, 1, 0, 0, 0, 0), (0, 0, 0))] (by decide +kernel) rfl ?_
      exact hx_reti (by decide +kernel) (hQ _ _ (g.w 86 (by decide)))
    · refine hx_blk (npc := 32) (L' := [(0, .inr (.inl 86)), (2, .inl x2)]) (st' := [.inl (m 86 6), .inl (m 86 5)]) (m' := m) [((24, .aload_n 0, 1, 0, 0, 0, 0), (0, 0, 0)), ((25, .getfield 132, 3, 10, 5, 5118, 0), (0, 86, 0)), ((28, .aload_n 0, 1, 0, 0, 0, 0), (0, 0, 0)), ((29, .getfield 135, 3, 10, 6, 5119, 0), (0, 86, 0))] (by decide +kernel) rfl ?_
      refine hx_cmp .ge 60 (by decide +kernel) (fun _ => ?_) (fun _ => ?_)
      · refine hx_blk (npc := 66) (L' := [(0, .inr (.inl 86)), (2, .inl x2)]) (st' := [.inl x2]) (m' := (gx_u m 86 4 0)) [((60, .aload_n 0, 1, 0, 0, 0, 0), (0, 0, 0)), ((61, .iconst 0, 1, 0, 0, 0, 0), (0, 0, 0)), ((62, .putfield 124, 3, 10, 4, 5117, 0), (0, 86, 0)), ((65, .iload_n 2, 1, 0, 0, 0, 0), (0, 0, 0))] (by decide +kernel) rfl ?_
        exact hx_reti (by decide +kernel) (hQ _ _ (g.w 86 (by decide)))
      · refine hx_blk (npc := 38) (L' := [(0, .inr (.inl 86)), (2, .inl x2)]) (st' := [.inl 59, .inr (.inl 86)]) (m' := m) [((35, .aload_n 0, 1, 0, 0, 0, 0), (0, 0, 0)), ((36, .bipush 59, 2, 0, 0, 0, 0), (0, 0, 0))] (by decide +kernel) rfl ?_
        refine hx_call (E := (38, .invokevirtual 222, 3, 189, 0, 6128, 0)) (M' := yp_m189) [.inr (.inl 86), .inl 59] [] rfl (by decide +kernel) rfl ⟨rfl, rfl⟩ rfl rfl (hF189a (m0 := m0) g (fun v1 m1 g1 => ?_))
        show hxn xs n yp_m191 41 [(0, .inr (.inl 86)), (2, .inl x2)] [.inl v1] m1 Q
        refine hx_if .eq 55 (by decide +kernel) (fun _ => ?_) (fun _ => ?_)
        · refine hx_blk (npc := 20) (L' := [(0, .inr (.inl 86)), (2, .inl 0)]) (st' := []) (m' := m1) [((55, .iconst 0, 1, 0, 0, 0, 0), (0, 0, 0)), ((56, .istore_n 2, 1, 0, 0, 0, 0), (0, 0, 0)), ((57, .goto (-37), 3, 0, 0, 0, 0), (0, 0, 0))] (by decide +kernel) rfl ?_
          exact hx_pick [0, 2] (ih 0 m1 g1)
        · refine hx_blk (npc := 45) (L' := [(0, .inr (.inl 86)), (2, .inl x2)]) (st' := [.inr (.inl 86)]) (m' := m1) [((44, .aload_n 0, 1, 0, 0, 0, 0), (0, 0, 0))] (by decide +kernel) rfl ?_
          refine hx_call (E := (45, .invokevirtual 263, 3, 192, 0, 6140, 0)) (M' := yp_m192) [.inr (.inl 86)] [] rfl (by decide +kernel) rfl ⟨rfl, rfl⟩ rfl rfl (hF192a (m0 := m0) g1 (fun v2 m2 g2 => ?_))
          show hxn xs n yp_m191 48 [(0, .inr (.inl 86)), (2, .inl x2)] [.inl v2] m2 Q
          refine hx_if .eq 55 (by decide +kernel) (fun _ => ?_) (fun _ => ?_)
          · refine hx_blk (npc := 20) (L' := [(0, .inr (.inl 86)), (2, .inl 0)]) (st' := []) (m' := m2) [((55, .iconst 0, 1, 0, 0, 0, 0), (0, 0, 0)), ((56, .istore_n 2, 1, 0, 0, 0, 0), (0, 0, 0)), ((57, .goto (-37), 3, 0, 0, 0, 0), (0, 0, 0))] (by decide +kernel) rfl ?_
            exact hx_pick [0, 2] (ih 0 m2 g2)
          · refine hx_blk (npc := 20) (L' := [(0, .inr (.inl 86)), (2, .inl 1)]) (st' := []) (m' := m2) [((51, .iconst 1, 1, 0, 0, 0, 0), (0, 0, 0)), ((52, .goto 4, 3, 0, 0, 0, 0), (0, 0, 0)), ((56, .istore_n 2, 1, 0, 0, 0, 0), (0, 0, 0)), ((57, .goto (-37), 3, 0, 0, 0, 0), (0, 0, 0))] (by decide +kernel) rfl ?_
            exact hx_pick [0, 2] (ih 1 m2 g2)
theorem hF191a {xs : List Int32} {n : Nat} {Q : hQ} {m0 m : gx_M} {x1 : Int} (g : hFr hFa m0 m) (hQ : ∀ v m', hFr hFa m0 m' → Q (some (.inl v)) m') : hxn xs n yp_m191 0 [(0, .inr (.inl 86)), (1, .inl x1)] [] m Q := by
  refine hx_dn ?_
  refine hx_blks (npc := 16) (L' := [(0, .inr (.inl 86)), (1, .inl x1)]) (st' := [.inr (.inl 86)]) (m' := (gx_u (gx_u (gx_u m 86 5 0) 86 6 x1) 86 32 0)) ((0, .aload_n 0, 1, 0, 0, 0, 0), (0, 0, 0)) [((1, .iconst 0, 1, 0, 0, 0, 0), (0, 0, 0)), ((2, .putfield 132, 3, 10, 5, 5118, 0), (0, 86, 0)), ((5, .aload_n 0, 1, 0, 0, 0, 0), (0, 0, 0)), ((6, .iload_n 1, 1, 0, 0, 0, 0), (0, 0, 0)), ((7, .putfield 135, 3, 10, 6, 5119, 0), (0, 86, 0)), ((10, .aload_n 0, 1, 0, 0, 0, 0), (0, 0, 0)), ((11, .iconst 0, 1, 0, 0, 0, 0), (0, 0, 0)), ((12, .putfield 254, 3, 10, 32, 5145, 0), (0, 86, 0)), ((15, .aload_n 0, 1, 0, 0, 0, 0), (0, 0, 0))] (by decide +kernel) rfl ?_
  refine hx_call (E := (16, .invokevirtual 263, 3, 192, 0, 6140, 0)) (M' := yp_m192) [.inr (.inl 86)] [] rfl (by decide +kernel) rfl ⟨rfl, rfl⟩ rfl rfl (hF192a (m0 := m0) (((g.w 86 (by decide)).w 86 (by decide)).w 86 (by decide)) (fun v1 m1 g1 => ?_))
  show hxn xs n yp_m191 19 [(0, .inr (.inl 86)), (1, .inl x1)] [.inl v1] m1 Q
  refine hx_blk (npc := 20) (L' := [(0, .inr (.inl 86)), (1, .inl x1), (2, .inl v1)]) (st' := []) (m' := m1) [((19, .istore_n 2, 1, 0, 0, 0, 0), (0, 0, 0))] (by decide +kernel) rfl ?_
  exact hx_pick [0, 2] ((hF191al (xs := xs) hQ n) v1 m1 g1)
def hFg : List Nat := [86, 87, 102, 103]
theorem hF196g {xs : List Int32} {n : Nat} {Q : hQ} {m0 m : gx_M} {x1 : Int} (g : hFr hFg m0 m) (hQ : ∀ v m', hFr hFg m0 m' → Q (some (.inl v)) m') : hxn xs n yp_m196 0 [(0, .inr (.inl 86)), (1, .inl x1)] [] m Q := by
  refine hx_dn ?_
  refine hx_blks (npc := 1) (L' := [(0, .inr (.inl 86)), (1, .inl x1)]) (st' := [.inl x1]) (m' := m) ((0, .iload_n 1, 1, 0, 0, 0, 0), (0, 0, 0)) [] (by decide +kernel) rfl ?_
  refine hx_if .lt 28 (by decide +kernel) (fun _ => ?_) (fun _ => ?_)
  · refine hx_blk (npc := 29) (L' := [(0, .inr (.inl 86)), (1, .inl x1)]) (st' := [.inl 0]) (m' := m) [((28, .iconst 0, 1, 0, 0, 0, 0), (0, 0, 0))] (by decide +kernel) rfl ?_
    exact hx_reti (by decide +kernel) (hQ _ _ g)
  · refine hx_blk (npc := 7) (L' := [(0, .inr (.inl 86)), (1, .inl x1)]) (st' := [.inl 40, .inl x1]) (m' := m) [((4, .iload_n 1, 1, 0, 0, 0, 0), (0, 0, 0)), ((5, .bipush 40, 2, 0, 0, 0, 0), (0, 0, 0))] (by decide +kernel) rfl ?_
    refine hx_cmp .ge 28 (by decide +kernel) (fun _ => ?_) (fun _ => ?_)
    · refine hx_blk (npc := 29) (L' := [(0, .inr (.inl 86)), (1, .inl x1)]) (st' := [.inl 0]) (m' := m) [((28, .iconst 0, 1, 0, 0, 0, 0), (0, 0, 0))] (by decide +kernel) rfl ?_
      exact hx_reti (by decide +kernel) (hQ _ _ g)
    · refine hx_blk (npc := 21) (L' := [(0, .inr (.inl 86)), (1, .inl x1)]) (st' := [.inl 1, .inl (m 87 (gx_w (440 + x1)).toNat)]) (m' := m) [((10, .aload_n 0, 1, 0, 0, 0, 0), (0, 0, 0)), ((11, .getfield 7, 3, 10, 0, 5113, 0), (1, 86, 87)), ((14, .sipush 440, 3, 0, 0, 0, 0), (0, 0, 0)), ((17, .iload_n 1, 1, 0, 0, 0, 0), (0, 0, 0)), ((18, .iadd, 1, 0, 0, 0, 0), (0, 0, 0)), ((19, .iaload, 1, 0, 0, 0, 0), (0, 87, 0)), ((20, .iconst 1, 1, 0, 0, 0, 0), (0, 0, 0))] (by decide +kernel) rfl ?_
      refine hx_cmp .ne 28 (by decide +kernel) (fun _ => ?_) (fun _ => ?_)
      · refine hx_blk (npc := 29) (L' := [(0, .inr (.inl 86)), (1, .inl x1)]) (st' := [.inl 0]) (m' := m) [((28, .iconst 0, 1, 0, 0, 0, 0), (0, 0, 0))] (by decide +kernel) rfl ?_
        exact hx_reti (by decide +kernel) (hQ _ _ g)
      · refine hx_blk (npc := 29) (L' := [(0, .inr (.inl 86)), (1, .inl x1)]) (st' := [.inl 1]) (m' := m) [((24, .iconst 1, 1, 0, 0, 0, 0), (0, 0, 0)), ((25, .goto 4, 3, 0, 0, 0, 0), (0, 0, 0))] (by decide +kernel) rfl ?_
        exact hx_reti (by decide +kernel) (hQ _ _ g)
theorem hF200g {xs : List Int32} {n : Nat} {Q : hQ} {m0 m : gx_M} {x1 : Int} (g : hFr hFg m0 m) (hQ : ∀ v m', hFr hFg m0 m' → Q (some (.inl v)) m') : hxn xs n yp_m200 0 [(0, .inr (.inl 86)), (1, .inl x1)] [] m Q := by
  refine hx_dn ?_
  refine hx_blks (npc := 10) (L' := [(0, .inr (.inl 86)), (1, .inl x1)]) (st' := [.inl (m 87 (gx_w (280 + x1)).toNat)]) (m' := m) ((0, .aload_n 0, 1, 0, 0, 0, 0), (0, 0, 0)) [((1, .getfield 7, 3, 10, 0, 5113, 0), (1, 86, 87)), ((4, .sipush 280, 3, 0, 0, 0, 0), (0, 0, 0)), ((7, .iload_n 1, 1, 0, 0, 0, 0), (0, 0, 0)), ((8, .iadd, 1, 0, 0, 0, 0), (0, 0, 0)), ((9, .iaload, 1, 0, 0, 0, 0), (0, 87, 0))] (by decide +kernel) rfl ?_
  refine hx_if .lt 17 (by decide +kernel) (fun _ => ?_) (fun _ => ?_)
  · refine hx_blk (npc := 18) (L' := [(0, .inr (.inl 86)), (1, .inl x1)]) (st' := [.inl 0]) (m' := m) [((17, .iconst 0, 1, 0, 0, 0, 0), (0, 0, 0))] (by decide +kernel) rfl ?_
    exact hx_reti (by decide +kernel) (hQ _ _ g)
  · refine hx_blk (npc := 18) (L' := [(0, .inr (.inl 86)), (1, .inl x1)]) (st' := [.inl 1]) (m' := m) [((13, .iconst 1, 1, 0, 0, 0, 0), (0, 0, 0)), ((14, .goto 4, 3, 0, 0, 0, 0), (0, 0, 0))] (by decide +kernel) rfl ?_
    exact hx_reti (by decide +kernel) (hQ _ _ g)
theorem hF205g {xs : List Int32} {n : Nat} {Q : hQ} {m0 m : gx_M} {x1 x2 : Int} (g : hFr hFg m0 m) (hQ : ∀ v m', hFr hFg m0 m' → Q (some (.inl v)) m') : hxn xs n yp_m205 0 [(0, .inr (.inl 86)), (1, .inl x1), (2, .inl x2)] [] m Q := by
  refine hx_dn ?_
  refine hx_blks (npc := 10) (L' := [(0, .inr (.inl 86)), (1, .inl x1), (2, .inl x2)]) (st' := [.inl (m 87 (gx_w (440 + x1)).toNat)]) (m' := m) ((0, .aload_n 0, 1, 0, 0, 0, 0), (0, 0, 0)) [((1, .getfield 7, 3, 10, 0, 5113, 0), (1, 86, 87)), ((4, .sipush 440, 3, 0, 0, 0, 0), (0, 0, 0)), ((7, .iload_n 1, 1, 0, 0, 0, 0), (0, 0, 0)), ((8, .iadd, 1, 0, 0, 0, 0), (0, 0, 0)), ((9, .iaload, 1, 0, 0, 0, 0), (0, 87, 0))] (by decide +kernel) rfl ?_
  refine hx_if .ne 15 (by decide +kernel) (fun _ => ?_) (fun _ => ?_)
  · refine hx_blk (npc := 26) (L' := [(0, .inr (.inl 86)), (1, .inl x1), (2, .inl x2)]) (st' := [.inl x2, .inl (m 87 (gx_w (240 + x1)).toNat)]) (m' := m) [((15, .aload_n 0, 1, 0, 0, 0, 0), (0, 0, 0)), ((16, .getfield 7, 3, 10, 0, 5113, 0), (1, 86, 87)), ((19, .sipush 240, 3, 0, 0, 0, 0), (0, 0, 0)), ((22, .iload_n 1, 1, 0, 0, 0, 0), (0, 0, 0)), ((23, .iadd, 1, 0, 0, 0, 0), (0, 0, 0)), ((24, .iaload, 1, 0, 0, 0, 0), (0, 87, 0)), ((25, .iload_n 2, 1, 0, 0, 0, 0), (0, 0, 0))] (by decide +kernel) rfl ?_
    refine hx_cmp .ne 33 (by decide +kernel) (fun _ => ?_) (fun _ => ?_)
    · refine hx_blk (npc := 34) (L' := [(0, .inr (.inl 86)), (1, .inl x1), (2, .inl x2)]) (st' := [.inl 0]) (m' := m) [((33, .iconst 0, 1, 0, 0, 0, 0), (0, 0, 0))] (by decide +kernel) rfl ?_
      exact hx_reti (by decide +kernel) (hQ _ _ g)
    · refine hx_blk (npc := 34) (L' := [(0, .inr (.inl 86)), (1, .inl x1), (2, .inl x2)]) (st' := [.inl 1]) (m' := m) [((29, .iconst 1, 1, 0, 0, 0, 0), (0, 0, 0)), ((30, .goto 4, 3, 0, 0, 0, 0), (0, 0, 0))] (by decide +kernel) rfl ?_
      exact hx_reti (by decide +kernel) (hQ _ _ g)
  · refine hx_blk (npc := 14) (L' := [(0, .inr (.inl 86)), (1, .inl x1), (2, .inl x2)]) (st' := [.inl 0]) (m' := m) [((13, .iconst 0, 1, 0, 0, 0, 0), (0, 0, 0))] (by decide +kernel) rfl ?_
    exact hx_reti (by decide +kernel) (hQ _ _ g)
theorem hF204gl {xs : List Int32} {Q : hQ} {m0 : gx_M} (hQ : ∀ v m', hFr hFg m0 m' → Q (some (.inl v)) m') : ∀ n : Nat, (∀ (x1 x2 x3 : Int) (m : gx_M), hFr hFg m0 m → hxn xs n yp_m204 4 [(0, .inr (.inl 86)), (1, .inl x1), (2, .inl x2), (3, .inl x3)] [] m Q) := by
  intro n
  induction n with
  | zero => exact fun _ _ _ _ _ => hx_0
  | succ n ih =>
    intro x1 x2 x3 m g
    refine hx_blks (npc := 7) (L' := [(0, .inr (.inl 86)), (1, .inl x1), (2, .inl x2), (3, .inl x3)]) (st' := [.inl 40, .inl x3]) (m' := m) ((4, .iload_n 3, 1, 0, 0, 0, 0), (0, 0, 0)) [((5, .bipush 40, 2, 0, 0, 0, 0), (0, 0, 0))] (by decide +kernel) rfl ?_
    refine hx_cmp .ge 33 (by decide +kernel) (fun _ => ?_) (fun _ => ?_)
    · refine hx_blk (npc := 34) (L' := [(0, .inr (.inl 86)), (1, .inl x1), (2, .inl x2), (3, .inl x3)]) (st' := [.inl x2]) (m' := m) [((33, .iload_n 2, 1, 0, 0, 0, 0), (0, 0, 0))] (by decide +kernel) rfl ?_
      exact hx_reti (by decide +kernel) (hQ _ _ g)
    · refine hx_blk (npc := 14) (L' := [(0, .inr (.inl 86)), (1, .inl x1), (2, .inl x2), (3, .inl x3)]) (st' := [.inl x1, .inl x3, .inr (.inl 86), .inl x2]) (m' := m) [((10, .iload_n 2, 1, 0, 0, 0, 0), (0, 0, 0)), ((11, .aload_n 0, 1, 0, 0, 0, 0), (0, 0, 0)), ((12, .iload_n 3, 1, 0, 0, 0, 0), (0, 0, 0)), ((13, .iload_n 1, 1, 0, 0, 0, 0), (0, 0, 0))] (by decide +kernel) rfl ?_
      refine hx_call (E := (14, .invokevirtual 117, 3, 205, 0, 6191, 0)) (M' := yp_m205) [.inr (.inl 86), .inl x3, .inl x1] [.inl x2] rfl (by decide +kernel) rfl ⟨rfl, rfl⟩ rfl rfl (hF205g (m0 := m0) g (fun v1 m1 g1 => ?_))
      show hxn xs n yp_m204 17 [(0, .inr (.inl 86)), (1, .inl x1), (2, .inl x2), (3, .inl x3)] [.inl v1, .inl x2] m1 Q
      refine hx_if .eq 24 (by decide +kernel) (fun _ => ?_) (fun _ => ?_)
      · refine hx_blk (npc := 4) (L' := [(0, .inr (.inl 86)), (1, .inl x1), (2, .inl (gx_w (x2 + 0))), (3, .inl (gx_w (x3 + 1)))]) (st' := []) (m' := m1) [((24, .iconst 0, 1, 0, 0, 0, 0), (0, 0, 0)), ((25, .iadd, 1, 0, 0, 0, 0), (0, 0, 0)), ((26, .istore_n 2, 1, 0, 0, 0, 0), (0, 0, 0)), ((27, .iinc 3 1, 3, 0, 0, 0, 0), (0, 0, 0)), ((30, .goto (-26), 3, 0, 0, 0, 0), (0, 0, 0))] (by decide +kernel) rfl ?_
        exact hx_pick [0, 1, 2, 3] (ih x1 (gx_w (x2 + 0)) (gx_w (x3 + 1)) m1 g1)
      · refine hx_blk (npc := 4) (L' := [(0, .inr (.inl 86)), (1, .inl x1), (2, .inl (gx_w (x2 + 1))), (3, .inl (gx_w (x3 + 1)))]) (st' := []) (m' := m1) [((20, .iconst 1, 1, 0, 0, 0, 0), (0, 0, 0)), ((21, .goto 4, 3, 0, 0, 0, 0), (0, 0, 0)), ((25, .iadd, 1, 0, 0, 0, 0), (0, 0, 0)), ((26, .istore_n 2, 1, 0, 0, 0, 0), (0, 0, 0)), ((27, .iinc 3 1, 3, 0, 0, 0, 0), (0, 0, 0)), ((30, .goto (-26), 3, 0, 0, 0, 0), (0, 0, 0))] (by decide +kernel) rfl ?_
        exact hx_pick [0, 1, 2, 3] (ih x1 (gx_w (x2 + 1)) (gx_w (x3 + 1)) m1 g1)
theorem hF204g {xs : List Int32} {n : Nat} {Q : hQ} {m0 m : gx_M} {x1 : Int} (g : hFr hFg m0 m) (hQ : ∀ v m', hFr hFg m0 m' → Q (some (.inl v)) m') : hxn xs n yp_m204 0 [(0, .inr (.inl 86)), (1, .inl x1)] [] m Q := by
  refine hx_dn ?_
  refine hx_blks (npc := 4) (L' := [(0, .inr (.inl 86)), (1, .inl x1), (2, .inl 0), (3, .inl 0)]) (st' := []) (m' := m) ((0, .iconst 0, 1, 0, 0, 0, 0), (0, 0, 0)) [((1, .istore_n 2, 1, 0, 0, 0, 0), (0, 0, 0)), ((2, .iconst 0, 1, 0, 0, 0, 0), (0, 0, 0)), ((3, .istore_n 3, 1, 0, 0, 0, 0), (0, 0, 0))] (by decide +kernel) rfl ?_
  exact hx_pick [0, 1, 2, 3] ((hF204gl (xs := xs) hQ n) x1 0 0 m g)
theorem hF203gl {xs : List Int32} {Q : hQ} {m0 : gx_M} (hQ : ∀ m', hFr hFg m0 m' → Q none m') : ∀ n : Nat, (∀ (x1 x2 : Int) (m : gx_M), hFr hFg m0 m → hxn xs n yp_m203 2 [(0, .inr (.inl 86)), (1, .inl x1), (2, .inl x2)] [] m Q) := by
  intro n
  induction n with
  | zero => exact fun _ _ _ _ => hx_0
  | succ n ih =>
    intro x1 x2 m g
    refine hx_blks (npc := 5) (L' := [(0, .inr (.inl 86)), (1, .inl x1), (2, .inl x2)]) (st' := [.inl 14, .inl x2]) (m' := m) ((2, .iload_n 2, 1, 0, 0, 0, 0), (0, 0, 0)) [((3, .bipush 14, 2, 0, 0, 0, 0), (0, 0, 0))] (by decide +kernel) rfl ?_
    refine hx_cmp .ge 21 (by decide +kernel) (fun _ => ?_) (fun _ => ?_)
    · refine hx_blk (npc := 51) (L' := [(0, .inr (.inl 86)), (1, .inl x1), (2, .inl x2)]) (st' := [.inl x1, .inr (.inl 86), .inl 10, .inr (.inl 103)]) (m' := (gx_u (gx_u m 103 0 (m 87 1129)) 103 9 x1)) [((21, .aload_n 0, 1, 0, 0, 0, 0), (0, 0, 0)), ((22, .getfield 59, 3, 10, 26, 5139, 0), (1, 86, 103)), ((25, .iconst 0, 1, 0, 0, 0, 0), (0, 0, 0)), ((26, .aload_n 0, 1, 0, 0, 0, 0), (0, 0, 0)), ((27, .getfield 7, 3, 10, 0, 5113, 0), (1, 86, 87)), ((30, .sipush 1129, 3, 0, 0, 0, 0), (0, 0, 0)), ((33, .iaload, 1, 0, 0, 0, 0), (0, 87, 0)), ((34, .iastore, 1, 0, 0, 0, 0), (0, 103, 0)), ((35, .aload_n 0, 1, 0, 0, 0, 0), (0, 0, 0)), ((36, .getfield 59, 3, 10, 26, 5139, 0), (1, 86, 103)), ((39, .bipush 9, 2, 0, 0, 0, 0), (0, 0, 0)), ((41, .iload_n 1, 1, 0, 0, 0, 0), (0, 0, 0)), ((42, .iastore, 1, 0, 0, 0, 0), (0, 103, 0)), ((43, .aload_n 0, 1, 0, 0, 0, 0), (0, 0, 0)), ((44, .getfield 59, 3, 10, 26, 5139, 0), (1, 86, 103)), ((47, .bipush 10, 2, 0, 0, 0, 0), (0, 0, 0)), ((49, .aload_n 0, 1, 0, 0, 0, 0), (0, 0, 0)), ((50, .iload_n 1, 1, 0, 0, 0, 0), (0, 0, 0))] (by decide +kernel) rfl ?_
      refine hx_call (E := (51, .invokevirtual 235, 3, 204, 0, 6187, 0)) (M' := yp_m204) [.inr (.inl 86), .inl x1] [.inl 10, .inr (.inl 103)] rfl (by decide +kernel) rfl ⟨rfl, rfl⟩ rfl rfl (hF204g (m0 := m0) ((g.w 103 (by decide)).w 103 (by decide)) (fun v1 m1 g1 => ?_))
      show hxn xs n yp_m203 54 [(0, .inr (.inl 86)), (1, .inl x1), (2, .inl x2)] [.inl v1, .inl 10, .inr (.inl 103)] m1 Q
      refine hx_blk (npc := 72) (L' := [(0, .inr (.inl 86)), (1, .inl x1), (2, .inl x2)]) (st' := []) (m' := (gx_u (gx_u m1 103 10 v1) 103 11 ((gx_u m1 103 10 v1) 87 (gx_w (1120 + x1)).toNat))) [((54, .iastore, 1, 0, 0, 0, 0), (0, 103, 0)), ((55, .aload_n 0, 1, 0, 0, 0, 0), (0, 0, 0)), ((56, .getfield 59, 3, 10, 26, 5139, 0), (1, 86, 103)), ((59, .bipush 11, 2, 0, 0, 0, 0), (0, 0, 0)), ((61, .aload_n 0, 1, 0, 0, 0, 0), (0, 0, 0)), ((62, .getfield 7, 3, 10, 0, 5113, 0), (1, 86, 87)), ((65, .sipush 1120, 3, 0, 0, 0, 0), (0, 0, 0)), ((68, .iload_n 1, 1, 0, 0, 0, 0), (0, 0, 0)), ((69, .iadd, 1, 0, 0, 0, 0), (0, 0, 0)), ((70, .iaload, 1, 0, 0, 0, 0), (0, 87, 0)), ((71, .iastore, 1, 0, 0, 0, 0), (0, 103, 0))] (by decide +kernel) rfl ?_
      exact hx_ret0 (by decide +kernel) (hQ _ ((g1.w 103 (by decide)).w 103 (by decide)))
    · refine hx_blk (npc := 2) (L' := [(0, .inr (.inl 86)), (1, .inl x1), (2, .inl (gx_w (x2 + 1)))]) (st' := []) (m' := (gx_u m 103 (x2).toNat 0)) [((8, .aload_n 0, 1, 0, 0, 0, 0), (0, 0, 0)), ((9, .getfield 59, 3, 10, 26, 5139, 0), (1, 86, 103)), ((12, .iload_n 2, 1, 0, 0, 0, 0), (0, 0, 0)), ((13, .iconst 0, 1, 0, 0, 0, 0), (0, 0, 0)), ((14, .iastore, 1, 0, 0, 0, 0), (0, 103, 0)), ((15, .iinc 2 1, 3, 0, 0, 0, 0), (0, 0, 0)), ((18, .goto (-16), 3, 0, 0, 0, 0), (0, 0, 0))] (by decide +kernel) rfl ?_
      exact hx_pick [0, 1, 2] (ih x1 (gx_w (x2 + 1)) (gx_u m 103 (x2).toNat 0) (g.w 103 (by decide)))
theorem hF203g {xs : List Int32} {n : Nat} {Q : hQ} {m0 m : gx_M} {x1 : Int} (g : hFr hFg m0 m) (hQ : ∀ m', hFr hFg m0 m' → Q none m') : hxn xs n yp_m203 0 [(0, .inr (.inl 86)), (1, .inl x1)] [] m Q := by
  refine hx_dn ?_
  refine hx_blks (npc := 2) (L' := [(0, .inr (.inl 86)), (1, .inl x1), (2, .inl 0)]) (st' := []) (m' := m) ((0, .iconst 0, 1, 0, 0, 0, 0), (0, 0, 0)) [((1, .istore_n 2, 1, 0, 0, 0, 0), (0, 0, 0))] (by decide +kernel) rfl ?_
  exact hx_pick [0, 1, 2] ((hF203gl (xs := xs) hQ n) x1 0 m g)
theorem hF206gl {xs : List Int32} {Q : hQ} {m0 : gx_M} (hQ : ∀ v m', hFr hFg m0 m' → Q (some (.inl v)) m') : ∀ n : Nat, (∀ (x0 x1 x2 : Int) (m : gx_M), hFr hFg m0 m → hxn xs n yp_m206 4 [(0, .inl x0), (1, .inl x1), (2, .inl x2)] [] m Q) := by
  intro n
  induction n with
  | zero => exact fun _ _ _ _ _ => hx_0
  | succ n ih =>
    intro x0 x1 x2 m g
    refine hx_blks (npc := 7) (L' := [(0, .inl x0), (1, .inl x1), (2, .inl x2)]) (st' := [.inl 20, .inl x2]) (m' := m) ((4, .iload_n 2, 1, 0, 0, 0, 0), (0, 0, 0)) [((5, .bipush 20, 2, 0, 0, 0, 0), (0, 0, 0))] (by decide +kernel) rfl ?_
    refine hx_cmp .ge 24 (by decide +kernel) (fun _ => ?_) (fun _ => ?_)
    · refine hx_blk (npc := 25) (L' := [(0, .inl x0), (1, .inl x1), (2, .inl x2)]) (st' := [.inl x1]) (m' := m) [((24, .iload_n 1, 1, 0, 0, 0, 0), (0, 0, 0))] (by decide +kernel) rfl ?_
      exact hx_reti (by decide +kernel) (hQ _ _ g)
    · refine hx_blk (npc := 4) (L' := [(0, .inl x0), (1, .inl (gx_w (x1 + (gx_and (gx_shr x0 x2) 1)))), (2, .inl (gx_w (x2 + 1)))]) (st' := []) (m' := m) [((10, .iload_n 1, 1, 0, 0, 0, 0), (0, 0, 0)), ((11, .iload_n 0, 1, 0, 0, 0, 0), (0, 0, 0)), ((12, .iload_n 2, 1, 0, 0, 0, 0), (0, 0, 0)), ((13, .ishr, 1, 0, 0, 0, 0), (0, 0, 0)), ((14, .iconst 1, 1, 0, 0, 0, 0), (0, 0, 0)), ((15, .iand, 1, 0, 0, 0, 0), (0, 0, 0)), ((16, .iadd, 1, 0, 0, 0, 0), (0, 0, 0)), ((17, .istore_n 1, 1, 0, 0, 0, 0), (0, 0, 0)), ((18, .iinc 2 1, 3, 0, 0, 0, 0), (0, 0, 0)), ((21, .goto (-17), 3, 0, 0, 0, 0), (0, 0, 0))] (by decide +kernel) rfl ?_
      exact hx_pick [0, 1, 2] (ih x0 (gx_w (x1 + (gx_and (gx_shr x0 x2) 1))) (gx_w (x2 + 1)) m g)
theorem hF206g {xs : List Int32} {n : Nat} {Q : hQ} {m0 m : gx_M} {x0 : Int} (g : hFr hFg m0 m) (hQ : ∀ v m', hFr hFg m0 m' → Q (some (.inl v)) m') : hxn xs n yp_m206 0 [(0, .inl x0)] [] m Q := by
  refine hx_dn ?_
  refine hx_blks (npc := 4) (L' := [(0, .inl x0), (1, .inl 0), (2, .inl 0)]) (st' := []) (m' := m) ((0, .iconst 0, 1, 0, 0, 0, 0), (0, 0, 0)) [((1, .istore_n 1, 1, 0, 0, 0, 0), (0, 0, 0)), ((2, .iconst 0, 1, 0, 0, 0, 0), (0, 0, 0)), ((3, .istore_n 2, 1, 0, 0, 0, 0), (0, 0, 0))] (by decide +kernel) rfl ?_
  exact hx_pick [0, 1, 2] ((hF206gl (xs := xs) hQ n) x0 0 0 m g)
theorem hF207gl {xs : List Int32} {Q : hQ} {m0 : gx_M} (hQ : ∀ v m', hFr hFg m0 m' → Q (some (.inl v)) m') : ∀ n : Nat, (∀ (x1 x2 x3 x4 : Int) (m : gx_M), hFr hFg m0 m → hxn xs n yp_m207 5 [(0, .inr (.inl 86)), (1, .inl x1), (2, .inl x2), (3, .inl x3), (4, .inl x4)] [] m Q) := by
  intro n
  induction n with
  | zero => exact fun _ _ _ _ _ _ => hx_0
  | succ n ih =>
    intro x1 x2 x3 x4 m g
    refine hx_blks (npc := 9) (L' := [(0, .inr (.inl 86)), (1, .inl x1), (2, .inl x2), (3, .inl x3), (4, .inl x4)]) (st' := [.inl 40, .inl x4]) (m' := m) ((5, .iload 4, 2, 0, 0, 0, 0), (0, 0, 0)) [((7, .bipush 40, 2, 0, 0, 0, 0), (0, 0, 0))] (by decide +kernel) rfl ?_
    refine hx_cmp .ge 47 (by decide +kernel) (fun _ => ?_) (fun _ => ?_)
    · refine hx_blk (npc := 48) (L' := [(0, .inr (.inl 86)), (1, .inl x1), (2, .inl x2), (3, .inl x3), (4, .inl x4)]) (st' := [.inl x3]) (m' := m) [((47, .iload_n 3, 1, 0, 0, 0, 0), (0, 0, 0))] (by decide +kernel) rfl ?_
      exact hx_reti (by decide +kernel) (hQ _ _ g)
    · refine hx_blk (npc := 15) (L' := [(0, .inr (.inl 86)), (1, .inl x1), (2, .inl x2), (3, .inl x3), (4, .inl x4)]) (st' := [.inl x2, .inl x4]) (m' := m) [((12, .iload 4, 2, 0, 0, 0, 0), (0, 0, 0)), ((14, .iload_n 2, 1, 0, 0, 0, 0), (0, 0, 0))] (by decide +kernel) rfl ?_
      refine hx_cmp .eq 41 (by decide +kernel) (fun _ => ?_) (fun _ => ?_)
      · refine hx_blk (npc := 5) (L' := [(0, .inr (.inl 86)), (1, .inl x1), (2, .inl x2), (3, .inl x3), (4, .inl (gx_w (x4 + 1)))]) (st' := []) (m' := m) [((41, .iinc 4 1, 3, 0, 0, 0, 0), (0, 0, 0)), ((44, .goto (-39), 3, 0, 0, 0, 0), (0, 0, 0))] (by decide +kernel) rfl ?_
        exact hx_pick [0, 1, 2, 3, 4] (ih x1 x2 x3 (gx_w (x4 + 1)) m g)
      · refine hx_blk (npc := 22) (L' := [(0, .inr (.inl 86)), (1, .inl x1), (2, .inl x2), (3, .inl x3), (4, .inl x4)]) (st' := [.inl x1, .inl x4, .inr (.inl 86)]) (m' := m) [((18, .aload_n 0, 1, 0, 0, 0, 0), (0, 0, 0)), ((19, .iload 4, 2, 0, 0, 0, 0), (0, 0, 0)), ((21, .iload_n 1, 1, 0, 0, 0, 0), (0, 0, 0))] (by decide +kernel) rfl ?_
        refine hx_call (E := (22, .invokevirtual 117, 3, 205, 0, 6191, 0)) (M' := yp_m205) [.inr (.inl 86), .inl x4, .inl x1] [] rfl (by decide +kernel) rfl ⟨rfl, rfl⟩ rfl rfl (hF205g (m0 := m0) g (fun v1 m1 g1 => ?_))
        show hxn xs n yp_m207 25 [(0, .inr (.inl 86)), (1, .inl x1), (2, .inl x2), (3, .inl x3), (4, .inl x4)] [.inl v1] m1 Q
        refine hx_if .eq 41 (by decide +kernel) (fun _ => ?_) (fun _ => ?_)
        · refine hx_blk (npc := 5) (L' := [(0, .inr (.inl 86)), (1, .inl x1), (2, .inl x2), (3, .inl x3), (4, .inl (gx_w (x4 + 1)))]) (st' := []) (m' := m1) [((41, .iinc 4 1, 3, 0, 0, 0, 0), (0, 0, 0)), ((44, .goto (-39), 3, 0, 0, 0, 0), (0, 0, 0))] (by decide +kernel) rfl ?_
          exact hx_pick [0, 1, 2, 3, 4] (ih x1 x2 x3 (gx_w (x4 + 1)) m1 g1)
        · refine hx_blk (npc := 5) (L' := [(0, .inr (.inl 86)), (1, .inl x1), (2, .inl x2), (3, .inl (gx_or x3 (m1 87 (gx_w (80 + x4)).toNat))), (4, .inl (gx_w (x4 + 1)))]) (st' := []) (m' := m1) [((28, .iload_n 3, 1, 0, 0, 0, 0), (0, 0, 0)), ((29, .aload_n 0, 1, 0, 0, 0, 0), (0, 0, 0)), ((30, .getfield 7, 3, 10, 0, 5113, 0), (1, 86, 87)), ((33, .bipush 80, 2, 0, 0, 0, 0), (0, 0, 0)), ((35, .iload 4, 2, 0, 0, 0, 0), (0, 0, 0)), ((37, .iadd, 1, 0, 0, 0, 0), (0, 0, 0)), ((38, .iaload, 1, 0, 0, 0, 0), (0, 87, 0)), ((39, .ior, 1, 0, 0, 0, 0), (0, 0, 0)), ((40, .istore_n 3, 1, 0, 0, 0, 0), (0, 0, 0)), ((41, .iinc 4 1, 3, 0, 0, 0, 0), (0, 0, 0)), ((44, .goto (-39), 3, 0, 0, 0, 0), (0, 0, 0))] (by decide +kernel) rfl ?_
          exact hx_pick [0, 1, 2, 3, 4] (ih x1 x2 (gx_or x3 (m1 87 (gx_w (80 + x4)).toNat)) (gx_w (x4 + 1)) m1 g1)
theorem hF207g {xs : List Int32} {n : Nat} {Q : hQ} {m0 m : gx_M} {x1 x2 : Int} (g : hFr hFg m0 m) (hQ : ∀ v m', hFr hFg m0 m' → Q (some (.inl v)) m') : hxn xs n yp_m207 0 [(0, .inr (.inl 86)), (1, .inl x1), (2, .inl x2)] [] m Q := by
  refine hx_dn ?_
  refine hx_blks (npc := 5) (L' := [(0, .inr (.inl 86)), (1, .inl x1), (2, .inl x2), (3, .inl 0), (4, .inl 0)]) (st' := []) (m' := m) ((0, .iconst 0, 1, 0, 0, 0, 0), (0, 0, 0)) [((1, .istore_n 3, 1, 0, 0, 0, 0), (0, 0, 0)), ((2, .iconst 0, 1, 0, 0, 0, 0), (0, 0, 0)), ((3, .istore 4, 2, 0, 0, 0, 0), (0, 0, 0))] (by decide +kernel) rfl ?_
  exact hx_pick [0, 1, 2, 3, 4] ((hF207gl (xs := xs) hQ n) x1 x2 0 0 m g)
theorem hF202g {xs : List Int32} {n : Nat} {Q : hQ} {m0 m : gx_M} {x1 x2 x3 : Int} (g : hFr hFg m0 m) (hQ : ∀ m', hFr hFg m0 m' → Q none m') : hxn xs n yp_m202 0 [(0, .inr (.inl 86)), (1, .inl x1), (2, .inl x2), (3, .inl x3)] [] m Q := by
  refine hx_dn ?_
  refine hx_blks (npc := 2) (L' := [(0, .inr (.inl 86)), (1, .inl x1), (2, .inl x2), (3, .inl x3)]) (st' := [.inl x2, .inr (.inl 86)]) (m' := m) ((0, .aload_n 0, 1, 0, 0, 0, 0), (0, 0, 0)) [((1, .iload_n 2, 1, 0, 0, 0, 0), (0, 0, 0))] (by decide +kernel) rfl ?_
  refine hx_call (E := (2, .invokevirtual 238, 3, 203, 0, 6183, 0)) (M' := yp_m203) [.inr (.inl 86), .inl x2] [] rfl (by decide +kernel) rfl ⟨rfl, rfl⟩ rfl rfl (hF203g (m0 := m0) g (fun m1 g1 => ?_))
  show hxn xs n yp_m202 5 [(0, .inr (.inl 86)), (1, .inl x1), (2, .inl x2), (3, .inl x3)] [] m1 Q
  refine hx_blk (npc := 71) (L' := [(0, .inr (.inl 86)), (1, .inl x1), (2, .inl x2), (3, .inl x3)]) (st' := [.inl ((gx_u (gx_u (gx_u (gx_u m1 103 1 x1) 103 2 ((gx_u m1 103 1 x1) 87 (gx_w (0 + x1)).toNat)) 103 3 ((gx_u (gx_u m1 103 1 x1) 103 2 ((gx_u m1 103 1 x1) 87 (gx_w (0 + x1)).toNat)) 87 (gx_w (40 + x1)).toNat)) 103 4 ((gx_u (gx_u (gx_u m1 103 1 x1) 103 2 ((gx_u m1 103 1 x1) 87 (gx_w (0 + x1)).toNat)) 103 3 ((gx_u (gx_u m1 103 1 x1) 103 2 ((gx_u m1 103 1 x1) 87 (gx_w (0 + x1)).toNat)) 87 (gx_w (40 + x1)).toNat)) 87 (gx_w (240 + x1)).toNat)) 87 (gx_w (80 + x1)).toNat), .inl 5, .inr (.inl 103)]) (m' := (gx_u (gx_u (gx_u (gx_u m1 103 1 x1) 103 2 ((gx_u m1 103 1 x1) 87 (gx_w (0 + x1)).toNat)) 103 3 ((gx_u (gx_u m1 103 1 x1) 103 2 ((gx_u m1 103 1 x1) 87 (gx_w (0 + x1)).toNat)) 87 (gx_w (40 + x1)).toNat)) 103 4 ((gx_u (gx_u (gx_u m1 103 1 x1) 103 2 ((gx_u m1 103 1 x1) 87 (gx_w (0 + x1)).toNat)) 103 3 ((gx_u (gx_u m1 103 1 x1) 103 2 ((gx_u m1 103 1 x1) 87 (gx_w (0 + x1)).toNat)) 87 (gx_w (40 + x1)).toNat)) 87 (gx_w (240 + x1)).toNat))) [((5, .aload_n 0, 1, 0, 0, 0, 0), (0, 0, 0)), ((6, .getfield 59, 3, 10, 26, 5139, 0), (1, 86, 103)), ((9, .iconst 1, 1, 0, 0, 0, 0), (0, 0, 0)), ((10, .iload_n 1, 1, 0, 0, 0, 0), (0, 0, 0)), ((11, .iastore, 1, 0, 0, 0, 0), (0, 103, 0)), ((12, .aload_n 0, 1, 0, 0, 0, 0), (0, 0, 0)), ((13, .getfield 59, 3, 10, 26, 5139, 0), (1, 86, 103)), ((16, .iconst 2, 1, 0, 0, 0, 0), (0, 0, 0)), ((17, .aload_n 0, 1, 0, 0, 0, 0), (0, 0, 0)), ((18, .getfield 7, 3, 10, 0, 5113, 0), (1, 86, 87)), ((21, .iconst 0, 1, 0, 0, 0, 0), (0, 0, 0)), ((22, .iload_n 1, 1, 0, 0, 0, 0), (0, 0, 0)), ((23, .iadd, 1, 0, 0, 0, 0), (0, 0, 0)), ((24, .iaload, 1, 0, 0, 0, 0), (0, 87, 0)), ((25, .iastore, 1, 0, 0, 0, 0), (0, 103, 0)), ((26, .aload_n 0, 1, 0, 0, 0, 0), (0, 0, 0)), ((27, .getfield 59, 3, 10, 26, 5139, 0), (1, 86, 103)), ((30, .iconst 3, 1, 0, 0, 0, 0), (0, 0, 0)), ((31, .aload_n 0, 1, 0, 0, 0, 0), (0, 0, 0)), ((32, .getfield 7, 3, 10, 0, 5113, 0), (1, 86, 87)), ((35, .bipush 40, 2, 0, 0, 0, 0), (0, 0, 0)), ((37, .iload_n 1, 1, 0, 0, 0, 0), (0, 0, 0)), ((38, .iadd, 1, 0, 0, 0, 0), (0, 0, 0)), ((39, .iaload, 1, 0, 0, 0, 0), (0, 87, 0)), ((40, .iastore, 1, 0, 0, 0, 0), (0, 103, 0)), ((41, .aload_n 0, 1, 0, 0, 0, 0), (0, 0, 0)), ((42, .getfield 59, 3, 10, 26, 5139, 0), (1, 86, 103)), ((45, .iconst 4, 1, 0, 0, 0, 0), (0, 0, 0)), ((46, .aload_n 0, 1, 0, 0, 0, 0), (0, 0, 0)), ((47, .getfield 7, 3, 10, 0, 5113, 0), (1, 86, 87)), ((50, .sipush 240, 3, 0, 0, 0, 0), (0, 0, 0)), ((53, .iload_n 1, 1, 0, 0, 0, 0), (0, 0, 0)), ((54, .iadd, 1, 0, 0, 0, 0), (0, 0, 0)), ((55, .iaload, 1, 0, 0, 0, 0), (0, 87, 0)), ((56, .iastore, 1, 0, 0, 0, 0), (0, 103, 0)), ((57, .aload_n 0, 1, 0, 0, 0, 0), (0, 0, 0)), ((58, .getfield 59, 3, 10, 26, 5139, 0), (1, 86, 103)), ((61, .iconst 5, 1, 0, 0, 0, 0), (0, 0, 0)), ((62, .aload_n 0, 1, 0, 0, 0, 0), (0, 0, 0)), ((63, .getfield 7, 3, 10, 0, 5113, 0), (1, 86, 87)), ((66, .bipush 80, 2, 0, 0, 0, 0), (0, 0, 0)), ((68, .iload_n 1, 1, 0, 0, 0, 0), (0, 0, 0)), ((69, .iadd, 1, 0, 0, 0, 0), (0, 0, 0)), ((70, .iaload, 1, 0, 0, 0, 0), (0, 87, 0))] (by decide +kernel) rfl ?_
  refine hx_call (E := (71, .invokestatic 241, 3, 206, 0, 6195, 0)) (M' := yp_m206) [.inl ((gx_u (gx_u (gx_u (gx_u m1 103 1 x1) 103 2 ((gx_u m1 103 1 x1) 87 (gx_w (0 + x1)).toNat)) 103 3 ((gx_u (gx_u m1 103 1 x1) 103 2 ((gx_u m1 103 1 x1) 87 (gx_w (0 + x1)).toNat)) 87 (gx_w (40 + x1)).toNat)) 103 4 ((gx_u (gx_u (gx_u m1 103 1 x1) 103 2 ((gx_u m1 103 1 x1) 87 (gx_w (0 + x1)).toNat)) 103 3 ((gx_u (gx_u m1 103 1 x1) 103 2 ((gx_u m1 103 1 x1) 87 (gx_w (0 + x1)).toNat)) 87 (gx_w (40 + x1)).toNat)) 87 (gx_w (240 + x1)).toNat)) 87 (gx_w (80 + x1)).toNat)] [.inl 5, .inr (.inl 103)] rfl (by decide +kernel) rfl ⟨rfl, rfl⟩ rfl rfl (hF206g (m0 := m0) ((((g1.w 103 (by decide)).w 103 (by decide)).w 103 (by decide)).w 103 (by decide)) (fun v2 m2 g2 => ?_))
  show hxn xs n yp_m202 74 [(0, .inr (.inl 86)), (1, .inl x1), (2, .inl x2), (3, .inl x3)] [.inl v2, .inl 5, .inr (.inl 103)] m2 Q
  refine hx_blk (npc := 90) (L' := [(0, .inr (.inl 86)), (1, .inl x1), (2, .inl x2), (3, .inl x3)]) (st' := [.inl ((gx_u m2 103 5 v2) 87 (gx_w (120 + x1)).toNat), .inl 6, .inr (.inl 103)]) (m' := (gx_u m2 103 5 v2)) [((74, .iastore, 1, 0, 0, 0, 0), (0, 103, 0)), ((75, .aload_n 0, 1, 0, 0, 0, 0), (0, 0, 0)), ((76, .getfield 59, 3, 10, 26, 5139, 0), (1, 86, 103)), ((79, .bipush 6, 2, 0, 0, 0, 0), (0, 0, 0)), ((81, .aload_n 0, 1, 0, 0, 0, 0), (0, 0, 0)), ((82, .getfield 7, 3, 10, 0, 5113, 0), (1, 86, 87)), ((85, .bipush 120, 2, 0, 0, 0, 0), (0, 0, 0)), ((87, .iload_n 1, 1, 0, 0, 0, 0), (0, 0, 0)), ((88, .iadd, 1, 0, 0, 0, 0), (0, 0, 0)), ((89, .iaload, 1, 0, 0, 0, 0), (0, 87, 0))] (by decide +kernel) rfl ?_
  refine hx_call (E := (90, .invokestatic 241, 3, 206, 0, 6195, 0)) (M' := yp_m206) [.inl ((gx_u m2 103 5 v2) 87 (gx_w (120 + x1)).toNat)] [.inl 6, .inr (.inl 103)] rfl (by decide +kernel) rfl ⟨rfl, rfl⟩ rfl rfl (hF206g (m0 := m0) (g2.w 103 (by decide)) (fun v3 m3 g3 => ?_))
  show hxn xs n yp_m202 93 [(0, .inr (.inl 86)), (1, .inl x1), (2, .inl x2), (3, .inl x3)] [.inl v3, .inl 6, .inr (.inl 103)] m3 Q
  refine hx_blk (npc := 146) (L' := [(0, .inr (.inl 86)), (1, .inl x1), (2, .inl x2), (3, .inl x3)]) (st' := [.inl x1, .inl x2, .inr (.inl 86), .inl ((gx_u (gx_u (gx_u m3 103 6 v3) 103 7 ((gx_u m3 103 6 v3) 87 (gx_w (160 + x1)).toNat)) 103 8 ((gx_u (gx_u m3 103 6 v3) 103 7 ((gx_u m3 103 6 v3) 87 (gx_w (160 + x1)).toNat)) 87 (gx_w (400 + x1)).toNat)) 87 (gx_w (80 + x1)).toNat), .inl 12, .inr (.inl 103)]) (m' := (gx_u (gx_u (gx_u m3 103 6 v3) 103 7 ((gx_u m3 103 6 v3) 87 (gx_w (160 + x1)).toNat)) 103 8 ((gx_u (gx_u m3 103 6 v3) 103 7 ((gx_u m3 103 6 v3) 87 (gx_w (160 + x1)).toNat)) 87 (gx_w (400 + x1)).toNat))) [((93, .iastore, 1, 0, 0, 0, 0), (0, 103, 0)), ((94, .aload_n 0, 1, 0, 0, 0, 0), (0, 0, 0)), ((95, .getfield 59, 3, 10, 26, 5139, 0), (1, 86, 103)), ((98, .bipush 7, 2, 0, 0, 0, 0), (0, 0, 0)), ((100, .aload_n 0, 1, 0, 0, 0, 0), (0, 0, 0)), ((101, .getfield 7, 3, 10, 0, 5113, 0), (1, 86, 87)), ((104, .sipush 160, 3, 0, 0, 0, 0), (0, 0, 0)), ((107, .iload_n 1, 1, 0, 0, 0, 0), (0, 0, 0)), ((108, .iadd, 1, 0, 0, 0, 0), (0, 0, 0)), ((109, .iaload, 1, 0, 0, 0, 0), (0, 87, 0)), ((110, .iastore, 1, 0, 0, 0, 0), (0, 103, 0)), ((111, .aload_n 0, 1, 0, 0, 0, 0), (0, 0, 0)), ((112, .getfield 59, 3, 10, 26, 5139, 0), (1, 86, 103)), ((115, .bipush 8, 2, 0, 0, 0, 0), (0, 0, 0)), ((117, .aload_n 0, 1, 0, 0, 0, 0), (0, 0, 0)), ((118, .getfield 7, 3, 10, 0, 5113, 0), (1, 86, 87)), ((121, .sipush 400, 3, 0, 0, 0, 0), (0, 0, 0)), ((124, .iload_n 1, 1, 0, 0, 0, 0), (0, 0, 0)), ((125, .iadd, 1, 0, 0, 0, 0), (0, 0, 0)), ((126, .iaload, 1, 0, 0, 0, 0), (0, 87, 0)), ((127, .iastore, 1, 0, 0, 0, 0), (0, 103, 0)), ((128, .aload_n 0, 1, 0, 0, 0, 0), (0, 0, 0)), ((129, .getfield 59, 3, 10, 26, 5139, 0), (1, 86, 103)), ((132, .bipush 12, 2, 0, 0, 0, 0), (0, 0, 0)), ((134, .aload_n 0, 1, 0, 0, 0, 0), (0, 0, 0)), ((135, .getfield 7, 3, 10, 0, 5113, 0), (1, 86, 87)), ((138, .bipush 80, 2, 0, 0, 0, 0), (0, 0, 0)), ((140, .iload_n 1, 1, 0, 0, 0, 0), (0, 0, 0)), ((141, .iadd, 1, 0, 0, 0, 0), (0, 0, 0)), ((142, .iaload, 1, 0, 0, 0, 0), (0, 87, 0)), ((143, .aload_n 0, 1, 0, 0, 0, 0), (0, 0, 0)), ((144, .iload_n 2, 1, 0, 0, 0, 0), (0, 0, 0)), ((145, .iload_n 1, 1, 0, 0, 0, 0), (0, 0, 0))] (by decide +kernel) rfl ?_
  refine hx_call (E := (146, .invokevirtual 244, 3, 207, 0, 6198, 0)) (M' := yp_m207) [.inr (.inl 86), .inl x2, .inl x1] [.inl ((gx_u (gx_u (gx_u m3 103 6 v3) 103 7 ((gx_u m3 103 6 v3) 87 (gx_w (160 + x1)).toNat)) 103 8 ((gx_u (gx_u m3 103 6 v3) 103 7 ((gx_u m3 103 6 v3) 87 (gx_w (160 + x1)).toNat)) 87 (gx_w (400 + x1)).toNat)) 87 (gx_w (80 + x1)).toNat), .inl 12, .inr (.inl 103)] rfl (by decide +kernel) rfl ⟨rfl, rfl⟩ rfl rfl (hF207g (m0 := m0) (((g3.w 103 (by decide)).w 103 (by decide)).w 103 (by decide)) (fun v4 m4 g4 => ?_))
  show hxn xs n yp_m202 149 [(0, .inr (.inl 86)), (1, .inl x1), (2, .inl x2), (3, .inl x3)] [.inl v4, .inl ((gx_u (gx_u (gx_u m3 103 6 v3) 103 7 ((gx_u m3 103 6 v3) 87 (gx_w (160 + x1)).toNat)) 103 8 ((gx_u (gx_u m3 103 6 v3) 103 7 ((gx_u m3 103 6 v3) 87 (gx_w (160 + x1)).toNat)) 87 (gx_w (400 + x1)).toNat)) 87 (gx_w (80 + x1)).toNat), .inl 12, .inr (.inl 103)] m4 Q
  refine hx_blk (npc := 150) (L' := [(0, .inr (.inl 86)), (1, .inl x1), (2, .inl x2), (3, .inl x3)]) (st' := [.inl (gx_and ((gx_u (gx_u (gx_u m3 103 6 v3) 103 7 ((gx_u m3 103 6 v3) 87 (gx_w (160 + x1)).toNat)) 103 8 ((gx_u (gx_u m3 103 6 v3) 103 7 ((gx_u m3 103 6 v3) 87 (gx_w (160 + x1)).toNat)) 87 (gx_w (400 + x1)).toNat)) 87 (gx_w (80 + x1)).toNat) v4), .inl 12, .inr (.inl 103)]) (m' := m4) [((149, .iand, 1, 0, 0, 0, 0), (0, 0, 0))] (by decide +kernel) rfl ?_
  refine hx_call (E := (150, .invokestatic 241, 3, 206, 0, 6195, 0)) (M' := yp_m206) [.inl (gx_and ((gx_u (gx_u (gx_u m3 103 6 v3) 103 7 ((gx_u m3 103 6 v3) 87 (gx_w (160 + x1)).toNat)) 103 8 ((gx_u (gx_u m3 103 6 v3) 103 7 ((gx_u m3 103 6 v3) 87 (gx_w (160 + x1)).toNat)) 87 (gx_w (400 + x1)).toNat)) 87 (gx_w (80 + x1)).toNat) v4)] [.inl 12, .inr (.inl 103)] rfl (by decide +kernel) rfl ⟨rfl, rfl⟩ rfl rfl (hF206g (m0 := m0) g4 (fun v5 m5 g5 => ?_))
  show hxn xs n yp_m202 153 [(0, .inr (.inl 86)), (1, .inl x1), (2, .inl x2), (3, .inl x3)] [.inl v5, .inl 12, .inr (.inl 103)] m5 Q
  refine hx_blk (npc := 162) (L' := [(0, .inr (.inl 86)), (1, .inl x1), (2, .inl x2), (3, .inl x3)]) (st' := []) (m' := (gx_u (gx_u m5 103 12 v5) 103 13 x3)) [((153, .iastore, 1, 0, 0, 0, 0), (0, 103, 0)), ((154, .aload_n 0, 1, 0, 0, 0, 0), (0, 0, 0)), ((155, .getfield 59, 3, 10, 26, 5139, 0), (1, 86, 103)), ((158, .bipush 13, 2, 0, 0, 0, 0), (0, 0, 0)), ((160, .iload_n 3, 1, 0, 0, 0, 0), (0, 0, 0)), ((161, .iastore, 1, 0, 0, 0, 0), (0, 103, 0))] (by decide +kernel) rfl ?_
  exact hx_ret0 (by decide +kernel) (hQ _ ((g5.w 103 (by decide)).w 103 (by decide)))
theorem hF209g {xs : List Int32} {n : Nat} {Q : hQ} {m0 m : gx_M} {x0 x1 x2 : Int} (g : hFr hFg m0 m) (hQ : ∀ v m', hFr hFg m0 m' → Q (some (.inl v)) m') : hxn xs n yp_m209 0 [(0, .inl x0), (1, .inl x1), (2, .inl x2)] [] m Q := by
  refine hx_dn ?_
  refine hx_blks (npc := 1) (L' := [(0, .inl x0), (1, .inl x1), (2, .inl x2)]) (st' := [.inl x0]) (m' := m) ((0, .iload_n 0, 1, 0, 0, 0, 0), (0, 0, 0)) [] (by decide +kernel) rfl ?_
  refine hx_tsw 86 [(2, 44), (3, 48), (4, 52), (5, 56), (6, 60), (7, 64), (8, 75)] (by decide +kernel) ?_
  refine hsw_c (fun _ => ?_) (fun _ => ?_)
  · refine hx_blk (npc := 47) (L' := [(0, .inl x0), (1, .inl x1), (2, .inl x2)]) (st' := [.inl (gx_w (x1 + x2))]) (m' := m) [((44, .iload_n 1, 1, 0, 0, 0, 0), (0, 0, 0)), ((45, .iload_n 2, 1, 0, 0, 0, 0), (0, 0, 0)), ((46, .iadd, 1, 0, 0, 0, 0), (0, 0, 0))] (by decide +kernel) rfl ?_
    exact hx_reti (by decide +kernel) (hQ _ _ g)
  refine hsw_c (fun _ => ?_) (fun _ => ?_)
  · refine hx_blk (npc := 51) (L' := [(0, .inl x0), (1, .inl x1), (2, .inl x2)]) (st' := [.inl (gx_w (x1 - x2))]) (m' := m) [((48, .iload_n 1, 1, 0, 0, 0, 0), (0, 0, 0)), ((49, .iload_n 2, 1, 0, 0, 0, 0), (0, 0, 0)), ((50, .isub, 1, 0, 0, 0, 0), (0, 0, 0))] (by decide +kernel) rfl ?_
    exact hx_reti (by decide +kernel) (hQ _ _ g)
  refine hsw_c (fun _ => ?_) (fun _ => ?_)
  · refine hx_blk (npc := 55) (L' := [(0, .inl x0), (1, .inl x1), (2, .inl x2)]) (st' := [.inl (gx_w (x1 * x2))]) (m' := m) [((52, .iload_n 1, 1, 0, 0, 0, 0), (0, 0, 0)), ((53, .iload_n 2, 1, 0, 0, 0, 0), (0, 0, 0)), ((54, .imul, 1, 0, 0, 0, 0), (0, 0, 0))] (by decide +kernel) rfl ?_
    exact hx_reti (by decide +kernel) (hQ _ _ g)
  refine hsw_c (fun _ => ?_) (fun _ => ?_)
  · refine hx_blk (npc := 59) (L' := [(0, .inl x0), (1, .inl x1), (2, .inl x2)]) (st' := [.inl (gx_w (Int.tdiv x1 x2))]) (m' := m) [((56, .iload_n 1, 1, 0, 0, 0, 0), (0, 0, 0)), ((57, .iload_n 2, 1, 0, 0, 0, 0), (0, 0, 0)), ((58, .idiv, 1, 0, 0, 0, 0), (0, 0, 0))] (by decide +kernel) rfl ?_
    exact hx_reti (by decide +kernel) (hQ _ _ g)
  refine hsw_c (fun _ => ?_) (fun _ => ?_)
  · refine hx_blk (npc := 63) (L' := [(0, .inl x0), (1, .inl x1), (2, .inl x2)]) (st' := [.inl (Int.tmod x1 x2)]) (m' := m) [((60, .iload_n 1, 1, 0, 0, 0, 0), (0, 0, 0)), ((61, .iload_n 2, 1, 0, 0, 0, 0), (0, 0, 0)), ((62, .irem, 1, 0, 0, 0, 0), (0, 0, 0))] (by decide +kernel) rfl ?_
    exact hx_reti (by decide +kernel) (hQ _ _ g)
  refine hsw_c (fun _ => ?_) (fun _ => ?_)
  · refine hx_blk (npc := 66) (L' := [(0, .inl x0), (1, .inl x1), (2, .inl x2)]) (st' := [.inl x2, .inl x1]) (m' := m) [((64, .iload_n 1, 1, 0, 0, 0, 0), (0, 0, 0)), ((65, .iload_n 2, 1, 0, 0, 0, 0), (0, 0, 0))] (by decide +kernel) rfl ?_
    refine hx_cmp .ge 73 (by decide +kernel) (fun _ => ?_) (fun _ => ?_)
    · refine hx_blk (npc := 74) (L' := [(0, .inl x0), (1, .inl x1), (2, .inl x2)]) (st' := [.inl 0]) (m' := m) [((73, .iconst 0, 1, 0, 0, 0, 0), (0, 0, 0))] (by decide +kernel) rfl ?_
      exact hx_reti (by decide +kernel) (hQ _ _ g)
    · refine hx_blk (npc := 74) (L' := [(0, .inl x0), (1, .inl x1), (2, .inl x2)]) (st' := [.inl 1]) (m' := m) [((69, .iconst 1, 1, 0, 0, 0, 0), (0, 0, 0)), ((70, .goto 4, 3, 0, 0, 0, 0), (0, 0, 0))] (by decide +kernel) rfl ?_
      exact hx_reti (by decide +kernel) (hQ _ _ g)
  refine hsw_c (fun _ => ?_) (fun _ => ?_)
  · refine hx_blk (npc := 77) (L' := [(0, .inl x0), (1, .inl x1), (2, .inl x2)]) (st' := [.inl x2, .inl x1]) (m' := m) [((75, .iload_n 1, 1, 0, 0, 0, 0), (0, 0, 0)), ((76, .iload_n 2, 1, 0, 0, 0, 0), (0, 0, 0))] (by decide +kernel) rfl ?_
    refine hx_cmp .le 84 (by decide +kernel) (fun _ => ?_) (fun _ => ?_)
    · refine hx_blk (npc := 85) (L' := [(0, .inl x0), (1, .inl x1), (2, .inl x2)]) (st' := [.inl 0]) (m' := m) [((84, .iconst 0, 1, 0, 0, 0, 0), (0, 0, 0))] (by decide +kernel) rfl ?_
      exact hx_reti (by decide +kernel) (hQ _ _ g)
    · refine hx_blk (npc := 85) (L' := [(0, .inl x0), (1, .inl x1), (2, .inl x2)]) (st' := [.inl 1]) (m' := m) [((80, .iconst 1, 1, 0, 0, 0, 0), (0, 0, 0)), ((81, .goto 4, 3, 0, 0, 0, 0), (0, 0, 0))] (by decide +kernel) rfl ?_
      exact hx_reti (by decide +kernel) (hQ _ _ g)
  refine hsw_n ?_
  refine hx_blk (npc := 88) (L' := [(0, .inl x0), (1, .inl x1), (2, .inl x2)]) (st' := [.inl x2, .inl x1]) (m' := m) [((86, .iload_n 1, 1, 0, 0, 0, 0), (0, 0, 0)), ((87, .iload_n 2, 1, 0, 0, 0, 0), (0, 0, 0))] (by decide +kernel) rfl ?_
  refine hx_cmp .ne 95 (by decide +kernel) (fun _ => ?_) (fun _ => ?_)
  · refine hx_blk (npc := 96) (L' := [(0, .inl x0), (1, .inl x1), (2, .inl x2)]) (st' := [.inl 0]) (m' := m) [((95, .iconst 0, 1, 0, 0, 0, 0), (0, 0, 0))] (by decide +kernel) rfl ?_
    exact hx_reti (by decide +kernel) (hQ _ _ g)
  · refine hx_blk (npc := 96) (L' := [(0, .inl x0), (1, .inl x1), (2, .inl x2)]) (st' := [.inl 1]) (m' := m) [((91, .iconst 1, 1, 0, 0, 0, 0), (0, 0, 0)), ((92, .goto 4, 3, 0, 0, 0, 0), (0, 0, 0))] (by decide +kernel) rfl ?_
    exact hx_reti (by decide +kernel) (hQ _ _ g)
theorem hF208gl {xs : List Int32} {Q : hQ} {m0 : gx_M} (hQ : ∀ v m', hFr hFg m0 m' → Q (some (.inl v)) m') : ∀ n : Nat, (∀ (x2 x3 x4 x5 : Int) (m : gx_M), hFr hFg m0 m → hxn xs n yp_m208 16 [(0, .inr (.inl 86)), (2, .inl x2), (3, .inl x3), (4, .inl x4), (5, .inl x5)] [] m Q) := by
  intro n
  induction n with
  | zero => exact fun _ _ _ _ _ _ => hx_0
  | succ n ih =>
    intro x2 x3 x4 x5 m g
    refine hx_blks (npc := 19) (L' := [(0, .inr (.inl 86)), (2, .inl x2), (3, .inl x3), (4, .inl x4), (5, .inl x5)]) (st' := [.inl x2, .inl x5]) (m' := m) ((16, .iload 5, 2, 0, 0, 0, 0), (0, 0, 0)) [((18, .iload_n 2, 1, 0, 0, 0, 0), (0, 0, 0))] (by decide +kernel) rfl ?_
    refine hx_cmp .ge 233 (by decide +kernel) (fun _ => ?_) (fun _ => ?_)
    · refine hx_blk (npc := 239) (L' := [(0, .inr (.inl 86)), (2, .inl x2), (3, .inl x3), (4, .inl x4), (5, .inl x5)]) (st' := [.inl (m 102 0)]) (m' := m) [((233, .aload_n 0, 1, 0, 0, 0, 0), (0, 0, 0)), ((234, .getfield 56, 3, 10, 25, 5138, 0), (1, 86, 102)), ((237, .iconst 0, 1, 0, 0, 0, 0), (0, 0, 0)), ((238, .iaload, 1, 0, 0, 0, 0), (0, 102, 0))] (by decide +kernel) rfl ?_
      exact hx_reti (by decide +kernel) (hQ _ _ g)
    · refine hx_blk (npc := 54) (L' := [(0, .inr (.inl 86)), (2, .inl x2), (3, .inl x3), (4, .inl x4), (5, .inl (gx_w (x5 + 1))), (6, .inl (gx_w (Int.tdiv (m 97 (x5).toNat) 1048576))), (7, .inl (Int.tmod (m 97 (x5).toNat) 1048576))]) (st' := [.inl (gx_w (Int.tdiv (m 97 (x5).toNat) 1048576))]) (m' := m) [((22, .aload_n 0, 1, 0, 0, 0, 0), (0, 0, 0)), ((23, .getfield 41, 3, 10, 20, 5133, 0), (1, 86, 97)), ((26, .iload 5, 2, 0, 0, 0, 0), (0, 0, 0)), ((28, .iaload, 1, 0, 0, 0, 0), (0, 97, 0)), ((29, .ldc 158, 2, 0, 0, 6077, 1048576), (0, 0, 0)), ((31, .idiv, 1, 0, 0, 0, 0), (0, 0, 0)), ((32, .istore 6, 2, 0, 0, 0, 0), (0, 0, 0)), ((34, .aload_n 0, 1, 0, 0, 0, 0), (0, 0, 0)), ((35, .getfield 41, 3, 10, 20, 5133, 0), (1, 86, 97)), ((38, .iload 5, 2, 0, 0, 0, 0), (0, 0, 0)), ((40, .iaload, 1, 0, 0, 0, 0), (0, 97, 0)), ((41, .ldc 158, 2, 0, 0, 6077, 1048576), (0, 0, 0)), ((43, .irem, 1, 0, 0, 0, 0), (0, 0, 0)), ((44, .istore 7, 2, 0, 0, 0, 0), (0, 0, 0)), ((46, .iload 5, 2, 0, 0, 0, 0), (0, 0, 0)), ((48, .iconst 1, 1, 0, 0, 0, 0), (0, 0, 0)), ((49, .iadd, 1, 0, 0, 0, 0), (0, 0, 0)), ((50, .istore 5, 2, 0, 0, 0, 0), (0, 0, 0)), ((52, .iload 6, 2, 0, 0, 0, 0), (0, 0, 0))] (by decide +kernel) rfl ?_
      refine hx_if .eq 63 (by decide +kernel) (fun _ => ?_) (fun _ => ?_)
      · refine hx_blk (npc := 70) (L' := [(0, .inr (.inl 86)), (2, .inl x2), (3, .inl x3), (4, .inl x4), (5, .inl (gx_w (x5 + 1))), (6, .inl (gx_w (Int.tdiv (m 97 (x5).toNat) 1048576))), (7, .inl (Int.tmod (m 97 (x5).toNat) 1048576))]) (st' := [.inl (gx_w (Int.tdiv (m 97 (x5).toNat) 1048576)), .inl x3, .inr (.inl 102)]) (m' := m) [((63, .aload_n 0, 1, 0, 0, 0, 0), (0, 0, 0)), ((64, .getfield 56, 3, 10, 25, 5138, 0), (1, 86, 102)), ((67, .iload_n 3, 1, 0, 0, 0, 0), (0, 0, 0)), ((68, .iload 6, 2, 0, 0, 0, 0), (0, 0, 0))] (by decide +kernel) rfl ?_
        refine hx_if .ne 78 (by decide +kernel) (fun _ => ?_) (fun _ => ?_)
        · refine hx_blk (npc := 16) (L' := [(0, .inr (.inl 86)), (2, .inl x2), (3, .inl (gx_w (x3 + 1))), (4, .inl x4), (5, .inl (gx_w (x5 + 1))), (6, .inl (gx_w (Int.tdiv (m 97 (x5).toNat) 1048576))), (7, .inl (Int.tmod (m 97 (x5).toNat) 1048576))]) (st' := []) (m' := (gx_u m 102 (x3).toNat (m 103 (Int.tmod (m 97 (x5).toNat) 1048576).toNat))) [((78, .aload_n 0, 1, 0, 0, 0, 0), (0, 0, 0)), ((79, .getfield 59, 3, 10, 26, 5139, 0), (1, 86, 103)), ((82, .iload 7, 2, 0, 0, 0, 0), (0, 0, 0)), ((84, .iaload, 1, 0, 0, 0, 0), (0, 103, 0)), ((85, .iastore, 1, 0, 0, 0, 0), (0, 102, 0)), ((86, .iload_n 3, 1, 0, 0, 0, 0), (0, 0, 0)), ((87, .iconst 1, 1, 0, 0, 0, 0), (0, 0, 0)), ((88, .iadd, 1, 0, 0, 0, 0), (0, 0, 0)), ((89, .istore_n 3, 1, 0, 0, 0, 0), (0, 0, 0)), ((90, .goto 140, 3, 0, 0, 0, 0), (0, 0, 0)), ((230, .goto (-214), 3, 0, 0, 0, 0), (0, 0, 0))] (by decide +kernel) rfl ?_
          exact hx_pick [0, 2, 3, 4, 5] (ih x2 (gx_w (x3 + 1)) x4 (gx_w (x5 + 1)) (gx_u m 102 (x3).toNat (m 103 (Int.tmod (m 97 (x5).toNat) 1048576).toNat)) (g.w 102 (by decide)))
        · refine hx_blk (npc := 16) (L' := [(0, .inr (.inl 86)), (2, .inl x2), (3, .inl (gx_w (x3 + 1))), (4, .inl x4), (5, .inl (gx_w (x5 + 1))), (6, .inl (gx_w (Int.tdiv (m 97 (x5).toNat) 1048576))), (7, .inl (Int.tmod (m 97 (x5).toNat) 1048576))]) (st' := []) (m' := (gx_u m 102 (x3).toNat (Int.tmod (m 97 (x5).toNat) 1048576))) [((73, .iload 7, 2, 0, 0, 0, 0), (0, 0, 0)), ((75, .goto 10, 3, 0, 0, 0, 0), (0, 0, 0)), ((85, .iastore, 1, 0, 0, 0, 0), (0, 102, 0)), ((86, .iload_n 3, 1, 0, 0, 0, 0), (0, 0, 0)), ((87, .iconst 1, 1, 0, 0, 0, 0), (0, 0, 0)), ((88, .iadd, 1, 0, 0, 0, 0), (0, 0, 0)), ((89, .istore_n 3, 1, 0, 0, 0, 0), (0, 0, 0)), ((90, .goto 140, 3, 0, 0, 0, 0), (0, 0, 0)), ((230, .goto (-214), 3, 0, 0, 0, 0), (0, 0, 0))] (by decide +kernel) rfl ?_
          exact hx_pick [0, 2, 3, 4, 5] (ih x2 (gx_w (x3 + 1)) x4 (gx_w (x5 + 1)) (gx_u m 102 (x3).toNat (Int.tmod (m 97 (x5).toNat) 1048576)) (g.w 102 (by decide)))
      · refine hx_blk (npc := 60) (L' := [(0, .inr (.inl 86)), (2, .inl x2), (3, .inl x3), (4, .inl x4), (5, .inl (gx_w (x5 + 1))), (6, .inl (gx_w (Int.tdiv (m 97 (x5).toNat) 1048576))), (7, .inl (Int.tmod (m 97 (x5).toNat) 1048576))]) (st' := [.inl 1, .inl (gx_w (Int.tdiv (m 97 (x5).toNat) 1048576))]) (m' := m) [((57, .iload 6, 2, 0, 0, 0, 0), (0, 0, 0)), ((59, .iconst 1, 1, 0, 0, 0, 0), (0, 0, 0))] (by decide +kernel) rfl ?_
        refine hx_cmp .ne 93 (by decide +kernel) (fun _ => ?_) (fun _ => ?_)
        · refine hx_blk (npc := 97) (L' := [(0, .inr (.inl 86)), (2, .inl x2), (3, .inl x3), (4, .inl x4), (5, .inl (gx_w (x5 + 1))), (6, .inl (gx_w (Int.tdiv (m 97 (x5).toNat) 1048576))), (7, .inl (Int.tmod (m 97 (x5).toNat) 1048576))]) (st' := [.inl 10, .inl (gx_w (Int.tdiv (m 97 (x5).toNat) 1048576))]) (m' := m) [((93, .iload 6, 2, 0, 0, 0, 0), (0, 0, 0)), ((95, .bipush 10, 2, 0, 0, 0, 0), (0, 0, 0))] (by decide +kernel) rfl ?_
          refine hx_cmp .ne 121 (by decide +kernel) (fun _ => ?_) (fun _ => ?_)
          · refine hx_blk (npc := 125) (L' := [(0, .inr (.inl 86)), (2, .inl x2), (3, .inl x3), (4, .inl x4), (5, .inl (gx_w (x5 + 1))), (6, .inl (gx_w (Int.tdiv (m 97 (x5).toNat) 1048576))), (7, .inl (Int.tmod (m 97 (x5).toNat) 1048576))]) (st' := [.inl 11, .inl (gx_w (Int.tdiv (m 97 (x5).toNat) 1048576))]) (m' := m) [((121, .iload 6, 2, 0, 0, 0, 0), (0, 0, 0)), ((123, .bipush 11, 2, 0, 0, 0, 0), (0, 0, 0))] (by decide +kernel) rfl ?_
            refine hx_cmp .eq 135 (by decide +kernel) (fun _ => ?_) (fun _ => ?_)
            · refine hx_blk (npc := 147) (L' := [(0, .inr (.inl 86)), (2, .inl x2), (3, .inl x3), (4, .inl x4), (5, .inl (gx_w (x5 + 1))), (6, .inl (gx_w (Int.tdiv (m 97 (x5).toNat) 1048576))), (7, .inl (Int.tmod (m 97 (x5).toNat) 1048576))]) (st' := [.inl 12, .inl (gx_w (Int.tdiv (m 97 (x5).toNat) 1048576)), .inl (m 102 (gx_w (x3 - 1)).toNat)]) (m' := m) [((135, .aload_n 0, 1, 0, 0, 0, 0), (0, 0, 0)), ((136, .getfield 56, 3, 10, 25, 5138, 0), (1, 86, 102)), ((139, .iload_n 3, 1, 0, 0, 0, 0), (0, 0, 0)), ((140, .iconst 1, 1, 0, 0, 0, 0), (0, 0, 0)), ((141, .isub, 1, 0, 0, 0, 0), (0, 0, 0)), ((142, .iaload, 1, 0, 0, 0, 0), (0, 102, 0)), ((143, .iload 6, 2, 0, 0, 0, 0), (0, 0, 0)), ((145, .bipush 12, 2, 0, 0, 0, 0), (0, 0, 0))] (by decide +kernel) rfl ?_
              refine hx_cmp .ne 154 (by decide +kernel) (fun _ => ?_) (fun _ => ?_)
              · refine hx_blk (npc := 155) (L' := [(0, .inr (.inl 86)), (2, .inl x2), (3, .inl x3), (4, .inl x4), (5, .inl (gx_w (x5 + 1))), (6, .inl (gx_w (Int.tdiv (m 97 (x5).toNat) 1048576))), (7, .inl (Int.tmod (m 97 (x5).toNat) 1048576))]) (st' := [.inl 0, .inl (m 102 (gx_w (x3 - 1)).toNat)]) (m' := m) [((154, .iconst 0, 1, 0, 0, 0, 0), (0, 0, 0))] (by decide +kernel) rfl ?_
                refine hx_cmp .ne 168 (by decide +kernel) (fun _ => ?_) (fun _ => ?_)
                · refine hx_blk (npc := 16) (L' := [(0, .inr (.inl 86)), (2, .inl x2), (3, .inl (gx_w (x3 - 1))), (4, .inl x4), (5, .inl (gx_w (x5 + 1))), (6, .inl (gx_w (Int.tdiv (m 97 (x5).toNat) 1048576))), (7, .inl (Int.tmod (m 97 (x5).toNat) 1048576))]) (st' := []) (m' := m) [((168, .iload_n 3, 1, 0, 0, 0, 0), (0, 0, 0)), ((169, .iconst 1, 1, 0, 0, 0, 0), (0, 0, 0)), ((170, .isub, 1, 0, 0, 0, 0), (0, 0, 0)), ((171, .istore_n 3, 1, 0, 0, 0, 0), (0, 0, 0)), ((172, .goto 58, 3, 0, 0, 0, 0), (0, 0, 0)), ((230, .goto (-214), 3, 0, 0, 0, 0), (0, 0, 0))] (by decide +kernel) rfl ?_
                  exact hx_pick [0, 2, 3, 4, 5] (ih x2 (gx_w (x3 - 1)) x4 (gx_w (x5 + 1)) m g)
                · refine hx_blk (npc := 16) (L' := [(0, .inr (.inl 86)), (2, .inl x2), (3, .inl x3), (4, .inl x4), (5, .inl (gx_w (x4 + (Int.tmod (m 97 (x5).toNat) 1048576)))), (6, .inl (gx_w (Int.tdiv (m 97 (x5).toNat) 1048576))), (7, .inl (Int.tmod (m 97 (x5).toNat) 1048576))]) (st' := []) (m' := m) [((158, .iload 4, 2, 0, 0, 0, 0), (0, 0, 0)), ((160, .iload 7, 2, 0, 0, 0, 0), (0, 0, 0)), ((162, .iadd, 1, 0, 0, 0, 0), (0, 0, 0)), ((163, .istore 5, 2, 0, 0, 0, 0), (0, 0, 0)), ((165, .goto 65, 3, 0, 0, 0, 0), (0, 0, 0)), ((230, .goto (-214), 3, 0, 0, 0, 0), (0, 0, 0))] (by decide +kernel) rfl ?_
                  exact hx_pick [0, 2, 3, 4, 5] (ih x2 x3 x4 (gx_w (x4 + (Int.tmod (m 97 (x5).toNat) 1048576))) m g)
              · refine hx_blk (npc := 155) (L' := [(0, .inr (.inl 86)), (2, .inl x2), (3, .inl x3), (4, .inl x4), (5, .inl (gx_w (x5 + 1))), (6, .inl (gx_w (Int.tdiv (m 97 (x5).toNat) 1048576))), (7, .inl (Int.tmod (m 97 (x5).toNat) 1048576))]) (st' := [.inl 1, .inl (m 102 (gx_w (x3 - 1)).toNat)]) (m' := m) [((150, .iconst 1, 1, 0, 0, 0, 0), (0, 0, 0)), ((151, .goto 4, 3, 0, 0, 0, 0), (0, 0, 0))] (by decide +kernel) rfl ?_
                refine hx_cmp .ne 168 (by decide +kernel) (fun _ => ?_) (fun _ => ?_)
                · refine hx_blk (npc := 16) (L' := [(0, .inr (.inl 86)), (2, .inl x2), (3, .inl (gx_w (x3 - 1))), (4, .inl x4), (5, .inl (gx_w (x5 + 1))), (6, .inl (gx_w (Int.tdiv (m 97 (x5).toNat) 1048576))), (7, .inl (Int.tmod (m 97 (x5).toNat) 1048576))]) (st' := []) (m' := m) [((168, .iload_n 3, 1, 0, 0, 0, 0), (0, 0, 0)), ((169, .iconst 1, 1, 0, 0, 0, 0), (0, 0, 0)), ((170, .isub, 1, 0, 0, 0, 0), (0, 0, 0)), ((171, .istore_n 3, 1, 0, 0, 0, 0), (0, 0, 0)), ((172, .goto 58, 3, 0, 0, 0, 0), (0, 0, 0)), ((230, .goto (-214), 3, 0, 0, 0, 0), (0, 0, 0))] (by decide +kernel) rfl ?_
                  exact hx_pick [0, 2, 3, 4, 5] (ih x2 (gx_w (x3 - 1)) x4 (gx_w (x5 + 1)) m g)
                · refine hx_blk (npc := 16) (L' := [(0, .inr (.inl 86)), (2, .inl x2), (3, .inl x3), (4, .inl x4), (5, .inl (gx_w (x4 + (Int.tmod (m 97 (x5).toNat) 1048576)))), (6, .inl (gx_w (Int.tdiv (m 97 (x5).toNat) 1048576))), (7, .inl (Int.tmod (m 97 (x5).toNat) 1048576))]) (st' := []) (m' := m) [((158, .iload 4, 2, 0, 0, 0, 0), (0, 0, 0)), ((160, .iload 7, 2, 0, 0, 0, 0), (0, 0, 0)), ((162, .iadd, 1, 0, 0, 0, 0), (0, 0, 0)), ((163, .istore 5, 2, 0, 0, 0, 0), (0, 0, 0)), ((165, .goto 65, 3, 0, 0, 0, 0), (0, 0, 0)), ((230, .goto (-214), 3, 0, 0, 0, 0), (0, 0, 0))] (by decide +kernel) rfl ?_
                  exact hx_pick [0, 2, 3, 4, 5] (ih x2 x3 x4 (gx_w (x4 + (Int.tmod (m 97 (x5).toNat) 1048576))) m g)
            · refine hx_blk (npc := 132) (L' := [(0, .inr (.inl 86)), (2, .inl x2), (3, .inl x3), (4, .inl x4), (5, .inl (gx_w (x5 + 1))), (6, .inl (gx_w (Int.tdiv (m 97 (x5).toNat) 1048576))), (7, .inl (Int.tmod (m 97 (x5).toNat) 1048576))]) (st' := [.inl 12, .inl (gx_w (Int.tdiv (m 97 (x5).toNat) 1048576))]) (m' := m) [((128, .iload 6, 2, 0, 0, 0, 0), (0, 0, 0)), ((130, .bipush 12, 2, 0, 0, 0, 0), (0, 0, 0))] (by decide +kernel) rfl ?_
              refine hx_cmp .ne 175 (by decide +kernel) (fun _ => ?_) (fun _ => ?_)
              · refine hx_blk (npc := 182) (L' := [(0, .inr (.inl 86)), (2, .inl x2), (3, .inl (gx_w (x3 - 1))), (4, .inl x4), (5, .inl (gx_w (x5 + 1))), (6, .inl (gx_w (Int.tdiv (m 97 (x5).toNat) 1048576))), (7, .inl (Int.tmod (m 97 (x5).toNat) 1048576))]) (st' := [.inl 5, .inl (gx_w (Int.tdiv (m 97 (x5).toNat) 1048576))]) (m' := m) [((175, .iload_n 3, 1, 0, 0, 0, 0), (0, 0, 0)), ((176, .iconst 1, 1, 0, 0, 0, 0), (0, 0, 0)), ((177, .isub, 1, 0, 0, 0, 0), (0, 0, 0)), ((178, .istore_n 3, 1, 0, 0, 0, 0), (0, 0, 0)), ((179, .iload 6, 2, 0, 0, 0, 0), (0, 0, 0)), ((181, .iconst 5, 1, 0, 0, 0, 0), (0, 0, 0))] (by decide +kernel) rfl ?_
                refine hx_cmp .eq 192 (by decide +kernel) (fun _ => ?_) (fun _ => ?_)
                · refine hx_blk (npc := 198) (L' := [(0, .inr (.inl 86)), (2, .inl x2), (3, .inl (gx_w (x3 - 1))), (4, .inl x4), (5, .inl (gx_w (x5 + 1))), (6, .inl (gx_w (Int.tdiv (m 97 (x5).toNat) 1048576))), (7, .inl (Int.tmod (m 97 (x5).toNat) 1048576))]) (st' := [.inl (m 102 (gx_w (x3 - 1)).toNat)]) (m' := m) [((192, .aload_n 0, 1, 0, 0, 0, 0), (0, 0, 0)), ((193, .getfield 56, 3, 10, 25, 5138, 0), (1, 86, 102)), ((196, .iload_n 3, 1, 0, 0, 0, 0), (0, 0, 0)), ((197, .iaload, 1, 0, 0, 0, 0), (0, 102, 0))] (by decide +kernel) rfl ?_
                  refine hx_if .ne 203 (by decide +kernel) (fun _ => ?_) (fun _ => ?_)
                  · refine hx_blk (npc := 226) (L' := [(0, .inr (.inl 86)), (2, .inl x2), (3, .inl (gx_w (x3 - 1))), (4, .inl x4), (5, .inl (gx_w (x5 + 1))), (6, .inl (gx_w (Int.tdiv (m 97 (x5).toNat) 1048576))), (7, .inl (Int.tmod (m 97 (x5).toNat) 1048576))]) (st' := [.inl (m 102 (gx_w (x3 - 1)).toNat), .inl (m 102 (gx_w ((gx_w (x3 - 1)) - 1)).toNat), .inl (gx_w (Int.tdiv (m 97 (x5).toNat) 1048576)), .inl (gx_w ((gx_w (x3 - 1)) - 1)), .inr (.inl 102)]) (m' := m) [((203, .aload_n 0, 1, 0, 0, 0, 0), (0, 0, 0)), ((204, .getfield 56, 3, 10, 25, 5138, 0), (1, 86, 102)), ((207, .iload_n 3, 1, 0, 0, 0, 0), (0, 0, 0)), ((208, .iconst 1, 1, 0, 0, 0, 0), (0, 0, 0)), ((209, .isub, 1, 0, 0, 0, 0), (0, 0, 0)), ((210, .iload 6, 2, 0, 0, 0, 0), (0, 0, 0)), ((212, .aload_n 0, 1, 0, 0, 0, 0), (0, 0, 0)), ((213, .getfield 56, 3, 10, 25, 5138, 0), (1, 86, 102)), ((216, .iload_n 3, 1, 0, 0, 0, 0), (0, 0, 0)), ((217, .iconst 1, 1, 0, 0, 0, 0), (0, 0, 0)), ((218, .isub, 1, 0, 0, 0, 0), (0, 0, 0)), ((219, .iaload, 1, 0, 0, 0, 0), (0, 102, 0)), ((220, .aload_n 0, 1, 0, 0, 0, 0), (0, 0, 0)), ((221, .getfield 56, 3, 10, 25, 5138, 0), (1, 86, 102)), ((224, .iload_n 3, 1, 0, 0, 0, 0), (0, 0, 0)), ((225, .iaload, 1, 0, 0, 0, 0), (0, 102, 0))] (by decide +kernel) rfl ?_
                    refine hx_call (E := (226, .invokestatic 228, 3, 209, 0, 6206, 0)) (M' := yp_m209) [.inl (gx_w (Int.tdiv (m 97 (x5).toNat) 1048576)), .inl (m 102 (gx_w ((gx_w (x3 - 1)) - 1)).toNat), .inl (m 102 (gx_w (x3 - 1)).toNat)] [.inl (gx_w ((gx_w (x3 - 1)) - 1)), .inr (.inl 102)] rfl (by decide +kernel) rfl ⟨rfl, rfl⟩ rfl rfl (hF209g (m0 := m0) g (fun v1 m1 g1 => ?_))
                    show hxn xs n yp_m208 229 [(0, .inr (.inl 86)), (2, .inl x2), (3, .inl (gx_w (x3 - 1))), (4, .inl x4), (5, .inl (gx_w (x5 + 1))), (6, .inl (gx_w (Int.tdiv (m 97 (x5).toNat) 1048576))), (7, .inl (Int.tmod (m 97 (x5).toNat) 1048576))] [.inl v1, .inl (gx_w ((gx_w (x3 - 1)) - 1)), .inr (.inl 102)] m1 Q
                    refine hx_blk (npc := 16) (L' := [(0, .inr (.inl 86)), (2, .inl x2), (3, .inl (gx_w (x3 - 1))), (4, .inl x4), (5, .inl (gx_w (x5 + 1))), (6, .inl (gx_w (Int.tdiv (m 97 (x5).toNat) 1048576))), (7, .inl (Int.tmod (m 97 (x5).toNat) 1048576))]) (st' := []) (m' := (gx_u m1 102 (gx_w ((gx_w (x3 - 1)) - 1)).toNat v1)) [((229, .iastore, 1, 0, 0, 0, 0), (0, 102, 0)), ((230, .goto (-214), 3, 0, 0, 0, 0), (0, 0, 0))] (by decide +kernel) rfl ?_
                    exact hx_pick [0, 2, 3, 4, 5] (ih x2 (gx_w (x3 - 1)) x4 (gx_w (x5 + 1)) (gx_u m1 102 (gx_w ((gx_w (x3 - 1)) - 1)).toNat v1) (g1.w 102 (by decide)))
                  · refine hx_blk (npc := 202) (L' := [(0, .inr (.inl 86)), (2, .inl x2), (3, .inl (gx_w (x3 - 1))), (4, .inl x4), (5, .inl (gx_w (x5 + 1))), (6, .inl (gx_w (Int.tdiv (m 97 (x5).toNat) 1048576))), (7, .inl (Int.tmod (m 97 (x5).toNat) 1048576))]) (st' := [.inl 0]) (m' := m) [((201, .iconst 0, 1, 0, 0, 0, 0), (0, 0, 0))] (by decide +kernel) rfl ?_
                    exact hx_reti (by decide +kernel) (hQ _ _ g)
                · refine hx_blk (npc := 189) (L' := [(0, .inr (.inl 86)), (2, .inl x2), (3, .inl (gx_w (x3 - 1))), (4, .inl x4), (5, .inl (gx_w (x5 + 1))), (6, .inl (gx_w (Int.tdiv (m 97 (x5).toNat) 1048576))), (7, .inl (Int.tmod (m 97 (x5).toNat) 1048576))]) (st' := [.inl 6, .inl (gx_w (Int.tdiv (m 97 (x5).toNat) 1048576))]) (m' := m) [((185, .iload 6, 2, 0, 0, 0, 0), (0, 0, 0)), ((187, .bipush 6, 2, 0, 0, 0, 0), (0, 0, 0))] (by decide +kernel) rfl ?_
                  refine hx_cmp .ne 203 (by decide +kernel) (fun _ => ?_) (fun _ => ?_)
                  · refine hx_blk (npc := 226) (L' := [(0, .inr (.inl 86)), (2, .inl x2), (3, .inl (gx_w (x3 - 1))), (4, .inl x4), (5, .inl (gx_w (x5 + 1))), (6, .inl (gx_w (Int.tdiv (m 97 (x5).toNat) 1048576))), (7, .inl (Int.tmod (m 97 (x5).toNat) 1048576))]) (st' := [.inl (m 102 (gx_w (x3 - 1)).toNat), .inl (m 102 (gx_w ((gx_w (x3 - 1)) - 1)).toNat), .inl (gx_w (Int.tdiv (m 97 (x5).toNat) 1048576)), .inl (gx_w ((gx_w (x3 - 1)) - 1)), .inr (.inl 102)]) (m' := m) [((203, .aload_n 0, 1, 0, 0, 0, 0), (0, 0, 0)), ((204, .getfield 56, 3, 10, 25, 5138, 0), (1, 86, 102)), ((207, .iload_n 3, 1, 0, 0, 0, 0), (0, 0, 0)), ((208, .iconst 1, 1, 0, 0, 0, 0), (0, 0, 0)), ((209, .isub, 1, 0, 0, 0, 0), (0, 0, 0)), ((210, .iload 6, 2, 0, 0, 0, 0), (0, 0, 0)), ((212, .aload_n 0, 1, 0, 0, 0, 0), (0, 0, 0)), ((213, .getfield 56, 3, 10, 25, 5138, 0), (1, 86, 102)), ((216, .iload_n 3, 1, 0, 0, 0, 0), (0, 0, 0)), ((217, .iconst 1, 1, 0, 0, 0, 0), (0, 0, 0)), ((218, .isub, 1, 0, 0, 0, 0), (0, 0, 0)), ((219, .iaload, 1, 0, 0, 0, 0), (0, 102, 0)), ((220, .aload_n 0, 1, 0, 0, 0, 0), (0, 0, 0)), ((221, .getfield 56, 3, 10, 25, 5138, 0), (1, 86, 102)), ((224, .iload_n 3, 1, 0, 0, 0, 0), (0, 0, 0)), ((225, .iaload, 1, 0, 0, 0, 0), (0, 102, 0))] (by decide +kernel) rfl ?_
                    refine hx_call (E := (226, .invokestatic 228, 3, 209, 0, 6206, 0)) (M' := yp_m209) [.inl (gx_w (Int.tdiv (m 97 (x5).toNat) 1048576)), .inl (m 102 (gx_w ((gx_w (x3 - 1)) - 1)).toNat), .inl (m 102 (gx_w (x3 - 1)).toNat)] [.inl (gx_w ((gx_w (x3 - 1)) - 1)), .inr (.inl 102)] rfl (by decide +kernel) rfl ⟨rfl, rfl⟩ rfl rfl (hF209g (m0 := m0) g (fun v2 m2 g2 => ?_))
                    show hxn xs n yp_m208 229 [(0, .inr (.inl 86)), (2, .inl x2), (3, .inl (gx_w (x3 - 1))), (4, .inl x4), (5, .inl (gx_w (x5 + 1))), (6, .inl (gx_w (Int.tdiv (m 97 (x5).toNat) 1048576))), (7, .inl (Int.tmod (m 97 (x5).toNat) 1048576))] [.inl v2, .inl (gx_w ((gx_w (x3 - 1)) - 1)), .inr (.inl 102)] m2 Q
                    refine hx_blk (npc := 16) (L' := [(0, .inr (.inl 86)), (2, .inl x2), (3, .inl (gx_w (x3 - 1))), (4, .inl x4), (5, .inl (gx_w (x5 + 1))), (6, .inl (gx_w (Int.tdiv (m 97 (x5).toNat) 1048576))), (7, .inl (Int.tmod (m 97 (x5).toNat) 1048576))]) (st' := []) (m' := (gx_u m2 102 (gx_w ((gx_w (x3 - 1)) - 1)).toNat v2)) [((229, .iastore, 1, 0, 0, 0, 0), (0, 102, 0)), ((230, .goto (-214), 3, 0, 0, 0, 0), (0, 0, 0))] (by decide +kernel) rfl ?_
                    exact hx_pick [0, 2, 3, 4, 5] (ih x2 (gx_w (x3 - 1)) x4 (gx_w (x5 + 1)) (gx_u m2 102 (gx_w ((gx_w (x3 - 1)) - 1)).toNat v2) (g2.w 102 (by decide)))
                  · refine hx_blk (npc := 198) (L' := [(0, .inr (.inl 86)), (2, .inl x2), (3, .inl (gx_w (x3 - 1))), (4, .inl x4), (5, .inl (gx_w (x5 + 1))), (6, .inl (gx_w (Int.tdiv (m 97 (x5).toNat) 1048576))), (7, .inl (Int.tmod (m 97 (x5).toNat) 1048576))]) (st' := [.inl (m 102 (gx_w (x3 - 1)).toNat)]) (m' := m) [((192, .aload_n 0, 1, 0, 0, 0, 0), (0, 0, 0)), ((193, .getfield 56, 3, 10, 25, 5138, 0), (1, 86, 102)), ((196, .iload_n 3, 1, 0, 0, 0, 0), (0, 0, 0)), ((197, .iaload, 1, 0, 0, 0, 0), (0, 102, 0))] (by decide +kernel) rfl ?_
                    refine hx_if .ne 203 (by decide +kernel) (fun _ => ?_) (fun _ => ?_)
                    · refine hx_blk (npc := 226) (L' := [(0, .inr (.inl 86)), (2, .inl x2), (3, .inl (gx_w (x3 - 1))), (4, .inl x4), (5, .inl (gx_w (x5 + 1))), (6, .inl (gx_w (Int.tdiv (m 97 (x5).toNat) 1048576))), (7, .inl (Int.tmod (m 97 (x5).toNat) 1048576))]) (st' := [.inl (m 102 (gx_w (x3 - 1)).toNat), .inl (m 102 (gx_w ((gx_w (x3 - 1)) - 1)).toNat), .inl (gx_w (Int.tdiv (m 97 (x5).toNat) 1048576)), .inl (gx_w ((gx_w (x3 - 1)) - 1)), .inr (.inl 102)]) (m' := m) [((203, .aload_n 0, 1, 0, 0, 0, 0), (0, 0, 0)), ((204, .getfield 56, 3, 10, 25, 5138, 0), (1, 86, 102)), ((207, .iload_n 3, 1, 0, 0, 0, 0), (0, 0, 0)), ((208, .iconst 1, 1, 0, 0, 0, 0), (0, 0, 0)), ((209, .isub, 1, 0, 0, 0, 0), (0, 0, 0)), ((210, .iload 6, 2, 0, 0, 0, 0), (0, 0, 0)), ((212, .aload_n 0, 1, 0, 0, 0, 0), (0, 0, 0)), ((213, .getfield 56, 3, 10, 25, 5138, 0), (1, 86, 102)), ((216, .iload_n 3, 1, 0, 0, 0, 0), (0, 0, 0)), ((217, .iconst 1, 1, 0, 0, 0, 0), (0, 0, 0)), ((218, .isub, 1, 0, 0, 0, 0), (0, 0, 0)), ((219, .iaload, 1, 0, 0, 0, 0), (0, 102, 0)), ((220, .aload_n 0, 1, 0, 0, 0, 0), (0, 0, 0)), ((221, .getfield 56, 3, 10, 25, 5138, 0), (1, 86, 102)), ((224, .iload_n 3, 1, 0, 0, 0, 0), (0, 0, 0)), ((225, .iaload, 1, 0, 0, 0, 0), (0, 102, 0))] (by decide +kernel) rfl ?_
                      refine hx_call (E := (226, .invokestatic 228, 3, 209, 0, 6206, 0)) (M' := yp_m209) [.inl (gx_w (Int.tdiv (m 97 (x5).toNat) 1048576)), .inl (m 102 (gx_w ((gx_w (x3 - 1)) - 1)).toNat), .inl (m 102 (gx_w (x3 - 1)).toNat)] [.inl (gx_w ((gx_w (x3 - 1)) - 1)), .inr (.inl 102)] rfl (by decide +kernel) rfl ⟨rfl, rfl⟩ rfl rfl (hF209g (m0 := m0) g (fun v3 m3 g3 => ?_))
                      show hxn xs n yp_m208 229 [(0, .inr (.inl 86)), (2, .inl x2), (3, .inl (gx_w (x3 - 1))), (4, .inl x4), (5, .inl (gx_w (x5 + 1))), (6, .inl (gx_w (Int.tdiv (m 97 (x5).toNat) 1048576))), (7, .inl (Int.tmod (m 97 (x5).toNat) 1048576))] [.inl v3, .inl (gx_w ((gx_w (x3 - 1)) - 1)), .inr (.inl 102)] m3 Q
                      refine hx_blk (npc := 16) (L' := [(0, .inr (.inl 86)), (2, .inl x2), (3, .inl (gx_w (x3 - 1))), (4, .inl x4), (5, .inl (gx_w (x5 + 1))), (6, .inl (gx_w (Int.tdiv (m 97 (x5).toNat) 1048576))), (7, .inl (Int.tmod (m 97 (x5).toNat) 1048576))]) (st' := []) (m' := (gx_u m3 102 (gx_w ((gx_w (x3 - 1)) - 1)).toNat v3)) [((229, .iastore, 1, 0, 0, 0, 0), (0, 102, 0)), ((230, .goto (-214), 3, 0, 0, 0, 0), (0, 0, 0))] (by decide +kernel) rfl ?_
                      exact hx_pick [0, 2, 3, 4, 5] (ih x2 (gx_w (x3 - 1)) x4 (gx_w (x5 + 1)) (gx_u m3 102 (gx_w ((gx_w (x3 - 1)) - 1)).toNat v3) (g3.w 102 (by decide)))
                    · refine hx_blk (npc := 202) (L' := [(0, .inr (.inl 86)), (2, .inl x2), (3, .inl (gx_w (x3 - 1))), (4, .inl x4), (5, .inl (gx_w (x5 + 1))), (6, .inl (gx_w (Int.tdiv (m 97 (x5).toNat) 1048576))), (7, .inl (Int.tmod (m 97 (x5).toNat) 1048576))]) (st' := [.inl 0]) (m' := m) [((201, .iconst 0, 1, 0, 0, 0, 0), (0, 0, 0))] (by decide +kernel) rfl ?_
                      exact hx_reti (by decide +kernel) (hQ _ _ g)
              · refine hx_blk (npc := 147) (L' := [(0, .inr (.inl 86)), (2, .inl x2), (3, .inl x3), (4, .inl x4), (5, .inl (gx_w (x5 + 1))), (6, .inl (gx_w (Int.tdiv (m 97 (x5).toNat) 1048576))), (7, .inl (Int.tmod (m 97 (x5).toNat) 1048576))]) (st' := [.inl 12, .inl (gx_w (Int.tdiv (m 97 (x5).toNat) 1048576)), .inl (m 102 (gx_w (x3 - 1)).toNat)]) (m' := m) [((135, .aload_n 0, 1, 0, 0, 0, 0), (0, 0, 0)), ((136, .getfield 56, 3, 10, 25, 5138, 0), (1, 86, 102)), ((139, .iload_n 3, 1, 0, 0, 0, 0), (0, 0, 0)), ((140, .iconst 1, 1, 0, 0, 0, 0), (0, 0, 0)), ((141, .isub, 1, 0, 0, 0, 0), (0, 0, 0)), ((142, .iaload, 1, 0, 0, 0, 0), (0, 102, 0)), ((143, .iload 6, 2, 0, 0, 0, 0), (0, 0, 0)), ((145, .bipush 12, 2, 0, 0, 0, 0), (0, 0, 0))] (by decide +kernel) rfl ?_
                refine hx_cmp .ne 154 (by decide +kernel) (fun _ => ?_) (fun _ => ?_)
                · refine hx_blk (npc := 155) (L' := [(0, .inr (.inl 86)), (2, .inl x2), (3, .inl x3), (4, .inl x4), (5, .inl (gx_w (x5 + 1))), (6, .inl (gx_w (Int.tdiv (m 97 (x5).toNat) 1048576))), (7, .inl (Int.tmod (m 97 (x5).toNat) 1048576))]) (st' := [.inl 0, .inl (m 102 (gx_w (x3 - 1)).toNat)]) (m' := m) [((154, .iconst 0, 1, 0, 0, 0, 0), (0, 0, 0))] (by decide +kernel) rfl ?_
                  refine hx_cmp .ne 168 (by decide +kernel) (fun _ => ?_) (fun _ => ?_)
                  · refine hx_blk (npc := 16) (L' := [(0, .inr (.inl 86)), (2, .inl x2), (3, .inl (gx_w (x3 - 1))), (4, .inl x4), (5, .inl (gx_w (x5 + 1))), (6, .inl (gx_w (Int.tdiv (m 97 (x5).toNat) 1048576))), (7, .inl (Int.tmod (m 97 (x5).toNat) 1048576))]) (st' := []) (m' := m) [((168, .iload_n 3, 1, 0, 0, 0, 0), (0, 0, 0)), ((169, .iconst 1, 1, 0, 0, 0, 0), (0, 0, 0)), ((170, .isub, 1, 0, 0, 0, 0), (0, 0, 0)), ((171, .istore_n 3, 1, 0, 0, 0, 0), (0, 0, 0)), ((172, .goto 58, 3, 0, 0, 0, 0), (0, 0, 0)), ((230, .goto (-214), 3, 0, 0, 0, 0), (0, 0, 0))] (by decide +kernel) rfl ?_
                    exact hx_pick [0, 2, 3, 4, 5] (ih x2 (gx_w (x3 - 1)) x4 (gx_w (x5 + 1)) m g)
                  · refine hx_blk (npc := 16) (L' := [(0, .inr (.inl 86)), (2, .inl x2), (3, .inl x3), (4, .inl x4), (5, .inl (gx_w (x4 + (Int.tmod (m 97 (x5).toNat) 1048576)))), (6, .inl (gx_w (Int.tdiv (m 97 (x5).toNat) 1048576))), (7, .inl (Int.tmod (m 97 (x5).toNat) 1048576))]) (st' := []) (m' := m) [((158, .iload 4, 2, 0, 0, 0, 0), (0, 0, 0)), ((160, .iload 7, 2, 0, 0, 0, 0), (0, 0, 0)), ((162, .iadd, 1, 0, 0, 0, 0), (0, 0, 0)), ((163, .istore 5, 2, 0, 0, 0, 0), (0, 0, 0)), ((165, .goto 65, 3, 0, 0, 0, 0), (0, 0, 0)), ((230, .goto (-214), 3, 0, 0, 0, 0), (0, 0, 0))] (by decide +kernel) rfl ?_
                    exact hx_pick [0, 2, 3, 4, 5] (ih x2 x3 x4 (gx_w (x4 + (Int.tmod (m 97 (x5).toNat) 1048576))) m g)
                · refine hx_blk (npc := 155) (L' := [(0, .inr (.inl 86)), (2, .inl x2), (3, .inl x3), (4, .inl x4), (5, .inl (gx_w (x5 + 1))), (6, .inl (gx_w (Int.tdiv (m 97 (x5).toNat) 1048576))), (7, .inl (Int.tmod (m 97 (x5).toNat) 1048576))]) (st' := [.inl 1, .inl (m 102 (gx_w (x3 - 1)).toNat)]) (m' := m) [((150, .iconst 1, 1, 0, 0, 0, 0), (0, 0, 0)), ((151, .goto 4, 3, 0, 0, 0, 0), (0, 0, 0))] (by decide +kernel) rfl ?_
                  refine hx_cmp .ne 168 (by decide +kernel) (fun _ => ?_) (fun _ => ?_)
                  · refine hx_blk (npc := 16) (L' := [(0, .inr (.inl 86)), (2, .inl x2), (3, .inl (gx_w (x3 - 1))), (4, .inl x4), (5, .inl (gx_w (x5 + 1))), (6, .inl (gx_w (Int.tdiv (m 97 (x5).toNat) 1048576))), (7, .inl (Int.tmod (m 97 (x5).toNat) 1048576))]) (st' := []) (m' := m) [((168, .iload_n 3, 1, 0, 0, 0, 0), (0, 0, 0)), ((169, .iconst 1, 1, 0, 0, 0, 0), (0, 0, 0)), ((170, .isub, 1, 0, 0, 0, 0), (0, 0, 0)), ((171, .istore_n 3, 1, 0, 0, 0, 0), (0, 0, 0)), ((172, .goto 58, 3, 0, 0, 0, 0), (0, 0, 0)), ((230, .goto (-214), 3, 0, 0, 0, 0), (0, 0, 0))] (by decide +kernel) rfl ?_
                    exact hx_pick [0, 2, 3, 4, 5] (ih x2 (gx_w (x3 - 1)) x4 (gx_w (x5 + 1)) m g)
                  · refine hx_blk (npc := 16) (L' := [(0, .inr (.inl 86)), (2, .inl x2), (3, .inl x3), (4, .inl x4), (5, .inl (gx_w (x4 + (Int.tmod (m 97 (x5).toNat) 1048576)))), (6, .inl (gx_w (Int.tdiv (m 97 (x5).toNat) 1048576))), (7, .inl (Int.tmod (m 97 (x5).toNat) 1048576))]) (st' := []) (m' := m) [((158, .iload 4, 2, 0, 0, 0, 0), (0, 0, 0)), ((160, .iload 7, 2, 0, 0, 0, 0), (0, 0, 0)), ((162, .iadd, 1, 0, 0, 0, 0), (0, 0, 0)), ((163, .istore 5, 2, 0, 0, 0, 0), (0, 0, 0)), ((165, .goto 65, 3, 0, 0, 0, 0), (0, 0, 0)), ((230, .goto (-214), 3, 0, 0, 0, 0), (0, 0, 0))] (by decide +kernel) rfl ?_
                    exact hx_pick [0, 2, 3, 4, 5] (ih x2 x3 x4 (gx_w (x4 + (Int.tmod (m 97 (x5).toNat) 1048576))) m g)
          · refine hx_blk (npc := 16) (L' := [(0, .inr (.inl 86)), (2, .inl x2), (3, .inl x3), (4, .inl x4), (5, .inl (gx_w (x5 + 1))), (6, .inl (gx_w (Int.tdiv (m 97 (x5).toNat) 1048576))), (7, .inl (Int.tmod (m 97 (x5).toNat) 1048576))]) (st' := []) (m' := (gx_u m 102 (gx_w (x3 - 1)).toNat (gx_w (1 - (m 102 (gx_w (x3 - 1)).toNat))))) [((100, .aload_n 0, 1, 0, 0, 0, 0), (0, 0, 0)), ((101, .getfield 56, 3, 10, 25, 5138, 0), (1, 86, 102)), ((104, .iload_n 3, 1, 0, 0, 0, 0), (0, 0, 0)), ((105, .iconst 1, 1, 0, 0, 0, 0), (0, 0, 0)), ((106, .isub, 1, 0, 0, 0, 0), (0, 0, 0)), ((107, .iconst 1, 1, 0, 0, 0, 0), (0, 0, 0)), ((108, .aload_n 0, 1, 0, 0, 0, 0), (0, 0, 0)), ((109, .getfield 56, 3, 10, 25, 5138, 0), (1, 86, 102)), ((112, .iload_n 3, 1, 0, 0, 0, 0), (0, 0, 0)), ((113, .iconst 1, 1, 0, 0, 0, 0), (0, 0, 0)), ((114, .isub, 1, 0, 0, 0, 0), (0, 0, 0)), ((115, .iaload, 1, 0, 0, 0, 0), (0, 102, 0)), ((116, .isub, 1, 0, 0, 0, 0), (0, 0, 0)), ((117, .iastore, 1, 0, 0, 0, 0), (0, 102, 0)), ((118, .goto 112, 3, 0, 0, 0, 0), (0, 0, 0)), ((230, .goto (-214), 3, 0, 0, 0, 0), (0, 0, 0))] (by decide +kernel) rfl ?_
            exact hx_pick [0, 2, 3, 4, 5] (ih x2 x3 x4 (gx_w (x5 + 1)) (gx_u m 102 (gx_w (x3 - 1)).toNat (gx_w (1 - (m 102 (gx_w (x3 - 1)).toNat)))) (g.w 102 (by decide)))
        · refine hx_blk (npc := 70) (L' := [(0, .inr (.inl 86)), (2, .inl x2), (3, .inl x3), (4, .inl x4), (5, .inl (gx_w (x5 + 1))), (6, .inl (gx_w (Int.tdiv (m 97 (x5).toNat) 1048576))), (7, .inl (Int.tmod (m 97 (x5).toNat) 1048576))]) (st' := [.inl (gx_w (Int.tdiv (m 97 (x5).toNat) 1048576)), .inl x3, .inr (.inl 102)]) (m' := m) [((63, .aload_n 0, 1, 0, 0, 0, 0), (0, 0, 0)), ((64, .getfield 56, 3, 10, 25, 5138, 0), (1, 86, 102)), ((67, .iload_n 3, 1, 0, 0, 0, 0), (0, 0, 0)), ((68, .iload 6, 2, 0, 0, 0, 0), (0, 0, 0))] (by decide +kernel) rfl ?_
          refine hx_if .ne 78 (by decide +kernel) (fun _ => ?_) (fun _ => ?_)
          · refine hx_blk (npc := 16) (L' := [(0, .inr (.inl 86)), (2, .inl x2), (3, .inl (gx_w (x3 + 1))), (4, .inl x4), (5, .inl (gx_w (x5 + 1))), (6, .inl (gx_w (Int.tdiv (m 97 (x5).toNat) 1048576))), (7, .inl (Int.tmod (m 97 (x5).toNat) 1048576))]) (st' := []) (m' := (gx_u m 102 (x3).toNat (m 103 (Int.tmod (m 97 (x5).toNat) 1048576).toNat))) [((78, .aload_n 0, 1, 0, 0, 0, 0), (0, 0, 0)), ((79, .getfield 59, 3, 10, 26, 5139, 0), (1, 86, 103)), ((82, .iload 7, 2, 0, 0, 0, 0), (0, 0, 0)), ((84, .iaload, 1, 0, 0, 0, 0), (0, 103, 0)), ((85, .iastore, 1, 0, 0, 0, 0), (0, 102, 0)), ((86, .iload_n 3, 1, 0, 0, 0, 0), (0, 0, 0)), ((87, .iconst 1, 1, 0, 0, 0, 0), (0, 0, 0)), ((88, .iadd, 1, 0, 0, 0, 0), (0, 0, 0)), ((89, .istore_n 3, 1, 0, 0, 0, 0), (0, 0, 0)), ((90, .goto 140, 3, 0, 0, 0, 0), (0, 0, 0)), ((230, .goto (-214), 3, 0, 0, 0, 0), (0, 0, 0))] (by decide +kernel) rfl ?_
            exact hx_pick [0, 2, 3, 4, 5] (ih x2 (gx_w (x3 + 1)) x4 (gx_w (x5 + 1)) (gx_u m 102 (x3).toNat (m 103 (Int.tmod (m 97 (x5).toNat) 1048576).toNat)) (g.w 102 (by decide)))
          · refine hx_blk (npc := 16) (L' := [(0, .inr (.inl 86)), (2, .inl x2), (3, .inl (gx_w (x3 + 1))), (4, .inl x4), (5, .inl (gx_w (x5 + 1))), (6, .inl (gx_w (Int.tdiv (m 97 (x5).toNat) 1048576))), (7, .inl (Int.tmod (m 97 (x5).toNat) 1048576))]) (st' := []) (m' := (gx_u m 102 (x3).toNat (Int.tmod (m 97 (x5).toNat) 1048576))) [((73, .iload 7, 2, 0, 0, 0, 0), (0, 0, 0)), ((75, .goto 10, 3, 0, 0, 0, 0), (0, 0, 0)), ((85, .iastore, 1, 0, 0, 0, 0), (0, 102, 0)), ((86, .iload_n 3, 1, 0, 0, 0, 0), (0, 0, 0)), ((87, .iconst 1, 1, 0, 0, 0, 0), (0, 0, 0)), ((88, .iadd, 1, 0, 0, 0, 0), (0, 0, 0)), ((89, .istore_n 3, 1, 0, 0, 0, 0), (0, 0, 0)), ((90, .goto 140, 3, 0, 0, 0, 0), (0, 0, 0)), ((230, .goto (-214), 3, 0, 0, 0, 0), (0, 0, 0))] (by decide +kernel) rfl ?_
            exact hx_pick [0, 2, 3, 4, 5] (ih x2 (gx_w (x3 + 1)) x4 (gx_w (x5 + 1)) (gx_u m 102 (x3).toNat (Int.tmod (m 97 (x5).toNat) 1048576)) (g.w 102 (by decide)))
theorem hF208g {xs : List Int32} {n : Nat} {Q : hQ} {m0 m : gx_M} {x1 x2 : Int} (g : hFr hFg m0 m) (hQ : ∀ v m', hFr hFg m0 m' → Q (some (.inl v)) m') : hxn xs n yp_m208 0 [(0, .inr (.inl 86)), (1, .inl x1), (2, .inl x2)] [] m Q := by
  refine hx_dn ?_
  refine hx_blks (npc := 16) (L' := [(0, .inr (.inl 86)), (1, .inl x1), (2, .inl x2), (3, .inl 0), (4, .inl (gx_w (260 * (gx_w (Int.tdiv x1 260))))), (5, .inl x1)]) (st' := []) (m' := m) ((0, .iconst 0, 1, 0, 0, 0, 0), (0, 0, 0)) [((1, .istore_n 3, 1, 0, 0, 0, 0), (0, 0, 0)), ((2, .sipush 260, 3, 0, 0, 0, 0), (0, 0, 0)), ((5, .iload_n 1, 1, 0, 0, 0, 0), (0, 0, 0)), ((6, .sipush 260, 3, 0, 0, 0, 0), (0, 0, 0)), ((9, .idiv, 1, 0, 0, 0, 0), (0, 0, 0)), ((10, .imul, 1, 0, 0, 0, 0), (0, 0, 0)), ((11, .istore 4, 2, 0, 0, 0, 0), (0, 0, 0)), ((13, .iload_n 1, 1, 0, 0, 0, 0), (0, 0, 0)), ((14, .istore 5, 2, 0, 0, 0, 0), (0, 0, 0))] (by decide +kernel) rfl ?_
  exact hx_pick [0, 2, 3, 4, 5] ((hF208gl (xs := xs) hQ n) x2 0 (gx_w (260 * (gx_w (Int.tdiv x1 260)))) x1 m g)
theorem hF225gl {xs : List Int32} {Q : hQ} {m0 : gx_M} (hQ : ∀ v m', hFr hFg m0 m' → Q (some (.inl v)) m') : ∀ n : Nat, (∀ (x1 x2 x3 : Int) (m : gx_M), hFr hFg m0 m → hxn xs n yp_m225 2 [(0, .inr (.inl 86)), (1, .inl x1), (2, .inl x2), (3, .inl x3)] [] m Q) := by
  intro n
  induction n with
  | zero => exact fun _ _ _ _ _ => hx_0
  | succ n ih =>
    intro x1 x2 x3 m g
    refine hx_blks (npc := 7) (L' := [(0, .inr (.inl 86)), (1, .inl x1), (2, .inl x2), (3, .inl x3)]) (st' := [.inl (m 86 13), .inl x3]) (m' := m) ((2, .iload_n 3, 1, 0, 0, 0, 0), (0, 0, 0)) [((3, .aload_n 0, 1, 0, 0, 0, 0), (0, 0, 0)), ((4, .getfield 225, 3, 10, 13, 5126, 0), (0, 86, 0))] (by decide +kernel) rfl ?_
    refine hx_cmp .ge 89 (by decide +kernel) (fun _ => ?_) (fun _ => ?_)
    · refine hx_blk (npc := 90) (L' := [(0, .inr (.inl 86)), (1, .inl x1), (2, .inl x2), (3, .inl x3)]) (st' := [.inl 0]) (m' := m) [((89, .iconst 0, 1, 0, 0, 0, 0), (0, 0, 0))] (by decide +kernel) rfl ?_
      exact hx_reti (by decide +kernel) (hQ _ _ g)
    · refine hx_blk (npc := 17) (L' := [(0, .inr (.inl 86)), (1, .inl x1), (2, .inl x2), (3, .inl x3)]) (st' := [.inl x1, .inl (m 98 (x3).toNat)]) (m' := m) [((10, .aload_n 0, 1, 0, 0, 0, 0), (0, 0, 0)), ((11, .getfield 44, 3, 10, 21, 5134, 0), (1, 86, 98)), ((14, .iload_n 3, 1, 0, 0, 0, 0), (0, 0, 0)), ((15, .iaload, 1, 0, 0, 0, 0), (0, 98, 0)), ((16, .iload_n 1, 1, 0, 0, 0, 0), (0, 0, 0))] (by decide +kernel) rfl ?_
      refine hx_cmp .ne 83 (by decide +kernel) (fun _ => ?_) (fun _ => ?_)
      · refine hx_blk (npc := 2) (L' := [(0, .inr (.inl 86)), (1, .inl x1), (2, .inl x2), (3, .inl (gx_w (x3 + 1)))]) (st' := []) (m' := m) [((83, .iinc 3 1, 3, 0, 0, 0, 0), (0, 0, 0)), ((86, .goto (-84), 3, 0, 0, 0, 0), (0, 0, 0))] (by decide +kernel) rfl ?_
        exact hx_pick [0, 1, 2, 3] (ih x1 x2 (gx_w (x3 + 1)) m g)
      · refine hx_blk (npc := 33) (L' := [(0, .inr (.inl 86)), (1, .inl x1), (2, .inl x2), (3, .inl x3)]) (st' := [.inl (m 101 (x3).toNat), .inl (m 100 (x3).toNat), .inr (.inl 86)]) (m' := m) [((20, .aload_n 0, 1, 0, 0, 0, 0), (0, 0, 0)), ((21, .aload_n 0, 1, 0, 0, 0, 0), (0, 0, 0)), ((22, .getfield 50, 3, 10, 23, 5136, 0), (1, 86, 100)), ((25, .iload_n 3, 1, 0, 0, 0, 0), (0, 0, 0)), ((26, .iaload, 1, 0, 0, 0, 0), (0, 100, 0)), ((27, .aload_n 0, 1, 0, 0, 0, 0), (0, 0, 0)), ((28, .getfield 53, 3, 10, 24, 5137, 0), (1, 86, 101)), ((31, .iload_n 3, 1, 0, 0, 0, 0), (0, 0, 0)), ((32, .iaload, 1, 0, 0, 0, 0), (0, 101, 0))] (by decide +kernel) rfl ?_
        refine hx_call (E := (33, .invokevirtual 232, 3, 208, 0, 6202, 0)) (M' := yp_m208) [.inr (.inl 86), .inl (m 100 (x3).toNat), .inl (m 101 (x3).toNat)] [] rfl (by decide +kernel) rfl ⟨rfl, rfl⟩ rfl rfl (hF208g (m0 := m0) g (fun v1 m1 g1 => ?_))
        show hxn xs n yp_m225 36 [(0, .inr (.inl 86)), (1, .inl x1), (2, .inl x2), (3, .inl x3)] [.inl v1] m1 Q
        refine hx_blk (npc := 37) (L' := [(0, .inr (.inl 86)), (1, .inl x1), (2, .inl x2), (3, .inl x3)]) (st' := [.inl 1, .inl v1]) (m' := m1) [((36, .iconst 1, 1, 0, 0, 0, 0), (0, 0, 0))] (by decide +kernel) rfl ?_
        refine hx_cmp .eq 43 (by decide +kernel) (fun _ => ?_) (fun _ => ?_)
        · refine hx_blk (npc := 56) (L' := [(0, .inr (.inl 86)), (1, .inl x1), (2, .inl x2), (3, .inl x3)]) (st' := [.inl (m1 100 (x3).toNat), .inl (m1 99 (x3).toNat), .inr (.inl 86)]) (m' := m1) [((43, .aload_n 0, 1, 0, 0, 0, 0), (0, 0, 0)), ((44, .aload_n 0, 1, 0, 0, 0, 0), (0, 0, 0)), ((45, .getfield 47, 3, 10, 22, 5135, 0), (1, 86, 99)), ((48, .iload_n 3, 1, 0, 0, 0, 0), (0, 0, 0)), ((49, .iaload, 1, 0, 0, 0, 0), (0, 99, 0)), ((50, .aload_n 0, 1, 0, 0, 0, 0), (0, 0, 0)), ((51, .getfield 50, 3, 10, 23, 5136, 0), (1, 86, 100)), ((54, .iload_n 3, 1, 0, 0, 0, 0), (0, 0, 0)), ((55, .iaload, 1, 0, 0, 0, 0), (0, 100, 0))] (by decide +kernel) rfl ?_
          refine hx_call (E := (56, .invokevirtual 232, 3, 208, 0, 6202, 0)) (M' := yp_m208) [.inr (.inl 86), .inl (m1 99 (x3).toNat), .inl (m1 100 (x3).toNat)] [] rfl (by decide +kernel) rfl ⟨rfl, rfl⟩ rfl rfl (hF208g (m0 := m0) g1 (fun v2 m2 g2 => ?_))
          show hxn xs n yp_m225 59 [(0, .inr (.inl 86)), (1, .inl x1), (2, .inl x2), (3, .inl x3)] [.inl v2] m2 Q
          refine hx_blk (npc := 63) (L' := [(0, .inr (.inl 86)), (1, .inl x1), (2, .inl x2), (3, .inl x3), (4, .inl v2)]) (st' := [.inl v2]) (m' := m2) [((59, .istore 4, 2, 0, 0, 0, 0), (0, 0, 0)), ((61, .iload 4, 2, 0, 0, 0, 0), (0, 0, 0))] (by decide +kernel) rfl ?_
          refine hx_if .ge 70 (by decide +kernel) (fun _ => ?_) (fun _ => ?_)
          · refine hx_blk (npc := 73) (L' := [(0, .inr (.inl 86)), (1, .inl x1), (2, .inl x2), (3, .inl x3), (4, .inl v2)]) (st' := [.inl x2, .inl v2]) (m' := m2) [((70, .iload 4, 2, 0, 0, 0, 0), (0, 0, 0)), ((72, .iload_n 2, 1, 0, 0, 0, 0), (0, 0, 0))] (by decide +kernel) rfl ?_
            refine hx_cmp .le 80 (by decide +kernel) (fun _ => ?_) (fun _ => ?_)
            · refine hx_blk (npc := 82) (L' := [(0, .inr (.inl 86)), (1, .inl x1), (2, .inl x2), (3, .inl x3), (4, .inl v2)]) (st' := [.inl v2]) (m' := m2) [((80, .iload 4, 2, 0, 0, 0, 0), (0, 0, 0))] (by decide +kernel) rfl ?_
              exact hx_reti (by decide +kernel) (hQ _ _ g2)
            · refine hx_blk (npc := 82) (L' := [(0, .inr (.inl 86)), (1, .inl x1), (2, .inl x2), (3, .inl x3), (4, .inl v2)]) (st' := [.inl x2]) (m' := m2) [((76, .iload_n 2, 1, 0, 0, 0, 0), (0, 0, 0)), ((77, .goto 5, 3, 0, 0, 0, 0), (0, 0, 0))] (by decide +kernel) rfl ?_
              exact hx_reti (by decide +kernel) (hQ _ _ g2)
          · refine hx_blk (npc := 82) (L' := [(0, .inr (.inl 86)), (1, .inl x1), (2, .inl x2), (3, .inl x3), (4, .inl v2)]) (st' := [.inl 0]) (m' := m2) [((66, .iconst 0, 1, 0, 0, 0, 0), (0, 0, 0)), ((67, .goto 15, 3, 0, 0, 0, 0), (0, 0, 0))] (by decide +kernel) rfl ?_
            exact hx_reti (by decide +kernel) (hQ _ _ g2)
        · refine hx_blk (npc := 2) (L' := [(0, .inr (.inl 86)), (1, .inl x1), (2, .inl x2), (3, .inl (gx_w (x3 + 1)))]) (st' := []) (m' := m1) [((40, .goto 43, 3, 0, 0, 0, 0), (0, 0, 0)), ((83, .iinc 3 1, 3, 0, 0, 0, 0), (0, 0, 0)), ((86, .goto (-84), 3, 0, 0, 0, 0), (0, 0, 0))] (by decide +kernel) rfl ?_
          exact hx_pick [0, 1, 2, 3] (ih x1 x2 (gx_w (x3 + 1)) m1 g1)
theorem hF225g {xs : List Int32} {n : Nat} {Q : hQ} {m0 m : gx_M} {x1 x2 : Int} (g : hFr hFg m0 m) (hQ : ∀ v m', hFr hFg m0 m' → Q (some (.inl v)) m') : hxn xs n yp_m225 0 [(0, .inr (.inl 86)), (1, .inl x1), (2, .inl x2)] [] m Q := by
  refine hx_dn ?_
  refine hx_blks (npc := 2) (L' := [(0, .inr (.inl 86)), (1, .inl x1), (2, .inl x2), (3, .inl 0)]) (st' := []) (m' := m) ((0, .iconst 0, 1, 0, 0, 0, 0), (0, 0, 0)) [((1, .istore_n 3, 1, 0, 0, 0, 0), (0, 0, 0))] (by decide +kernel) rfl ?_
  exact hx_pick [0, 1, 2, 3] ((hF225gl (xs := xs) hQ n) x1 x2 0 m g)
theorem hF199g {xs : List Int32} {n : Nat} {Q : hQ} {m0 m : gx_M} {x0 x1 : Int} (g : hFr hFg m0 m) (hQ : ∀ v m', hFr hFg m0 m' → Q (some (.inl v)) m') : hxn xs n yp_m199 0 [(0, .inl x0), (1, .inl x1)] [] m Q := by
  refine hx_dn ?_
  refine hx_blks (npc := 2) (L' := [(0, .inl x0), (1, .inl x1)]) (st' := [.inl x1, .inl x0]) (m' := m) ((0, .iload_n 0, 1, 0, 0, 0, 0), (0, 0, 0)) [((1, .iload_n 1, 1, 0, 0, 0, 0), (0, 0, 0))] (by decide +kernel) rfl ?_
  refine hx_cmp .ge 9 (by decide +kernel) (fun _ => ?_) (fun _ => ?_)
  · refine hx_blk (npc := 10) (L' := [(0, .inl x0), (1, .inl x1)]) (st' := [.inl x1]) (m' := m) [((9, .iload_n 1, 1, 0, 0, 0, 0), (0, 0, 0))] (by decide +kernel) rfl ?_
    exact hx_reti (by decide +kernel) (hQ _ _ g)
  · refine hx_blk (npc := 10) (L' := [(0, .inl x0), (1, .inl x1)]) (st' := [.inl x0]) (m' := m) [((5, .iload_n 0, 1, 0, 0, 0, 0), (0, 0, 0)), ((6, .goto 4, 3, 0, 0, 0, 0), (0, 0, 0))] (by decide +kernel) rfl ?_
    exact hx_reti (by decide +kernel) (hQ _ _ g)
theorem hF210g {xs : List Int32} {n : Nat} {Q : hQ} {m0 m : gx_M} {x1 x2 : Int} (g : hFr hFg m0 m) (hQ : ∀ m', hFr hFg m0 m' → Q none m') : hxn xs n yp_m210 0 [(0, .inr (.inl 86)), (1, .inl x1), (2, .inl x2)] [] m Q := by
  refine hx_dn ?_
  refine hx_blks (npc := 57) (L' := [(0, .inr (.inl 86)), (1, .inl x1), (2, .inl x2)]) (st' := [.inl 16, .inl ((gx_u (gx_u (gx_u (gx_u m 87 (gx_w (240 + x1)).toNat x2) 87 (gx_w (280 + x1)).toNat (-2)) 87 (gx_w (320 + x1)).toNat 0) 87 (gx_w (360 + x1)).toNat 0) 87 (gx_w (400 + x1)).toNat)]) (m' := (gx_u (gx_u (gx_u (gx_u m 87 (gx_w (240 + x1)).toNat x2) 87 (gx_w (280 + x1)).toNat (-2)) 87 (gx_w (320 + x1)).toNat 0) 87 (gx_w (360 + x1)).toNat 0)) ((0, .aload_n 0, 1, 0, 0, 0, 0), (0, 0, 0)) [((1, .getfield 7, 3, 10, 0, 5113, 0), (1, 86, 87)), ((4, .sipush 240, 3, 0, 0, 0, 0), (0, 0, 0)), ((7, .iload_n 1, 1, 0, 0, 0, 0), (0, 0, 0)), ((8, .iadd, 1, 0, 0, 0, 0), (0, 0, 0)), ((9, .iload_n 2, 1, 0, 0, 0, 0), (0, 0, 0)), ((10, .iastore, 1, 0, 0, 0, 0), (0, 87, 0)), ((11, .aload_n 0, 1, 0, 0, 0, 0), (0, 0, 0)), ((12, .getfield 7, 3, 10, 0, 5113, 0), (1, 86, 87)), ((15, .sipush 280, 3, 0, 0, 0, 0), (0, 0, 0)), ((18, .iload_n 1, 1, 0, 0, 0, 0), (0, 0, 0)), ((19, .iadd, 1, 0, 0, 0, 0), (0, 0, 0)), ((20, .bipush (-2), 2, 0, 0, 0, 0), (0, 0, 0)), ((22, .iastore, 1, 0, 0, 0, 0), (0, 87, 0)), ((23, .aload_n 0, 1, 0, 0, 0, 0), (0, 0, 0)), ((24, .getfield 7, 3, 10, 0, 5113, 0), (1, 86, 87)), ((27, .sipush 320, 3, 0, 0, 0, 0), (0, 0, 0)), ((30, .iload_n 1, 1, 0, 0, 0, 0), (0, 0, 0)), ((31, .iadd, 1, 0, 0, 0, 0), (0, 0, 0)), ((32, .iconst 0, 1, 0, 0, 0, 0), (0, 0, 0)), ((33, .iastore, 1, 0, 0, 0, 0), (0, 87, 0)), ((34, .aload_n 0, 1, 0, 0, 0, 0), (0, 0, 0)), ((35, .getfield 7, 3, 10, 0, 5113, 0), (1, 86, 87)), ((38, .sipush 360, 3, 0, 0, 0, 0), (0, 0, 0)), ((41, .iload_n 1, 1, 0, 0, 0, 0), (0, 0, 0)), ((42, .iadd, 1, 0, 0, 0, 0), (0, 0, 0)), ((43, .iconst 0, 1, 0, 0, 0, 0), (0, 0, 0)), ((44, .iastore, 1, 0, 0, 0, 0), (0, 87, 0)), ((45, .aload_n 0, 1, 0, 0, 0, 0), (0, 0, 0)), ((46, .getfield 7, 3, 10, 0, 5113, 0), (1, 86, 87)), ((49, .sipush 400, 3, 0, 0, 0, 0), (0, 0, 0)), ((52, .iload_n 1, 1, 0, 0, 0, 0), (0, 0, 0)), ((53, .iadd, 1, 0, 0, 0, 0), (0, 0, 0)), ((54, .iaload, 1, 0, 0, 0, 0), (0, 87, 0)), ((55, .bipush 16, 2, 0, 0, 0, 0), (0, 0, 0))] (by decide +kernel) rfl ?_
  refine hx_cmp .ne 61 (by decide +kernel) (fun _ => ?_) (fun _ => ?_)
  · refine hx_blk (npc := 108) (L' := [(0, .inr (.inl 86)), (1, .inl x1), (2, .inl x2)]) (st' := []) (m' := (gx_u (gx_u (gx_u (gx_u (gx_u (gx_u m 87 (gx_w (240 + x1)).toNat x2) 87 (gx_w (280 + x1)).toNat (-2)) 87 (gx_w (320 + x1)).toNat 0) 87 (gx_w (360 + x1)).toNat 0) 87 (gx_w ((gx_w (480 + (gx_w (16 * x1)))) + ((gx_u (gx_u (gx_u (gx_u m 87 (gx_w (240 + x1)).toNat x2) 87 (gx_w (280 + x1)).toNat (-2)) 87 (gx_w (320 + x1)).toNat 0) 87 (gx_w (360 + x1)).toNat 0) 87 (gx_w (400 + x1)).toNat))).toNat x2) 87 (gx_w (400 + x1)).toNat (gx_w (((gx_u (gx_u (gx_u (gx_u (gx_u m 87 (gx_w (240 + x1)).toNat x2) 87 (gx_w (280 + x1)).toNat (-2)) 87 (gx_w (320 + x1)).toNat 0) 87 (gx_w (360 + x1)).toNat 0) 87 (gx_w ((gx_w (480 + (gx_w (16 * x1)))) + ((gx_u (gx_u (gx_u (gx_u m 87 (gx_w (240 + x1)).toNat x2) 87 (gx_w (280 + x1)).toNat (-2)) 87 (gx_w (320 + x1)).toNat 0) 87 (gx_w (360 + x1)).toNat 0) 87 (gx_w (400 + x1)).toNat))).toNat x2) 87 (gx_w (400 + x1)).toNat) + 1)))) [((61, .aload_n 0, 1, 0, 0, 0, 0), (0, 0, 0)), ((62, .getfield 7, 3, 10, 0, 5113, 0), (1, 86, 87)), ((65, .sipush 480, 3, 0, 0, 0, 0), (0, 0, 0)), ((68, .bipush 16, 2, 0, 0, 0, 0), (0, 0, 0)), ((70, .iload_n 1, 1, 0, 0, 0, 0), (0, 0, 0)), ((71, .imul, 1, 0, 0, 0, 0), (0, 0, 0)), ((72, .iadd, 1, 0, 0, 0, 0), (0, 0, 0)), ((73, .aload_n 0, 1, 0, 0, 0, 0), (0, 0, 0)), ((74, .getfield 7, 3, 10, 0, 5113, 0), (1, 86, 87)), ((77, .sipush 400, 3, 0, 0, 0, 0), (0, 0, 0)), ((80, .iload_n 1, 1, 0, 0, 0, 0), (0, 0, 0)), ((81, .iadd, 1, 0, 0, 0, 0), (0, 0, 0)), ((82, .iaload, 1, 0, 0, 0, 0), (0, 87, 0)), ((83, .iadd, 1, 0, 0, 0, 0), (0, 0, 0)), ((84, .iload_n 2, 1, 0, 0, 0, 0), (0, 0, 0)), ((85, .iastore, 1, 0, 0, 0, 0), (0, 87, 0)), ((86, .aload_n 0, 1, 0, 0, 0, 0), (0, 0, 0)), ((87, .getfield 7, 3, 10, 0, 5113, 0), (1, 86, 87)), ((90, .sipush 400, 3, 0, 0, 0, 0), (0, 0, 0)), ((93, .iload_n 1, 1, 0, 0, 0, 0), (0, 0, 0)), ((94, .iadd, 1, 0, 0, 0, 0), (0, 0, 0)), ((95, .aload_n 0, 1, 0, 0, 0, 0), (0, 0, 0)), ((96, .getfield 7, 3, 10, 0, 5113, 0), (1, 86, 87)), ((99, .sipush 400, 3, 0, 0, 0, 0), (0, 0, 0)), ((102, .iload_n 1, 1, 0, 0, 0, 0), (0, 0, 0)), ((103, .iadd, 1, 0, 0, 0, 0), (0, 0, 0)), ((104, .iaload, 1, 0, 0, 0, 0), (0, 87, 0)), ((105, .iconst 1, 1, 0, 0, 0, 0), (0, 0, 0)), ((106, .iadd, 1, 0, 0, 0, 0), (0, 0, 0)), ((107, .iastore, 1, 0, 0, 0, 0), (0, 87, 0))] (by decide +kernel) rfl ?_
    exact hx_ret0 (by decide +kernel) (hQ _ ((((((g.w 87 (by decide)).w 87 (by decide)).w 87 (by decide)).w 87 (by decide)).w 87 (by decide)).w 87 (by decide)))
  · exact hx_ret0 (by decide +kernel) (hQ _ ((((g.w 87 (by decide)).w 87 (by decide)).w 87 (by decide)).w 87 (by decide)))
theorem hF260g {xs : List Int32} {n : Nat} {Q : hQ} {m0 m : gx_M} {x1 : Int} (g : hFr hFg m0 m) (hQ : ∀ m', hFr hFg m0 m' → Q none m') : hxn xs n yp_m260 0 [(0, .inr (.inl 86)), (1, .inl x1)] [] m Q := by
  refine hx_dn ?_
  refine hx_blks (npc := 22) (L' := [(0, .inr (.inl 86)), (1, .inl x1)]) (st' := [.inl (m 87 (gx_w (320 + x1)).toNat), .inl (m 87 (gx_w (240 + x1)).toNat), .inl x1, .inr (.inl 86)]) (m' := m) ((0, .aload_n 0, 1, 0, 0, 0, 0), (0, 0, 0)) [((1, .iload_n 1, 1, 0, 0, 0, 0), (0, 0, 0)), ((2, .aload_n 0, 1, 0, 0, 0, 0), (0, 0, 0)), ((3, .getfield 7, 3, 10, 0, 5113, 0), (1, 86, 87)), ((6, .sipush 240, 3, 0, 0, 0, 0), (0, 0, 0)), ((9, .iload_n 1, 1, 0, 0, 0, 0), (0, 0, 0)), ((10, .iadd, 1, 0, 0, 0, 0), (0, 0, 0)), ((11, .iaload, 1, 0, 0, 0, 0), (0, 87, 0)), ((12, .aload_n 0, 1, 0, 0, 0, 0), (0, 0, 0)), ((13, .getfield 7, 3, 10, 0, 5113, 0), (1, 86, 87)), ((16, .sipush 320, 3, 0, 0, 0, 0), (0, 0, 0)), ((19, .iload_n 1, 1, 0, 0, 0, 0), (0, 0, 0)), ((20, .iadd, 1, 0, 0, 0, 0), (0, 0, 0)), ((21, .iaload, 1, 0, 0, 0, 0), (0, 87, 0))] (by decide +kernel) rfl ?_
  refine hx_call (E := (22, .invokevirtual 247, 3, 202, 0, 6179, 0)) (M' := yp_m202) [.inr (.inl 86), .inl x1, .inl (m 87 (gx_w (240 + x1)).toNat), .inl (m 87 (gx_w (320 + x1)).toNat)] [] rfl (by decide +kernel) rfl ⟨rfl, rfl⟩ rfl rfl (hF202g (m0 := m0) g (fun m1 g1 => ?_))
  show hxn xs n yp_m260 25 [(0, .inr (.inl 86)), (1, .inl x1)] [] m1 Q
  refine hx_blk (npc := 51) (L' := [(0, .inr (.inl 86)), (1, .inl x1)]) (st' := [.inl 99, .inl 105, .inr (.inl 86), .inl (m1 87 (gx_w (360 + x1)).toNat), .inl 99999, .inl (gx_w (360 + x1)), .inr (.inl 87)]) (m' := m1) [((25, .aload_n 0, 1, 0, 0, 0, 0), (0, 0, 0)), ((26, .getfield 7, 3, 10, 0, 5113, 0), (1, 86, 87)), ((29, .sipush 360, 3, 0, 0, 0, 0), (0, 0, 0)), ((32, .iload_n 1, 1, 0, 0, 0, 0), (0, 0, 0)), ((33, .iadd, 1, 0, 0, 0, 0), (0, 0, 0)), ((34, .ldc 112, 2, 0, 0, 6026, 99999), (0, 0, 0)), ((36, .aload_n 0, 1, 0, 0, 0, 0), (0, 0, 0)), ((37, .getfield 7, 3, 10, 0, 5113, 0), (1, 86, 87)), ((40, .sipush 360, 3, 0, 0, 0, 0), (0, 0, 0)), ((43, .iload_n 1, 1, 0, 0, 0, 0), (0, 0, 0)), ((44, .iadd, 1, 0, 0, 0, 0), (0, 0, 0)), ((45, .iaload, 1, 0, 0, 0, 0), (0, 87, 0)), ((46, .aload_n 0, 1, 0, 0, 0, 0), (0, 0, 0)), ((47, .bipush 105, 2, 0, 0, 0, 0), (0, 0, 0)), ((49, .bipush 99, 2, 0, 0, 0, 0), (0, 0, 0))] (by decide +kernel) rfl ?_
  refine hx_call (E := (51, .invokevirtual 251, 3, 225, 0, 7028, 0)) (M' := yp_m225) [.inr (.inl 86), .inl 105, .inl 99] [.inl (m1 87 (gx_w (360 + x1)).toNat), .inl 99999, .inl (gx_w (360 + x1)), .inr (.inl 87)] rfl (by decide +kernel) rfl ⟨rfl, rfl⟩ rfl rfl (hF225g (m0 := m0) g1 (fun v2 m2 g2 => ?_))
  show hxn xs n yp_m260 54 [(0, .inr (.inl 86)), (1, .inl x1)] [.inl v2, .inl (m1 87 (gx_w (360 + x1)).toNat), .inl 99999, .inl (gx_w (360 + x1)), .inr (.inl 87)] m2 Q
  refine hx_blk (npc := 55) (L' := [(0, .inr (.inl 86)), (1, .inl x1)]) (st' := [.inl (gx_w ((m1 87 (gx_w (360 + x1)).toNat) + v2)), .inl 99999, .inl (gx_w (360 + x1)), .inr (.inl 87)]) (m' := m2) [((54, .iadd, 1, 0, 0, 0, 0), (0, 0, 0))] (by decide +kernel) rfl ?_
  refine hx_call (E := (55, .invokestatic 120, 3, 199, 0, 6168, 0)) (M' := yp_m199) [.inl 99999, .inl (gx_w ((m1 87 (gx_w (360 + x1)).toNat) + v2))] [.inl (gx_w (360 + x1)), .inr (.inl 87)] rfl (by decide +kernel) rfl ⟨rfl, rfl⟩ rfl rfl (hF199g (m0 := m0) g2 (fun v3 m3 g3 => ?_))
  show hxn xs n yp_m260 58 [(0, .inr (.inl 86)), (1, .inl x1)] [.inl v3, .inl (gx_w (360 + x1)), .inr (.inl 87)] m3 Q
  refine hx_blk (npc := 69) (L' := [(0, .inr (.inl 86)), (1, .inl x1)]) (st' := [.inl ((gx_u m3 87 (gx_w (360 + x1)).toNat v3) 87 (gx_w (320 + x1)).toNat)]) (m' := (gx_u m3 87 (gx_w (360 + x1)).toNat v3)) [((58, .iastore, 1, 0, 0, 0, 0), (0, 87, 0)), ((59, .aload_n 0, 1, 0, 0, 0, 0), (0, 0, 0)), ((60, .getfield 7, 3, 10, 0, 5113, 0), (1, 86, 87)), ((63, .sipush 320, 3, 0, 0, 0, 0), (0, 0, 0)), ((66, .iload_n 1, 1, 0, 0, 0, 0), (0, 0, 0)), ((67, .iadd, 1, 0, 0, 0, 0), (0, 0, 0)), ((68, .iaload, 1, 0, 0, 0, 0), (0, 87, 0))] (by decide +kernel) rfl ?_
  refine hx_if .eq 97 (by decide +kernel) (fun _ => ?_) (fun _ => ?_)
  · exact hx_ret0 (by decide +kernel) (hQ _ (g3.w 87 (by decide)))
  · refine hx_blk (npc := 94) (L' := [(0, .inr (.inl 86)), (1, .inl x1)]) (st' := [.inl (gx_w (2 * ((gx_u m3 87 (gx_w (360 + x1)).toNat v3) 87 (gx_w (320 + x1)).toNat))), .inl ((gx_u m3 87 (gx_w (360 + x1)).toNat v3) 87 (gx_w (360 + x1)).toNat)]) (m' := (gx_u m3 87 (gx_w (360 + x1)).toNat v3)) [((72, .aload_n 0, 1, 0, 0, 0, 0), (0, 0, 0)), ((73, .getfield 7, 3, 10, 0, 5113, 0), (1, 86, 87)), ((76, .sipush 360, 3, 0, 0, 0, 0), (0, 0, 0)), ((79, .iload_n 1, 1, 0, 0, 0, 0), (0, 0, 0)), ((80, .iadd, 1, 0, 0, 0, 0), (0, 0, 0)), ((81, .iaload, 1, 0, 0, 0, 0), (0, 87, 0)), ((82, .iconst 2, 1, 0, 0, 0, 0), (0, 0, 0)), ((83, .aload_n 0, 1, 0, 0, 0, 0), (0, 0, 0)), ((84, .getfield 7, 3, 10, 0, 5113, 0), (1, 86, 87)), ((87, .sipush 320, 3, 0, 0, 0, 0), (0, 0, 0)), ((90, .iload_n 1, 1, 0, 0, 0, 0), (0, 0, 0)), ((91, .iadd, 1, 0, 0, 0, 0), (0, 0, 0)), ((92, .iaload, 1, 0, 0, 0, 0), (0, 87, 0)), ((93, .imul, 1, 0, 0, 0, 0), (0, 0, 0))] (by decide +kernel) rfl ?_
    refine hx_cmp .ge 98 (by decide +kernel) (fun _ => ?_) (fun _ => ?_)
    · refine hx_blk (npc := 110) (L' := [(0, .inr (.inl 86)), (1, .inl x1)]) (st' := [.inl ((gx_u m3 87 (gx_w (360 + x1)).toNat v3) 87 (gx_w (280 + x1)).toNat), .inl x1, .inr (.inl 86)]) (m' := (gx_u m3 87 (gx_w (360 + x1)).toNat v3)) [((98, .aload_n 0, 1, 0, 0, 0, 0), (0, 0, 0)), ((99, .iload_n 1, 1, 0, 0, 0, 0), (0, 0, 0)), ((100, .aload_n 0, 1, 0, 0, 0, 0), (0, 0, 0)), ((101, .getfield 7, 3, 10, 0, 5113, 0), (1, 86, 87)), ((104, .sipush 280, 3, 0, 0, 0, 0), (0, 0, 0)), ((107, .iload_n 1, 1, 0, 0, 0, 0), (0, 0, 0)), ((108, .iadd, 1, 0, 0, 0, 0), (0, 0, 0)), ((109, .iaload, 1, 0, 0, 0, 0), (0, 87, 0))] (by decide +kernel) rfl ?_
      refine hx_call (E := (110, .invokevirtual 281, 3, 210, 0, 6209, 0)) (M' := yp_m210) [.inr (.inl 86), .inl x1, .inl ((gx_u m3 87 (gx_w (360 + x1)).toNat v3) 87 (gx_w (280 + x1)).toNat)] [] rfl (by decide +kernel) rfl ⟨rfl, rfl⟩ rfl rfl (hF210g (m0 := m0) (g3.w 87 (by decide)) (fun m4 g4 => ?_))
      show hxn xs n yp_m260 113 [(0, .inr (.inl 86)), (1, .inl x1)] [] m4 Q
      refine hx_blk (npc := 123) (L' := [(0, .inr (.inl 86)), (1, .inl x1)]) (st' := []) (m' := (gx_u m4 86 45 (gx_w ((m4 86 45) + 1)))) [((113, .aload_n 0, 1, 0, 0, 0, 0), (0, 0, 0)), ((114, .aload_n 0, 1, 0, 0, 0, 0), (0, 0, 0)), ((115, .getfield 390, 3, 10, 45, 5158, 0), (0, 86, 0)), ((118, .iconst 1, 1, 0, 0, 0, 0), (0, 0, 0)), ((119, .iadd, 1, 0, 0, 0, 0), (0, 0, 0)), ((120, .putfield 390, 3, 10, 45, 5158, 0), (0, 86, 0))] (by decide +kernel) rfl ?_
      exact hx_ret0 (by decide +kernel) (hQ _ (g4.w 86 (by decide)))
    · exact hx_ret0 (by decide +kernel) (hQ _ (g3.w 87 (by decide)))
theorem hF165g {xs : List Int32} {n : Nat} {Q : hQ} {m0 m : gx_M} {x0 x1 : Int} (g : hFr hFg m0 m) (hQ : ∀ v m', hFr hFg m0 m' → Q (some (.inl v)) m') : hxn xs n yp_m165 0 [(0, .inl x0), (1, .inl x1)] [] m Q := by
  refine hx_dn ?_
  refine hx_blks (npc := 6) (L' := [(0, .inl x0), (1, .inl x1)]) (st' := [.inl 1, .inl (gx_and (gx_shr x0 x1) 1)]) (m' := m) ((0, .iload_n 0, 1, 0, 0, 0, 0), (0, 0, 0)) [((1, .iload_n 1, 1, 0, 0, 0, 0), (0, 0, 0)), ((2, .ishr, 1, 0, 0, 0, 0), (0, 0, 0)), ((3, .iconst 1, 1, 0, 0, 0, 0), (0, 0, 0)), ((4, .iand, 1, 0, 0, 0, 0), (0, 0, 0)), ((5, .iconst 1, 1, 0, 0, 0, 0), (0, 0, 0))] (by decide +kernel) rfl ?_
  refine hx_cmp .ne 13 (by decide +kernel) (fun _ => ?_) (fun _ => ?_)
  · refine hx_blk (npc := 14) (L' := [(0, .inl x0), (1, .inl x1)]) (st' := [.inl 0]) (m' := m) [((13, .iconst 0, 1, 0, 0, 0, 0), (0, 0, 0))] (by decide +kernel) rfl ?_
    exact hx_reti (by decide +kernel) (hQ _ _ g)
  · refine hx_blk (npc := 14) (L' := [(0, .inl x0), (1, .inl x1)]) (st' := [.inl 1]) (m' := m) [((9, .iconst 1, 1, 0, 0, 0, 0), (0, 0, 0)), ((10, .goto 4, 3, 0, 0, 0, 0), (0, 0, 0))] (by decide +kernel) rfl ?_
    exact hx_reti (by decide +kernel) (hQ _ _ g)
theorem hF164g {xs : List Int32} {n : Nat} {Q : hQ} {m0 m : gx_M} {x1 : Int} (g : hFr hFg m0 m) (hQ : ∀ v m', hFr hFg m0 m' → Q (some (.inl v)) m') : hxn xs n yp_m164 0 [(0, .inr (.inl 86)), (1, .inl x1)] [] m Q := by
  refine hx_dn ?_
  refine hx_blks (npc := 1) (L' := [(0, .inr (.inl 86)), (1, .inl x1)]) (st' := [.inl x1]) (m' := m) ((0, .iload_n 1, 1, 0, 0, 0, 0), (0, 0, 0)) [] (by decide +kernel) rfl ?_
  refine hx_if .lt 29 (by decide +kernel) (fun _ => ?_) (fun _ => ?_)
  · refine hx_blk (npc := 30) (L' := [(0, .inr (.inl 86)), (1, .inl x1)]) (st' := [.inl 0]) (m' := m) [((29, .iconst 0, 1, 0, 0, 0, 0), (0, 0, 0))] (by decide +kernel) rfl ?_
    exact hx_reti (by decide +kernel) (hQ _ _ g)
  · refine hx_blk (npc := 7) (L' := [(0, .inr (.inl 86)), (1, .inl x1)]) (st' := [.inl 8, .inl x1]) (m' := m) [((4, .iload_n 1, 1, 0, 0, 0, 0), (0, 0, 0)), ((5, .bipush 8, 2, 0, 0, 0, 0), (0, 0, 0))] (by decide +kernel) rfl ?_
    refine hx_cmp .ge 29 (by decide +kernel) (fun _ => ?_) (fun _ => ?_)
    · refine hx_blk (npc := 30) (L' := [(0, .inr (.inl 86)), (1, .inl x1)]) (st' := [.inl 0]) (m' := m) [((29, .iconst 0, 1, 0, 0, 0, 0), (0, 0, 0))] (by decide +kernel) rfl ?_
      exact hx_reti (by decide +kernel) (hQ _ _ g)
    · refine hx_blk (npc := 19) (L' := [(0, .inr (.inl 86)), (1, .inl x1)]) (st' := [.inl x1, .inl (m 87 1128)]) (m' := m) [((10, .aload_n 0, 1, 0, 0, 0, 0), (0, 0, 0)), ((11, .getfield 7, 3, 10, 0, 5113, 0), (1, 86, 87)), ((14, .sipush 1128, 3, 0, 0, 0, 0), (0, 0, 0)), ((17, .iaload, 1, 0, 0, 0, 0), (0, 87, 0)), ((18, .iload_n 1, 1, 0, 0, 0, 0), (0, 0, 0))] (by decide +kernel) rfl ?_
      refine hx_call (E := (19, .invokestatic 104, 3, 165, 0, 6035, 0)) (M' := yp_m165) [.inl (m 87 1128), .inl x1] [] rfl (by decide +kernel) rfl ⟨rfl, rfl⟩ rfl rfl (hF165g (m0 := m0) g (fun v1 m1 g1 => ?_))
      show hxn xs n yp_m164 22 [(0, .inr (.inl 86)), (1, .inl x1)] [.inl v1] m1 Q
      refine hx_if .eq 29 (by decide +kernel) (fun _ => ?_) (fun _ => ?_)
      · refine hx_blk (npc := 30) (L' := [(0, .inr (.inl 86)), (1, .inl x1)]) (st' := [.inl 0]) (m' := m1) [((29, .iconst 0, 1, 0, 0, 0, 0), (0, 0, 0))] (by decide +kernel) rfl ?_
        exact hx_reti (by decide +kernel) (hQ _ _ g1)
      · refine hx_blk (npc := 30) (L' := [(0, .inr (.inl 86)), (1, .inl x1)]) (st' := [.inl 1]) (m' := m1) [((25, .iconst 1, 1, 0, 0, 0, 0), (0, 0, 0)), ((26, .goto 4, 3, 0, 0, 0, 0), (0, 0, 0))] (by decide +kernel) rfl ?_
        exact hx_reti (by decide +kernel) (hQ _ _ g1)
theorem hF198g {xs : List Int32} {n : Nat} {Q : hQ} {m0 m : gx_M} {x1 x2 : Int} (g : hFr hFg m0 m) (hQ : ∀ v m', hFr hFg m0 m' → Q (some (.inl v)) m') : hxn xs n yp_m198 0 [(0, .inr (.inl 86)), (1, .inl x1), (2, .inl x2)] [] m Q := by
  refine hx_dn ?_
  refine hx_blks (npc := 14) (L' := [(0, .inr (.inl 86)), (1, .inl x1), (2, .inl x2)]) (st' := [.inl (gx_w ((m 87 (gx_w (1120 + x1)).toNat) + x2)), .inl 99999]) (m' := m) ((0, .ldc 112, 2, 0, 0, 6026, 99999), (0, 0, 0)) [((2, .aload_n 0, 1, 0, 0, 0, 0), (0, 0, 0)), ((3, .getfield 7, 3, 10, 0, 5113, 0), (1, 86, 87)), ((6, .sipush 1120, 3, 0, 0, 0, 0), (0, 0, 0)), ((9, .iload_n 1, 1, 0, 0, 0, 0), (0, 0, 0)), ((10, .iadd, 1, 0, 0, 0, 0), (0, 0, 0)), ((11, .iaload, 1, 0, 0, 0, 0), (0, 87, 0)), ((12, .iload_n 2, 1, 0, 0, 0, 0), (0, 0, 0)), ((13, .iadd, 1, 0, 0, 0, 0), (0, 0, 0))] (by decide +kernel) rfl ?_
  refine hx_call (E := (14, .invokestatic 120, 3, 199, 0, 6168, 0)) (M' := yp_m199) [.inl 99999, .inl (gx_w ((m 87 (gx_w (1120 + x1)).toNat) + x2))] [] rfl (by decide +kernel) rfl ⟨rfl, rfl⟩ rfl rfl (hF199g (m0 := m0) g (fun v1 m1 g1 => ?_))
  show hxn xs n yp_m198 17 [(0, .inr (.inl 86)), (1, .inl x1), (2, .inl x2)] [.inl v1] m1 Q
  exact hx_reti (by decide +kernel) (hQ _ _ g1)
theorem hF259gl {xs : List Int32} {Q : hQ} {m0 : gx_M} (hQ : ∀ m', hFr hFg m0 m' → Q none m') : ∀ n : Nat, (∀ (x1 : Int) (m : gx_M), hFr hFg m0 m → hxn xs n yp_m259 2 [(0, .inr (.inl 86)), (1, .inl x1)] [] m Q) ∧ (∀ (x1 : Int) (m : gx_M), hFr hFg m0 m → hxn xs n yp_m259 37 [(0, .inr (.inl 86)), (1, .inl x1)] [] m Q) := by
  intro n
  induction n with
  | zero => exact ⟨fun _ _ _ => hx_0, fun _ _ _ => hx_0⟩
  | succ n ih =>
    refine ⟨?_, ?_⟩
    · intro x1 m g
      refine hx_blks (npc := 5) (L' := [(0, .inr (.inl 86)), (1, .inl x1)]) (st' := [.inl 40, .inl x1]) (m' := m) ((2, .iload_n 1, 1, 0, 0, 0, 0), (0, 0, 0)) [((3, .bipush 40, 2, 0, 0, 0, 0), (0, 0, 0))] (by decide +kernel) rfl ?_
      refine hx_cmp .ge 35 (by decide +kernel) (fun _ => ?_) (fun _ => ?_)
      · refine hx_blk (npc := 37) (L' := [(0, .inr (.inl 86)), (1, .inl 0)]) (st' := []) (m' := m) [((35, .iconst 0, 1, 0, 0, 0, 0), (0, 0, 0)), ((36, .istore_n 1, 1, 0, 0, 0, 0), (0, 0, 0))] (by decide +kernel) rfl ?_
        exact hx_pick [0, 1] (ih.2 0 m g)
      · refine hx_blk (npc := 10) (L' := [(0, .inr (.inl 86)), (1, .inl x1)]) (st' := [.inl x1, .inr (.inl 86)]) (m' := m) [((8, .aload_n 0, 1, 0, 0, 0, 0), (0, 0, 0)), ((9, .iload_n 1, 1, 0, 0, 0, 0), (0, 0, 0))] (by decide +kernel) rfl ?_
        refine hx_call (E := (10, .invokevirtual 269, 3, 196, 0, 6156, 0)) (M' := yp_m196) [.inr (.inl 86), .inl x1] [] rfl (by decide +kernel) rfl ⟨rfl, rfl⟩ rfl rfl (hF196g (m0 := m0) g (fun v1 m1 g1 => ?_))
        show hxn xs n yp_m259 13 [(0, .inr (.inl 86)), (1, .inl x1)] [.inl v1] m1 Q
        refine hx_if .eq 29 (by decide +kernel) (fun _ => ?_) (fun _ => ?_)
        · refine hx_blk (npc := 2) (L' := [(0, .inr (.inl 86)), (1, .inl (gx_w (x1 + 1)))]) (st' := []) (m' := m1) [((29, .iinc 1 1, 3, 0, 0, 0, 0), (0, 0, 0)), ((32, .goto (-30), 3, 0, 0, 0, 0), (0, 0, 0))] (by decide +kernel) rfl ?_
          exact hx_pick [0, 1] (ih.1 (gx_w (x1 + 1)) m1 g1)
        · refine hx_blk (npc := 18) (L' := [(0, .inr (.inl 86)), (1, .inl x1)]) (st' := [.inl x1, .inr (.inl 86)]) (m' := m1) [((16, .aload_n 0, 1, 0, 0, 0, 0), (0, 0, 0)), ((17, .iload_n 1, 1, 0, 0, 0, 0), (0, 0, 0))] (by decide +kernel) rfl ?_
          refine hx_call (E := (18, .invokevirtual 275, 3, 200, 0, 6171, 0)) (M' := yp_m200) [.inr (.inl 86), .inl x1] [] rfl (by decide +kernel) rfl ⟨rfl, rfl⟩ rfl rfl (hF200g (m0 := m0) g1 (fun v2 m2 g2 => ?_))
          show hxn xs n yp_m259 21 [(0, .inr (.inl 86)), (1, .inl x1)] [.inl v2] m2 Q
          refine hx_if .eq 29 (by decide +kernel) (fun _ => ?_) (fun _ => ?_)
          · refine hx_blk (npc := 2) (L' := [(0, .inr (.inl 86)), (1, .inl (gx_w (x1 + 1)))]) (st' := []) (m' := m2) [((29, .iinc 1 1, 3, 0, 0, 0, 0), (0, 0, 0)), ((32, .goto (-30), 3, 0, 0, 0, 0), (0, 0, 0))] (by decide +kernel) rfl ?_
            exact hx_pick [0, 1] (ih.1 (gx_w (x1 + 1)) m2 g2)
          · refine hx_blk (npc := 26) (L' := [(0, .inr (.inl 86)), (1, .inl x1)]) (st' := [.inl x1, .inr (.inl 86)]) (m' := m2) [((24, .aload_n 0, 1, 0, 0, 0, 0), (0, 0, 0)), ((25, .iload_n 1, 1, 0, 0, 0, 0), (0, 0, 0))] (by decide +kernel) rfl ?_
            refine hx_call (E := (26, .invokevirtual 393, 3, 260, 0, 7168, 0)) (M' := yp_m260) [.inr (.inl 86), .inl x1] [] rfl (by decide +kernel) rfl ⟨rfl, rfl⟩ rfl rfl (hF260g (m0 := m0) g2 (fun m3 g3 => ?_))
            show hxn xs n yp_m259 29 [(0, .inr (.inl 86)), (1, .inl x1)] [] m3 Q
            refine hx_blk (npc := 2) (L' := [(0, .inr (.inl 86)), (1, .inl (gx_w (x1 + 1)))]) (st' := []) (m' := m3) [((29, .iinc 1 1, 3, 0, 0, 0, 0), (0, 0, 0)), ((32, .goto (-30), 3, 0, 0, 0, 0), (0, 0, 0))] (by decide +kernel) rfl ?_
            exact hx_pick [0, 1] (ih.1 (gx_w (x1 + 1)) m3 g3)
    intro x1 m g
    refine hx_blks (npc := 40) (L' := [(0, .inr (.inl 86)), (1, .inl x1)]) (st' := [.inl 8, .inl x1]) (m' := m) ((37, .iload_n 1, 1, 0, 0, 0, 0), (0, 0, 0)) [((38, .bipush 8, 2, 0, 0, 0, 0), (0, 0, 0))] (by decide +kernel) rfl ?_
    refine hx_cmp .ge 139 (by decide +kernel) (fun _ => ?_) (fun _ => ?_)
    · refine hx_blk (npc := 157) (L' := [(0, .inr (.inl 86)), (1, .inl x1)]) (st' := []) (m' := (gx_u m 87 1129 (gx_w ((m 87 1129) + 1)))) [((139, .aload_n 0, 1, 0, 0, 0, 0), (0, 0, 0)), ((140, .getfield 7, 3, 10, 0, 5113, 0), (1, 86, 87)), ((143, .sipush 1129, 3, 0, 0, 0, 0), (0, 0, 0)), ((146, .aload_n 0, 1, 0, 0, 0, 0), (0, 0, 0)), ((147, .getfield 7, 3, 10, 0, 5113, 0), (1, 86, 87)), ((150, .sipush 1129, 3, 0, 0, 0, 0), (0, 0, 0)), ((153, .iaload, 1, 0, 0, 0, 0), (0, 87, 0)), ((154, .iconst 1, 1, 0, 0, 0, 0), (0, 0, 0)), ((155, .iadd, 1, 0, 0, 0, 0), (0, 0, 0)), ((156, .iastore, 1, 0, 0, 0, 0), (0, 87, 0))] (by decide +kernel) rfl ?_
      exact hx_ret0 (by decide +kernel) (hQ _ (g.w 87 (by decide)))
    · refine hx_blk (npc := 45) (L' := [(0, .inr (.inl 86)), (1, .inl x1)]) (st' := [.inl x1, .inr (.inl 86)]) (m' := m) [((43, .aload_n 0, 1, 0, 0, 0, 0), (0, 0, 0)), ((44, .iload_n 1, 1, 0, 0, 0, 0), (0, 0, 0))] (by decide +kernel) rfl ?_
      refine hx_call (E := (45, .invokevirtual 113, 3, 164, 0, 6031, 0)) (M' := yp_m164) [.inr (.inl 86), .inl x1] [] rfl (by decide +kernel) rfl ⟨rfl, rfl⟩ rfl rfl (hF164g (m0 := m0) g (fun v1 m1 g1 => ?_))
      show hxn xs n yp_m259 48 [(0, .inr (.inl 86)), (1, .inl x1)] [.inl v1] m1 Q
      refine hx_if .ne 54 (by decide +kernel) (fun _ => ?_) (fun _ => ?_)
      · refine hx_blk (npc := 84) (L' := [(0, .inr (.inl 86)), (1, .inl x1)]) (st' := [.inl x1, .inr (.inl 86)]) (m' := (gx_u m1 87 1130 (Int.tmod (gx_w ((gx_w (25173 * (m1 87 1130))) + 13849)) 65536))) [((54, .aload_n 0, 1, 0, 0, 0, 0), (0, 0, 0)), ((55, .getfield 7, 3, 10, 0, 5113, 0), (1, 86, 87)), ((58, .sipush 1130, 3, 0, 0, 0, 0), (0, 0, 0)), ((61, .sipush 25173, 3, 0, 0, 0, 0), (0, 0, 0)), ((64, .aload_n 0, 1, 0, 0, 0, 0), (0, 0, 0)), ((65, .getfield 7, 3, 10, 0, 5113, 0), (1, 86, 87)), ((68, .sipush 1130, 3, 0, 0, 0, 0), (0, 0, 0)), ((71, .iaload, 1, 0, 0, 0, 0), (0, 87, 0)), ((72, .imul, 1, 0, 0, 0, 0), (0, 0, 0)), ((73, .sipush 13849, 3, 0, 0, 0, 0), (0, 0, 0)), ((76, .iadd, 1, 0, 0, 0, 0), (0, 0, 0)), ((77, .ldc_w 396, 3, 0, 0, 7172, 65536), (0, 0, 0)), ((80, .irem, 1, 0, 0, 0, 0), (0, 0, 0)), ((81, .iastore, 1, 0, 0, 0, 0), (0, 87, 0)), ((82, .aload_n 0, 1, 0, 0, 0, 0), (0, 0, 0)), ((83, .iload_n 1, 1, 0, 0, 0, 0), (0, 0, 0))] (by decide +kernel) rfl ?_
        refine hx_call (E := (84, .invokevirtual 238, 3, 203, 0, 6183, 0)) (M' := yp_m203) [.inr (.inl 86), .inl x1] [] rfl (by decide +kernel) rfl ⟨rfl, rfl⟩ rfl rfl (hF203g (m0 := m0) (g1.w 87 (by decide)) (fun m2 g2 => ?_))
        show hxn xs n yp_m259 87 [(0, .inr (.inl 86)), (1, .inl x1)] [] m2 Q
        refine hx_blk (npc := 103) (L' := [(0, .inr (.inl 86)), (1, .inl x1)]) (st' := [.inl 10, .inl 102, .inr (.inl 86), .inl (Int.tmod (m2 87 1130) 10)]) (m' := m2) [((87, .aload_n 0, 1, 0, 0, 0, 0), (0, 0, 0)), ((88, .getfield 7, 3, 10, 0, 5113, 0), (1, 86, 87)), ((91, .sipush 1130, 3, 0, 0, 0, 0), (0, 0, 0)), ((94, .iaload, 1, 0, 0, 0, 0), (0, 87, 0)), ((95, .bipush 10, 2, 0, 0, 0, 0), (0, 0, 0)), ((97, .irem, 1, 0, 0, 0, 0), (0, 0, 0)), ((98, .aload_n 0, 1, 0, 0, 0, 0), (0, 0, 0)), ((99, .bipush 102, 2, 0, 0, 0, 0), (0, 0, 0)), ((101, .bipush 10, 2, 0, 0, 0, 0), (0, 0, 0))] (by decide +kernel) rfl ?_
        refine hx_call (E := (103, .invokevirtual 251, 3, 225, 0, 7028, 0)) (M' := yp_m225) [.inr (.inl 86), .inl 102, .inl 10] [.inl (Int.tmod (m2 87 1130) 10)] rfl (by decide +kernel) rfl ⟨rfl, rfl⟩ rfl rfl (hF225g (m0 := m0) g2 (fun v3 m3 g3 => ?_))
        show hxn xs n yp_m259 106 [(0, .inr (.inl 86)), (1, .inl x1)] [.inl v3, .inl (Int.tmod (m2 87 1130) 10)] m3 Q
        refine hx_cmp .ge 133 (by decide +kernel) (fun _ => ?_) (fun _ => ?_)
        · refine hx_blk (npc := 37) (L' := [(0, .inr (.inl 86)), (1, .inl (gx_w (x1 + 1)))]) (st' := []) (m' := m3) [((133, .iinc 1 1, 3, 0, 0, 0, 0), (0, 0, 0)), ((136, .goto (-99), 3, 0, 0, 0, 0), (0, 0, 0))] (by decide +kernel) rfl ?_
          exact hx_pick [0, 1] (ih.2 (gx_w (x1 + 1)) m3 g3)
        · refine hx_blk (npc := 126) (L' := [(0, .inr (.inl 86)), (1, .inl x1)]) (st' := [.inl 999, .inl 103, .inr (.inl 86), .inl x1, .inr (.inl 86), .inl (gx_w (1120 + x1)), .inr (.inl 87)]) (m' := m3) [((109, .aload_n 0, 1, 0, 0, 0, 0), (0, 0, 0)), ((110, .getfield 7, 3, 10, 0, 5113, 0), (1, 86, 87)), ((113, .sipush 1120, 3, 0, 0, 0, 0), (0, 0, 0)), ((116, .iload_n 1, 1, 0, 0, 0, 0), (0, 0, 0)), ((117, .iadd, 1, 0, 0, 0, 0), (0, 0, 0)), ((118, .aload_n 0, 1, 0, 0, 0, 0), (0, 0, 0)), ((119, .iload_n 1, 1, 0, 0, 0, 0), (0, 0, 0)), ((120, .aload_n 0, 1, 0, 0, 0, 0), (0, 0, 0)), ((121, .bipush 103, 2, 0, 0, 0, 0), (0, 0, 0)), ((123, .sipush 999, 3, 0, 0, 0, 0), (0, 0, 0))] (by decide +kernel) rfl ?_
          refine hx_call (E := (126, .invokevirtual 251, 3, 225, 0, 7028, 0)) (M' := yp_m225) [.inr (.inl 86), .inl 103, .inl 999] [.inl x1, .inr (.inl 86), .inl (gx_w (1120 + x1)), .inr (.inl 87)] rfl (by decide +kernel) rfl ⟨rfl, rfl⟩ rfl rfl (hF225g (m0 := m0) g3 (fun v4 m4 g4 => ?_))
          show hxn xs n yp_m259 129 [(0, .inr (.inl 86)), (1, .inl x1)] [.inl v4, .inl x1, .inr (.inl 86), .inl (gx_w (1120 + x1)), .inr (.inl 87)] m4 Q
          refine hx_call (E := (129, .invokevirtual 266, 3, 198, 0, 6164, 0)) (M' := yp_m198) [.inr (.inl 86), .inl x1, .inl v4] [.inl (gx_w (1120 + x1)), .inr (.inl 87)] rfl (by decide +kernel) rfl ⟨rfl, rfl⟩ rfl rfl (hF198g (m0 := m0) g4 (fun v5 m5 g5 => ?_))
          show hxn xs n yp_m259 132 [(0, .inr (.inl 86)), (1, .inl x1)] [.inl v5, .inl (gx_w (1120 + x1)), .inr (.inl 87)] m5 Q
          refine hx_blk (npc := 37) (L' := [(0, .inr (.inl 86)), (1, .inl (gx_w (x1 + 1)))]) (st' := []) (m' := (gx_u m5 87 (gx_w (1120 + x1)).toNat v5)) [((132, .iastore, 1, 0, 0, 0, 0), (0, 87, 0)), ((133, .iinc 1 1, 3, 0, 0, 0, 0), (0, 0, 0)), ((136, .goto (-99), 3, 0, 0, 0, 0), (0, 0, 0))] (by decide +kernel) rfl ?_
          exact hx_pick [0, 1] (ih.2 (gx_w (x1 + 1)) (gx_u m5 87 (gx_w (1120 + x1)).toNat v5) (g5.w 87 (by decide)))
      · refine hx_blk (npc := 37) (L' := [(0, .inr (.inl 86)), (1, .inl (gx_w (x1 + 1)))]) (st' := []) (m' := m1) [((51, .goto 82, 3, 0, 0, 0, 0), (0, 0, 0)), ((133, .iinc 1 1, 3, 0, 0, 0, 0), (0, 0, 0)), ((136, .goto (-99), 3, 0, 0, 0, 0), (0, 0, 0))] (by decide +kernel) rfl ?_
        exact hx_pick [0, 1] (ih.2 (gx_w (x1 + 1)) m1 g1)
theorem hF259g {xs : List Int32} {n : Nat} {Q : hQ} {m0 m : gx_M} (g : hFr hFg m0 m) (hQ : ∀ m', hFr hFg m0 m' → Q none m') : hxn xs n yp_m259 0 [(0, .inr (.inl 86))] [] m Q := by
  refine hx_dn ?_
  refine hx_blks (npc := 2) (L' := [(0, .inr (.inl 86)), (1, .inl 0)]) (st' := []) (m' := m) ((0, .iconst 0, 1, 0, 0, 0, 0), (0, 0, 0)) [((1, .istore_n 1, 1, 0, 0, 0, 0), (0, 0, 0))] (by decide +kernel) rfl ?_
  exact hx_pick [0, 1] ((hF259gl (xs := xs) hQ n).1 0 m g)
theorem hF258gl {xs : List Int32} {Q : hQ} {m0 : gx_M} (hQ : ∀ m', hFr hFg m0 m' → Q none m') : ∀ n : Nat, (∀ (x1 x2 : Int) (m : gx_M), hFr hFg m0 m → hxn xs n yp_m258 7 [(0, .inr (.inl 86)), (1, .inl x1), (2, .inl x2)] [] m Q) := by
  intro n
  induction n with
  | zero => exact fun _ _ _ _ => hx_0
  | succ n ih =>
    intro x1 x2 m g
    refine hx_blks (npc := 9) (L' := [(0, .inr (.inl 86)), (1, .inl x1), (2, .inl x2)]) (st' := [.inl x1, .inl x2]) (m' := m) ((7, .iload_n 2, 1, 0, 0, 0, 0), (0, 0, 0)) [((8, .iload_n 1, 1, 0, 0, 0, 0), (0, 0, 0))] (by decide +kernel) rfl ?_
    refine hx_cmp .ge 22 (by decide +kernel) (fun _ => ?_) (fun _ => ?_)
    · exact hx_ret0 (by decide +kernel) (hQ _ g)
    · refine hx_blk (npc := 13) (L' := [(0, .inr (.inl 86)), (1, .inl x1), (2, .inl x2)]) (st' := [.inr (.inl 86)]) (m' := m) [((12, .aload_n 0, 1, 0, 0, 0, 0), (0, 0, 0))] (by decide +kernel) rfl ?_
      refine hx_call (E := (13, .invokevirtual 397, 3, 259, 0, 7164, 0)) (M' := yp_m259) [.inr (.inl 86)] [] rfl (by decide +kernel) rfl ⟨rfl, rfl⟩ rfl rfl (hF259g (m0 := m0) g (fun m1 g1 => ?_))
      show hxn xs n yp_m258 16 [(0, .inr (.inl 86)), (1, .inl x1), (2, .inl x2)] [] m1 Q
      refine hx_blk (npc := 7) (L' := [(0, .inr (.inl 86)), (1, .inl x1), (2, .inl (gx_w (x2 + 1)))]) (st' := []) (m' := m1) [((16, .iinc 2 1, 3, 0, 0, 0, 0), (0, 0, 0)), ((19, .goto (-12), 3, 0, 0, 0, 0), (0, 0, 0))] (by decide +kernel) rfl ?_
      exact hx_pick [0, 1, 2] (ih x1 (gx_w (x2 + 1)) m1 g1)
theorem hF258g {xs : List Int32} {n : Nat} {Q : hQ} {m0 m : gx_M} {x1 : Int} (g : hFr hFg m0 m) (hQ : ∀ m', hFr hFg m0 m' → Q none m') : hxn xs n yp_m258 0 [(0, .inr (.inl 86)), (1, .inl x1)] [] m Q := by
  refine hx_dn ?_
  refine hx_blks (npc := 7) (L' := [(0, .inr (.inl 86)), (1, .inl x1), (2, .inl 0)]) (st' := []) (m' := (gx_u m 86 45 0)) ((0, .aload_n 0, 1, 0, 0, 0, 0), (0, 0, 0)) [((1, .iconst 0, 1, 0, 0, 0, 0), (0, 0, 0)), ((2, .putfield 390, 3, 10, 45, 5158, 0), (0, 86, 0)), ((5, .iconst 0, 1, 0, 0, 0, 0), (0, 0, 0)), ((6, .istore_n 2, 1, 0, 0, 0, 0), (0, 0, 0))] (by decide +kernel) rfl ?_
  exact hx_pick [0, 1, 2] ((hF258gl (xs := xs) hQ n) x1 0 (gx_u m 86 45 0) (g.w 86 (by decide)))
def hFn : List Nat := [109]
theorem hF216n {xs : List Int32} {n : Nat} {Q : hQ} {m0 m : gx_M} {x1 x2 : Int} (g : hFr hFn m0 m) (hQ : ∀ m', hFr hFn m0 m' → Q none m') : hxn xs n yp_m216 0 [(0, .inr (.inl 86)), (1, .inl x1), (2, .inl x2)] [] m Q := by
  refine hx_dn ?_
  refine hx_blks (npc := 26) (L' := [(0, .inr (.inl 86)), (1, .inl x1), (2, .inl x2), (3, .inl (m 109 (x1).toNat))]) (st' := []) (m' := (gx_u (gx_u m 109 (x1).toNat (m 109 (x2).toNat)) 109 (x2).toNat (m 109 (x1).toNat))) ((0, .aload_n 0, 1, 0, 0, 0, 0), (0, 0, 0)) [((1, .getfield 77, 3, 10, 33, 5146, 0), (1, 86, 109)), ((4, .iload_n 1, 1, 0, 0, 0, 0), (0, 0, 0)), ((5, .iaload, 1, 0, 0, 0, 0), (0, 109, 0)), ((6, .istore_n 3, 1, 0, 0, 0, 0), (0, 0, 0)), ((7, .aload_n 0, 1, 0, 0, 0, 0), (0, 0, 0)), ((8, .getfield 77, 3, 10, 33, 5146, 0), (1, 86, 109)), ((11, .iload_n 1, 1, 0, 0, 0, 0), (0, 0, 0)), ((12, .aload_n 0, 1, 0, 0, 0, 0), (0, 0, 0)), ((13, .getfield 77, 3, 10, 33, 5146, 0), (1, 86, 109)), ((16, .iload_n 2, 1, 0, 0, 0, 0), (0, 0, 0)), ((17, .iaload, 1, 0, 0, 0, 0), (0, 109, 0)), ((18, .iastore, 1, 0, 0, 0, 0), (0, 109, 0)), ((19, .aload_n 0, 1, 0, 0, 0, 0), (0, 0, 0)), ((20, .getfield 77, 3, 10, 33, 5146, 0), (1, 86, 109)), ((23, .iload_n 2, 1, 0, 0, 0, 0), (0, 0, 0)), ((24, .iload_n 3, 1, 0, 0, 0, 0), (0, 0, 0)), ((25, .iastore, 1, 0, 0, 0, 0), (0, 109, 0))] (by decide +kernel) rfl ?_
  exact hx_ret0 (by decide +kernel) (hQ _ ((g.w 109 (by decide)).w 109 (by decide)))
theorem hF215nl {xs : List Int32} {Q : hQ} {m0 : gx_M} (hQ : ∀ v m', hFr hFn m0 m' → Q (some (.inl v)) m') : ∀ n : Nat, (∀ (x1 : Int) (m : gx_M), hFr hFn m0 m → hxn xs n yp_m215 7 [(0, .inr (.inl 86)), (1, .inl x1)] [] m Q) ∧ (∀ (x1 x2 : Int) (m : gx_M), hFr hFn m0 m → hxn xs n yp_m215 48 [(0, .inr (.inl 86)), (1, .inl x1), (2, .inl x2)] [] m Q) ∧ (∀ (x3 x4 : Int) (m : gx_M), hFr hFn m0 m → hxn xs n yp_m215 88 [(0, .inr (.inl 86)), (3, .inl x3), (4, .inl x4)] [] m Q) := by
  intro n
  induction n with
  | zero => exact ⟨fun _ _ _ => hx_0, fun _ _ _ _ => hx_0, fun _ _ _ _ => hx_0⟩
  | succ n ih =>
    refine ⟨?_, ?_⟩
    · intro x1 m g
      refine hx_blks (npc := 8) (L' := [(0, .inr (.inl 86)), (1, .inl x1)]) (st' := [.inl x1]) (m' := m) ((7, .iload_n 1, 1, 0, 0, 0, 0), (0, 0, 0)) [] (by decide +kernel) rfl ?_
      refine hx_if .lt 35 (by decide +kernel) (fun _ => ?_) (fun _ => ?_)
      · refine hx_blk (npc := 36) (L' := [(0, .inr (.inl 86)), (1, .inl x1)]) (st' := [.inl x1]) (m' := m) [((35, .iload_n 1, 1, 0, 0, 0, 0), (0, 0, 0))] (by decide +kernel) rfl ?_
        refine hx_if .ge 41 (by decide +kernel) (fun _ => ?_) (fun _ => ?_)
        · refine hx_blk (npc := 48) (L' := [(0, .inr (.inl 86)), (1, .inl x1), (2, .inl (gx_w ((m 86 32) - 1)))]) (st' := []) (m' := m) [((41, .aload_n 0, 1, 0, 0, 0, 0), (0, 0, 0)), ((42, .getfield 254, 3, 10, 32, 5145, 0), (0, 86, 0)), ((45, .iconst 1, 1, 0, 0, 0, 0), (0, 0, 0)), ((46, .isub, 1, 0, 0, 0, 0), (0, 0, 0)), ((47, .istore_n 2, 1, 0, 0, 0, 0), (0, 0, 0))] (by decide +kernel) rfl ?_
          exact hx_pick [0, 1, 2] (ih.2.1 x1 (gx_w ((m 86 32) - 1)) m g)
        · refine hx_blk (npc := 40) (L' := [(0, .inr (.inl 86)), (1, .inl x1)]) (st' := [.inl 0]) (m' := m) [((39, .iconst 0, 1, 0, 0, 0, 0), (0, 0, 0))] (by decide +kernel) rfl ?_
          exact hx_reti (by decide +kernel) (hQ _ _ g)
      · refine hx_blk (npc := 25) (L' := [(0, .inr (.inl 86)), (1, .inl x1)]) (st' := [.inl (m 109 (gx_w (x1 + 1)).toNat), .inl (m 109 (x1).toNat)]) (m' := m) [((11, .aload_n 0, 1, 0, 0, 0, 0), (0, 0, 0)), ((12, .getfield 77, 3, 10, 33, 5146, 0), (1, 86, 109)), ((15, .iload_n 1, 1, 0, 0, 0, 0), (0, 0, 0)), ((16, .iaload, 1, 0, 0, 0, 0), (0, 109, 0)), ((17, .aload_n 0, 1, 0, 0, 0, 0), (0, 0, 0)), ((18, .getfield 77, 3, 10, 33, 5146, 0), (1, 86, 109)), ((21, .iload_n 1, 1, 0, 0, 0, 0), (0, 0, 0)), ((22, .iconst 1, 1, 0, 0, 0, 0), (0, 0, 0)), ((23, .iadd, 1, 0, 0, 0, 0), (0, 0, 0)), ((24, .iaload, 1, 0, 0, 0, 0), (0, 109, 0))] (by decide +kernel) rfl ?_
        refine hx_cmp .le 35 (by decide +kernel) (fun _ => ?_) (fun _ => ?_)
        · refine hx_blk (npc := 36) (L' := [(0, .inr (.inl 86)), (1, .inl x1)]) (st' := [.inl x1]) (m' := m) [((35, .iload_n 1, 1, 0, 0, 0, 0), (0, 0, 0))] (by decide +kernel) rfl ?_
          refine hx_if .ge 41 (by decide +kernel) (fun _ => ?_) (fun _ => ?_)
          · refine hx_blk (npc := 48) (L' := [(0, .inr (.inl 86)), (1, .inl x1), (2, .inl (gx_w ((m 86 32) - 1)))]) (st' := []) (m' := m) [((41, .aload_n 0, 1, 0, 0, 0, 0), (0, 0, 0)), ((42, .getfield 254, 3, 10, 32, 5145, 0), (0, 86, 0)), ((45, .iconst 1, 1, 0, 0, 0, 0), (0, 0, 0)), ((46, .isub, 1, 0, 0, 0, 0), (0, 0, 0)), ((47, .istore_n 2, 1, 0, 0, 0, 0), (0, 0, 0))] (by decide +kernel) rfl ?_
            exact hx_pick [0, 1, 2] (ih.2.1 x1 (gx_w ((m 86 32) - 1)) m g)
          · refine hx_blk (npc := 40) (L' := [(0, .inr (.inl 86)), (1, .inl x1)]) (st' := [.inl 0]) (m' := m) [((39, .iconst 0, 1, 0, 0, 0, 0), (0, 0, 0))] (by decide +kernel) rfl ?_
            exact hx_reti (by decide +kernel) (hQ _ _ g)
        · refine hx_blk (npc := 7) (L' := [(0, .inr (.inl 86)), (1, .inl (gx_w (x1 - 1)))]) (st' := []) (m' := m) [((28, .iload_n 1, 1, 0, 0, 0, 0), (0, 0, 0)), ((29, .iconst 1, 1, 0, 0, 0, 0), (0, 0, 0)), ((30, .isub, 1, 0, 0, 0, 0), (0, 0, 0)), ((31, .istore_n 1, 1, 0, 0, 0, 0), (0, 0, 0)), ((32, .goto (-25), 3, 0, 0, 0, 0), (0, 0, 0))] (by decide +kernel) rfl ?_
          exact hx_pick [0, 1] (ih.1 (gx_w (x1 - 1)) m g)
    refine ⟨?_, ?_⟩
    · intro x1 x2 m g
      refine hx_blks (npc := 60) (L' := [(0, .inr (.inl 86)), (1, .inl x1), (2, .inl x2)]) (st' := [.inl (m 109 (x1).toNat), .inl (m 109 (x2).toNat)]) (m' := m) ((48, .aload_n 0, 1, 0, 0, 0, 0), (0, 0, 0)) [((49, .getfield 77, 3, 10, 33, 5146, 0), (1, 86, 109)), ((52, .iload_n 2, 1, 0, 0, 0, 0), (0, 0, 0)), ((53, .iaload, 1, 0, 0, 0, 0), (0, 109, 0)), ((54, .aload_n 0, 1, 0, 0, 0, 0), (0, 0, 0)), ((55, .getfield 77, 3, 10, 33, 5146, 0), (1, 86, 109)), ((58, .iload_n 1, 1, 0, 0, 0, 0), (0, 0, 0)), ((59, .iaload, 1, 0, 0, 0, 0), (0, 109, 0))] (by decide +kernel) rfl ?_
      refine hx_cmp .ge 70 (by decide +kernel) (fun _ => ?_) (fun _ => ?_)
      · refine hx_blk (npc := 73) (L' := [(0, .inr (.inl 86)), (1, .inl x1), (2, .inl x2)]) (st' := [.inl x2, .inl x1, .inr (.inl 86)]) (m' := m) [((70, .aload_n 0, 1, 0, 0, 0, 0), (0, 0, 0)), ((71, .iload_n 1, 1, 0, 0, 0, 0), (0, 0, 0)), ((72, .iload_n 2, 1, 0, 0, 0, 0), (0, 0, 0))] (by decide +kernel) rfl ?_
        refine hx_call (E := (73, .invokevirtual 294, 3, 216, 0, 6232, 0)) (M' := yp_m216) [.inr (.inl 86), .inl x1, .inl x2] [] rfl (by decide +kernel) rfl ⟨rfl, rfl⟩ rfl rfl (hF216n (m0 := m0) g (fun m1 g1 => ?_))
        show hxn xs n yp_m215 76 [(0, .inr (.inl 86)), (1, .inl x1), (2, .inl x2)] [] m1 Q
        refine hx_blk (npc := 88) (L' := [(0, .inr (.inl 86)), (1, .inl x1), (2, .inl x2), (3, .inl (gx_w (x1 + 1))), (4, .inl (gx_w ((m1 86 32) - 1)))]) (st' := []) (m' := m1) [((76, .iload_n 1, 1, 0, 0, 0, 0), (0, 0, 0)), ((77, .iconst 1, 1, 0, 0, 0, 0), (0, 0, 0)), ((78, .iadd, 1, 0, 0, 0, 0), (0, 0, 0)), ((79, .istore_n 3, 1, 0, 0, 0, 0), (0, 0, 0)), ((80, .aload_n 0, 1, 0, 0, 0, 0), (0, 0, 0)), ((81, .getfield 254, 3, 10, 32, 5145, 0), (0, 86, 0)), ((84, .iconst 1, 1, 0, 0, 0, 0), (0, 0, 0)), ((85, .isub, 1, 0, 0, 0, 0), (0, 0, 0)), ((86, .istore 4, 2, 0, 0, 0, 0), (0, 0, 0))] (by decide +kernel) rfl ?_
        exact hx_pick [0, 3, 4] (ih.2.2 (gx_w (x1 + 1)) (gx_w ((m1 86 32) - 1)) m1 g1)
      · refine hx_blk (npc := 48) (L' := [(0, .inr (.inl 86)), (1, .inl x1), (2, .inl (gx_w (x2 - 1)))]) (st' := []) (m' := m) [((63, .iload_n 2, 1, 0, 0, 0, 0), (0, 0, 0)), ((64, .iconst 1, 1, 0, 0, 0, 0), (0, 0, 0)), ((65, .isub, 1, 0, 0, 0, 0), (0, 0, 0)), ((66, .istore_n 2, 1, 0, 0, 0, 0), (0, 0, 0)), ((67, .goto (-19), 3, 0, 0, 0, 0), (0, 0, 0))] (by decide +kernel) rfl ?_
        exact hx_pick [0, 1, 2] (ih.2.1 x1 (gx_w (x2 - 1)) m g)
    intro x3 x4 m g
    refine hx_blks (npc := 91) (L' := [(0, .inr (.inl 86)), (3, .inl x3), (4, .inl x4)]) (st' := [.inl x4, .inl x3]) (m' := m) ((88, .iload_n 3, 1, 0, 0, 0, 0), (0, 0, 0)) [((89, .iload 4, 2, 0, 0, 0, 0), (0, 0, 0))] (by decide +kernel) rfl ?_
    refine hx_cmp .ge 114 (by decide +kernel) (fun _ => ?_) (fun _ => ?_)
    · refine hx_blk (npc := 115) (L' := [(0, .inr (.inl 86)), (3, .inl x3), (4, .inl x4)]) (st' := [.inl 1]) (m' := m) [((114, .iconst 1, 1, 0, 0, 0, 0), (0, 0, 0))] (by decide +kernel) rfl ?_
      exact hx_reti (by decide +kernel) (hQ _ _ g)
    · refine hx_blk (npc := 98) (L' := [(0, .inr (.inl 86)), (3, .inl x3), (4, .inl x4)]) (st' := [.inl x4, .inl x3, .inr (.inl 86)]) (m' := m) [((94, .aload_n 0, 1, 0, 0, 0, 0), (0, 0, 0)), ((95, .iload_n 3, 1, 0, 0, 0, 0), (0, 0, 0)), ((96, .iload 4, 2, 0, 0, 0, 0), (0, 0, 0))] (by decide +kernel) rfl ?_
      refine hx_call (E := (98, .invokevirtual 294, 3, 216, 0, 6232, 0)) (M' := yp_m216) [.inr (.inl 86), .inl x3, .inl x4] [] rfl (by decide +kernel) rfl ⟨rfl, rfl⟩ rfl rfl (hF216n (m0 := m0) g (fun m1 g1 => ?_))
      show hxn xs n yp_m215 101 [(0, .inr (.inl 86)), (3, .inl x3), (4, .inl x4)] [] m1 Q
      refine hx_blk (npc := 88) (L' := [(0, .inr (.inl 86)), (3, .inl (gx_w (x3 + 1))), (4, .inl (gx_w (x4 - 1)))]) (st' := []) (m' := m1) [((101, .iload_n 3, 1, 0, 0, 0, 0), (0, 0, 0)), ((102, .iconst 1, 1, 0, 0, 0, 0), (0, 0, 0)), ((103, .iadd, 1, 0, 0, 0, 0), (0, 0, 0)), ((104, .istore_n 3, 1, 0, 0, 0, 0), (0, 0, 0)), ((105, .iload 4, 2, 0, 0, 0, 0), (0, 0, 0)), ((107, .iconst 1, 1, 0, 0, 0, 0), (0, 0, 0)), ((108, .isub, 1, 0, 0, 0, 0), (0, 0, 0)), ((109, .istore 4, 2, 0, 0, 0, 0), (0, 0, 0)), ((111, .goto (-23), 3, 0, 0, 0, 0), (0, 0, 0))] (by decide +kernel) rfl ?_
      exact hx_pick [0, 3, 4] (ih.2.2 (gx_w (x3 + 1)) (gx_w (x4 - 1)) m1 g1)
theorem hF215n {xs : List Int32} {n : Nat} {Q : hQ} {m0 m : gx_M} (g : hFr hFn m0 m) (hQ : ∀ v m', hFr hFn m0 m' → Q (some (.inl v)) m') : hxn xs n yp_m215 0 [(0, .inr (.inl 86))] [] m Q := by
  refine hx_dn ?_
  refine hx_blks (npc := 7) (L' := [(0, .inr (.inl 86)), (1, .inl (gx_w ((m 86 32) - 2)))]) (st' := []) (m' := m) ((0, .aload_n 0, 1, 0, 0, 0, 0), (0, 0, 0)) [((1, .getfield 254, 3, 10, 32, 5145, 0), (0, 86, 0)), ((4, .iconst 2, 1, 0, 0, 0, 0), (0, 0, 0)), ((5, .isub, 1, 0, 0, 0, 0), (0, 0, 0)), ((6, .istore_n 1, 1, 0, 0, 0, 0), (0, 0, 0))] (by decide +kernel) rfl ?_
  exact hx_pick [0, 1] ((hF215nl (xs := xs) hQ n).1 (gx_w ((m 86 32) - 2)) m g)
end
section
/-! what is asked of ones and years by the reference -/
def hFo : List Nat := []
theorem hF205o {xs : List Int32} {n : Nat} {Q : hQ} {m0 m : gx_M} {x1 x2 : Int} (g : hFr hFo m0 m) (hQ : ∀ v m', hFr hFo m0 m' → Q (some (.inl v)) m') : hxn xs n yp_m205 0 [(0, .inr (.inl 86)), (1, .inl x1), (2, .inl x2)] [] m Q := by
  refine hx_dn ?_
  refine hx_blks (npc := 10) (L' := [(0, .inr (.inl 86)), (1, .inl x1), (2, .inl x2)]) (st' := [.inl (m 87 (gx_w (440 + x1)).toNat)]) (m' := m) ((0, .aload_n 0, 1, 0, 0, 0, 0), (0, 0, 0)) [((1, .getfield 7, 3, 10, 0, 5113, 0), (1, 86, 87)), ((4, .sipush 440, 3, 0, 0, 0, 0), (0, 0, 0)), ((7, .iload_n 1, 1, 0, 0, 0, 0), (0, 0, 0)), ((8, .iadd, 1, 0, 0, 0, 0), (0, 0, 0)), ((9, .iaload, 1, 0, 0, 0, 0), (0, 87, 0))] (by decide +kernel) rfl ?_
  refine hx_if .ne 15 (by decide +kernel) (fun _ => ?_) (fun _ => ?_)
  · refine hx_blk (npc := 26) (L' := [(0, .inr (.inl 86)), (1, .inl x1), (2, .inl x2)]) (st' := [.inl x2, .inl (m 87 (gx_w (240 + x1)).toNat)]) (m' := m) [((15, .aload_n 0, 1, 0, 0, 0, 0), (0, 0, 0)), ((16, .getfield 7, 3, 10, 0, 5113, 0), (1, 86, 87)), ((19, .sipush 240, 3, 0, 0, 0, 0), (0, 0, 0)), ((22, .iload_n 1, 1, 0, 0, 0, 0), (0, 0, 0)), ((23, .iadd, 1, 0, 0, 0, 0), (0, 0, 0)), ((24, .iaload, 1, 0, 0, 0, 0), (0, 87, 0)), ((25, .iload_n 2, 1, 0, 0, 0, 0), (0, 0, 0))] (by decide +kernel) rfl ?_
    refine hx_cmp .ne 33 (by decide +kernel) (fun _ => ?_) (fun _ => ?_)
    · refine hx_blk (npc := 34) (L' := [(0, .inr (.inl 86)), (1, .inl x1), (2, .inl x2)]) (st' := [.inl 0]) (m' := m) [((33, .iconst 0, 1, 0, 0, 0, 0), (0, 0, 0))] (by decide +kernel) rfl ?_
      exact hx_reti (by decide +kernel) (hQ _ _ g)
    · refine hx_blk (npc := 34) (L' := [(0, .inr (.inl 86)), (1, .inl x1), (2, .inl x2)]) (st' := [.inl 1]) (m' := m) [((29, .iconst 1, 1, 0, 0, 0, 0), (0, 0, 0)), ((30, .goto 4, 3, 0, 0, 0, 0), (0, 0, 0))] (by decide +kernel) rfl ?_
      exact hx_reti (by decide +kernel) (hQ _ _ g)
  · refine hx_blk (npc := 14) (L' := [(0, .inr (.inl 86)), (1, .inl x1), (2, .inl x2)]) (st' := [.inl 0]) (m' := m) [((13, .iconst 0, 1, 0, 0, 0, 0), (0, 0, 0))] (by decide +kernel) rfl ?_
    exact hx_reti (by decide +kernel) (hQ _ _ g)
theorem hF204ol {xs : List Int32} {Q : hQ} {m0 : gx_M} (hQ : ∀ v m', hFr hFo m0 m' → Q (some (.inl v)) m') : ∀ n : Nat, (∀ (x1 x2 x3 : Int) (m : gx_M), hFr hFo m0 m → hxn xs n yp_m204 4 [(0, .inr (.inl 86)), (1, .inl x1), (2, .inl x2), (3, .inl x3)] [] m Q) := by
  intro n
  induction n with
  | zero => exact fun _ _ _ _ _ => hx_0
  | succ n ih =>
    intro x1 x2 x3 m g
    refine hx_blks (npc := 7) (L' := [(0, .inr (.inl 86)), (1, .inl x1), (2, .inl x2), (3, .inl x3)]) (st' := [.inl 40, .inl x3]) (m' := m) ((4, .iload_n 3, 1, 0, 0, 0, 0), (0, 0, 0)) [((5, .bipush 40, 2, 0, 0, 0, 0), (0, 0, 0))] (by decide +kernel) rfl ?_
    refine hx_cmp .ge 33 (by decide +kernel) (fun _ => ?_) (fun _ => ?_)
    · refine hx_blk (npc := 34) (L' := [(0, .inr (.inl 86)), (1, .inl x1), (2, .inl x2), (3, .inl x3)]) (st' := [.inl x2]) (m' := m) [((33, .iload_n 2, 1, 0, 0, 0, 0), (0, 0, 0))] (by decide +kernel) rfl ?_
      exact hx_reti (by decide +kernel) (hQ _ _ g)
    · refine hx_blk (npc := 14) (L' := [(0, .inr (.inl 86)), (1, .inl x1), (2, .inl x2), (3, .inl x3)]) (st' := [.inl x1, .inl x3, .inr (.inl 86), .inl x2]) (m' := m) [((10, .iload_n 2, 1, 0, 0, 0, 0), (0, 0, 0)), ((11, .aload_n 0, 1, 0, 0, 0, 0), (0, 0, 0)), ((12, .iload_n 3, 1, 0, 0, 0, 0), (0, 0, 0)), ((13, .iload_n 1, 1, 0, 0, 0, 0), (0, 0, 0))] (by decide +kernel) rfl ?_
      refine hx_call (E := (14, .invokevirtual 117, 3, 205, 0, 6191, 0)) (M' := yp_m205) [.inr (.inl 86), .inl x3, .inl x1] [.inl x2] rfl (by decide +kernel) rfl ⟨rfl, rfl⟩ rfl rfl (hF205o (m0 := m0) g (fun v1 m1 g1 => ?_))
      show hxn xs n yp_m204 17 [(0, .inr (.inl 86)), (1, .inl x1), (2, .inl x2), (3, .inl x3)] [.inl v1, .inl x2] m1 Q
      refine hx_if .eq 24 (by decide +kernel) (fun _ => ?_) (fun _ => ?_)
      · refine hx_blk (npc := 4) (L' := [(0, .inr (.inl 86)), (1, .inl x1), (2, .inl (gx_w (x2 + 0))), (3, .inl (gx_w (x3 + 1)))]) (st' := []) (m' := m1) [((24, .iconst 0, 1, 0, 0, 0, 0), (0, 0, 0)), ((25, .iadd, 1, 0, 0, 0, 0), (0, 0, 0)), ((26, .istore_n 2, 1, 0, 0, 0, 0), (0, 0, 0)), ((27, .iinc 3 1, 3, 0, 0, 0, 0), (0, 0, 0)), ((30, .goto (-26), 3, 0, 0, 0, 0), (0, 0, 0))] (by decide +kernel) rfl ?_
        exact hx_pick [0, 1, 2, 3] (ih x1 (gx_w (x2 + 0)) (gx_w (x3 + 1)) m1 g1)
      · refine hx_blk (npc := 4) (L' := [(0, .inr (.inl 86)), (1, .inl x1), (2, .inl (gx_w (x2 + 1))), (3, .inl (gx_w (x3 + 1)))]) (st' := []) (m' := m1) [((20, .iconst 1, 1, 0, 0, 0, 0), (0, 0, 0)), ((21, .goto 4, 3, 0, 0, 0, 0), (0, 0, 0)), ((25, .iadd, 1, 0, 0, 0, 0), (0, 0, 0)), ((26, .istore_n 2, 1, 0, 0, 0, 0), (0, 0, 0)), ((27, .iinc 3 1, 3, 0, 0, 0, 0), (0, 0, 0)), ((30, .goto (-26), 3, 0, 0, 0, 0), (0, 0, 0))] (by decide +kernel) rfl ?_
        exact hx_pick [0, 1, 2, 3] (ih x1 (gx_w (x2 + 1)) (gx_w (x3 + 1)) m1 g1)
theorem hF204o {xs : List Int32} {n : Nat} {Q : hQ} {m0 m : gx_M} {x1 : Int} (g : hFr hFo m0 m) (hQ : ∀ v m', hFr hFo m0 m' → Q (some (.inl v)) m') : hxn xs n yp_m204 0 [(0, .inr (.inl 86)), (1, .inl x1)] [] m Q := by
  refine hx_dn ?_
  refine hx_blks (npc := 4) (L' := [(0, .inr (.inl 86)), (1, .inl x1), (2, .inl 0), (3, .inl 0)]) (st' := []) (m' := m) ((0, .iconst 0, 1, 0, 0, 0, 0), (0, 0, 0)) [((1, .istore_n 2, 1, 0, 0, 0, 0), (0, 0, 0)), ((2, .iconst 0, 1, 0, 0, 0, 0), (0, 0, 0)), ((3, .istore_n 3, 1, 0, 0, 0, 0), (0, 0, 0))] (by decide +kernel) rfl ?_
  exact hx_pick [0, 1, 2, 3] ((hF204ol (xs := xs) hQ n) x1 0 0 m g)
theorem hF165o {xs : List Int32} {n : Nat} {Q : hQ} {m0 m : gx_M} {x0 x1 : Int} (g : hFr hFo m0 m) (hQ : ∀ v m', hFr hFo m0 m' → Q (some (.inl v)) m') : hxn xs n yp_m165 0 [(0, .inl x0), (1, .inl x1)] [] m Q := by
  refine hx_dn ?_
  refine hx_blks (npc := 6) (L' := [(0, .inl x0), (1, .inl x1)]) (st' := [.inl 1, .inl (gx_and (gx_shr x0 x1) 1)]) (m' := m) ((0, .iload_n 0, 1, 0, 0, 0, 0), (0, 0, 0)) [((1, .iload_n 1, 1, 0, 0, 0, 0), (0, 0, 0)), ((2, .ishr, 1, 0, 0, 0, 0), (0, 0, 0)), ((3, .iconst 1, 1, 0, 0, 0, 0), (0, 0, 0)), ((4, .iand, 1, 0, 0, 0, 0), (0, 0, 0)), ((5, .iconst 1, 1, 0, 0, 0, 0), (0, 0, 0))] (by decide +kernel) rfl ?_
  refine hx_cmp .ne 13 (by decide +kernel) (fun _ => ?_) (fun _ => ?_)
  · refine hx_blk (npc := 14) (L' := [(0, .inl x0), (1, .inl x1)]) (st' := [.inl 0]) (m' := m) [((13, .iconst 0, 1, 0, 0, 0, 0), (0, 0, 0))] (by decide +kernel) rfl ?_
    exact hx_reti (by decide +kernel) (hQ _ _ g)
  · refine hx_blk (npc := 14) (L' := [(0, .inl x0), (1, .inl x1)]) (st' := [.inl 1]) (m' := m) [((9, .iconst 1, 1, 0, 0, 0, 0), (0, 0, 0)), ((10, .goto 4, 3, 0, 0, 0, 0), (0, 0, 0))] (by decide +kernel) rfl ?_
    exact hx_reti (by decide +kernel) (hQ _ _ g)
theorem hF164o {xs : List Int32} {n : Nat} {Q : hQ} {m0 m : gx_M} {x1 : Int} (g : hFr hFo m0 m) (hQ : ∀ v m', hFr hFo m0 m' → Q (some (.inl v)) m') : hxn xs n yp_m164 0 [(0, .inr (.inl 86)), (1, .inl x1)] [] m Q := by
  refine hx_dn ?_
  refine hx_blks (npc := 1) (L' := [(0, .inr (.inl 86)), (1, .inl x1)]) (st' := [.inl x1]) (m' := m) ((0, .iload_n 1, 1, 0, 0, 0, 0), (0, 0, 0)) [] (by decide +kernel) rfl ?_
  refine hx_if .lt 29 (by decide +kernel) (fun _ => ?_) (fun _ => ?_)
  · refine hx_blk (npc := 30) (L' := [(0, .inr (.inl 86)), (1, .inl x1)]) (st' := [.inl 0]) (m' := m) [((29, .iconst 0, 1, 0, 0, 0, 0), (0, 0, 0))] (by decide +kernel) rfl ?_
    exact hx_reti (by decide +kernel) (hQ _ _ g)
  · refine hx_blk (npc := 7) (L' := [(0, .inr (.inl 86)), (1, .inl x1)]) (st' := [.inl 8, .inl x1]) (m' := m) [((4, .iload_n 1, 1, 0, 0, 0, 0), (0, 0, 0)), ((5, .bipush 8, 2, 0, 0, 0, 0), (0, 0, 0))] (by decide +kernel) rfl ?_
    refine hx_cmp .ge 29 (by decide +kernel) (fun _ => ?_) (fun _ => ?_)
    · refine hx_blk (npc := 30) (L' := [(0, .inr (.inl 86)), (1, .inl x1)]) (st' := [.inl 0]) (m' := m) [((29, .iconst 0, 1, 0, 0, 0, 0), (0, 0, 0))] (by decide +kernel) rfl ?_
      exact hx_reti (by decide +kernel) (hQ _ _ g)
    · refine hx_blk (npc := 19) (L' := [(0, .inr (.inl 86)), (1, .inl x1)]) (st' := [.inl x1, .inl (m 87 1128)]) (m' := m) [((10, .aload_n 0, 1, 0, 0, 0, 0), (0, 0, 0)), ((11, .getfield 7, 3, 10, 0, 5113, 0), (1, 86, 87)), ((14, .sipush 1128, 3, 0, 0, 0, 0), (0, 0, 0)), ((17, .iaload, 1, 0, 0, 0, 0), (0, 87, 0)), ((18, .iload_n 1, 1, 0, 0, 0, 0), (0, 0, 0))] (by decide +kernel) rfl ?_
      refine hx_call (E := (19, .invokestatic 104, 3, 165, 0, 6035, 0)) (M' := yp_m165) [.inl (m 87 1128), .inl x1] [] rfl (by decide +kernel) rfl ⟨rfl, rfl⟩ rfl rfl (hF165o (m0 := m0) g (fun v1 m1 g1 => ?_))
      show hxn xs n yp_m164 22 [(0, .inr (.inl 86)), (1, .inl x1)] [.inl v1] m1 Q
      refine hx_if .eq 29 (by decide +kernel) (fun _ => ?_) (fun _ => ?_)
      · refine hx_blk (npc := 30) (L' := [(0, .inr (.inl 86)), (1, .inl x1)]) (st' := [.inl 0]) (m' := m1) [((29, .iconst 0, 1, 0, 0, 0, 0), (0, 0, 0))] (by decide +kernel) rfl ?_
        exact hx_reti (by decide +kernel) (hQ _ _ g1)
      · refine hx_blk (npc := 30) (L' := [(0, .inr (.inl 86)), (1, .inl x1)]) (st' := [.inl 1]) (m' := m1) [((25, .iconst 1, 1, 0, 0, 0, 0), (0, 0, 0)), ((26, .goto 4, 3, 0, 0, 0, 0), (0, 0, 0))] (by decide +kernel) rfl ?_
        exact hx_reti (by decide +kernel) (hQ _ _ g1)
theorem hF262ol {xs : List Int32} {Q : hQ} {m0 : gx_M} (hQ : ∀ v m', hFr hFo m0 m' → Q (some (.inl v)) m') : ∀ n : Nat, (∀ (x1 x2 : Int) (m : gx_M), hFr hFo m0 m → hxn xs n yp_m262 4 [(0, .inr (.inl 86)), (1, .inl x1), (2, .inl x2)] [] m Q) := by
  intro n
  induction n with
  | zero => exact fun _ _ _ _ => hx_0
  | succ n ih =>
    intro x1 x2 m g
    refine hx_blks (npc := 7) (L' := [(0, .inr (.inl 86)), (1, .inl x1), (2, .inl x2)]) (st' := [.inl 8, .inl x2]) (m' := m) ((4, .iload_n 2, 1, 0, 0, 0, 0), (0, 0, 0)) [((5, .bipush 8, 2, 0, 0, 0, 0), (0, 0, 0))] (by decide +kernel) rfl ?_
    refine hx_cmp .ge 41 (by decide +kernel) (fun _ => ?_) (fun _ => ?_)
    · refine hx_blk (npc := 42) (L' := [(0, .inr (.inl 86)), (1, .inl x1), (2, .inl x2)]) (st' := [.inl x1]) (m' := m) [((41, .iload_n 1, 1, 0, 0, 0, 0), (0, 0, 0))] (by decide +kernel) rfl ?_
      exact hx_reti (by decide +kernel) (hQ _ _ g)
    · refine hx_blk (npc := 13) (L' := [(0, .inr (.inl 86)), (1, .inl x1), (2, .inl x2)]) (st' := [.inl x2, .inr (.inl 86), .inl x1]) (m' := m) [((10, .iload_n 1, 1, 0, 0, 0, 0), (0, 0, 0)), ((11, .aload_n 0, 1, 0, 0, 0, 0), (0, 0, 0)), ((12, .iload_n 2, 1, 0, 0, 0, 0), (0, 0, 0))] (by decide +kernel) rfl ?_
      refine hx_call (E := (13, .invokevirtual 113, 3, 164, 0, 6031, 0)) (M' := yp_m164) [.inr (.inl 86), .inl x2] [.inl x1] rfl (by decide +kernel) rfl ⟨rfl, rfl⟩ rfl rfl (hF164o (m0 := m0) g (fun v1 m1 g1 => ?_))
      show hxn xs n yp_m262 16 [(0, .inr (.inl 86)), (1, .inl x1), (2, .inl x2)] [.inl v1, .inl x1] m1 Q
      refine hx_if .eq 32 (by decide +kernel) (fun _ => ?_) (fun _ => ?_)
      · refine hx_blk (npc := 4) (L' := [(0, .inr (.inl 86)), (1, .inl (gx_w (x1 + 0))), (2, .inl (gx_w (x2 + 1)))]) (st' := []) (m' := m1) [((32, .iconst 0, 1, 0, 0, 0, 0), (0, 0, 0)), ((33, .iadd, 1, 0, 0, 0, 0), (0, 0, 0)), ((34, .istore_n 1, 1, 0, 0, 0, 0), (0, 0, 0)), ((35, .iinc 2 1, 3, 0, 0, 0, 0), (0, 0, 0)), ((38, .goto (-34), 3, 0, 0, 0, 0), (0, 0, 0))] (by decide +kernel) rfl ?_
        exact hx_pick [0, 1, 2] (ih (gx_w (x1 + 0)) (gx_w (x2 + 1)) m1 g1)
      · refine hx_blk (npc := 4) (L' := [(0, .inr (.inl 86)), (1, .inl (gx_w (x1 + (m1 87 (gx_w (1120 + x2)).toNat)))), (2, .inl (gx_w (x2 + 1)))]) (st' := []) (m' := m1) [((19, .aload_n 0, 1, 0, 0, 0, 0), (0, 0, 0)), ((20, .getfield 7, 3, 10, 0, 5113, 0), (1, 86, 87)), ((23, .sipush 1120, 3, 0, 0, 0, 0), (0, 0, 0)), ((26, .iload_n 2, 1, 0, 0, 0, 0), (0, 0, 0)), ((27, .iadd, 1, 0, 0, 0, 0), (0, 0, 0)), ((28, .iaload, 1, 0, 0, 0, 0), (0, 87, 0)), ((29, .goto 4, 3, 0, 0, 0, 0), (0, 0, 0)), ((33, .iadd, 1, 0, 0, 0, 0), (0, 0, 0)), ((34, .istore_n 1, 1, 0, 0, 0, 0), (0, 0, 0)), ((35, .iinc 2 1, 3, 0, 0, 0, 0), (0, 0, 0)), ((38, .goto (-34), 3, 0, 0, 0, 0), (0, 0, 0))] (by decide +kernel) rfl ?_
        exact hx_pick [0, 1, 2] (ih (gx_w (x1 + (m1 87 (gx_w (1120 + x2)).toNat))) (gx_w (x2 + 1)) m1 g1)
theorem hF262o {xs : List Int32} {n : Nat} {Q : hQ} {m0 m : gx_M} (g : hFr hFo m0 m) (hQ : ∀ v m', hFr hFo m0 m' → Q (some (.inl v)) m') : hxn xs n yp_m262 0 [(0, .inr (.inl 86))] [] m Q := by
  refine hx_dn ?_
  refine hx_blks (npc := 4) (L' := [(0, .inr (.inl 86)), (1, .inl 0), (2, .inl 0)]) (st' := []) (m' := m) ((0, .iconst 0, 1, 0, 0, 0, 0), (0, 0, 0)) [((1, .istore_n 1, 1, 0, 0, 0, 0), (0, 0, 0)), ((2, .iconst 0, 1, 0, 0, 0, 0), (0, 0, 0)), ((3, .istore_n 2, 1, 0, 0, 0, 0), (0, 0, 0))] (by decide +kernel) rfl ?_
  exact hx_pick [0, 1, 2] ((hF262ol (xs := xs) hQ n) 0 0 m g)
/-- in from 0 on -/
theorem hs162 {xs : List Int32} {n : Nat} {Q : hQ} {m : gx_M} {x0 x1 x2 : Int}
    (h1 : x1 ≤ x0 ∧ x0 ≤ x2 → Q (some (.inl 1)) m) (h0 : ¬ (x1 ≤ x0 ∧ x0 ≤ x2) → Q (some (.inl 0)) m) : hxn xs n yp_m162 0 [(0, .inl x0), (1, .inl x1), (2, .inl x2)] [] m Q := by
  refine hx_dn ?_
  refine hx_blks (npc := 2) (L' := [(0, .inl x0), (1, .inl x1), (2, .inl x2)]) (st' := [.inl x1, .inl x0]) (m' := m) ((0, .iload_n 0, 1, 0, 0, 0, 0), (0, 0, 0)) [((1, .iload_n 1, 1, 0, 0, 0, 0), (0, 0, 0))] (by decide +kernel) rfl ?_
  refine hx_cmp .lt 14 (by decide +kernel) (fun c1 => ?_) (fun c1 => ?_)
  · have c1 : x0 < x1 := c1
    refine hx_blk (npc := 15) (L' := [(0, .inl x0), (1, .inl x1), (2, .inl x2)]) (st' := [.inl 0]) (m' := m) [((14, .iconst 0, 1, 0, 0, 0, 0), (0, 0, 0))] (by decide +kernel) rfl ?_
    exact hx_reti (by decide +kernel) (h0 (by omega))
  · have c1 : x1 ≤ x0 := by have h : ¬ (x0 < x1) := c1; omega
    refine hx_blk (npc := 7) (L' := [(0, .inl x0), (1, .inl x1), (2, .inl x2)]) (st' := [.inl x2, .inl x0]) (m' := m) [((5, .iload_n 0, 1, 0, 0, 0, 0), (0, 0, 0)), ((6, .iload_n 2, 1, 0, 0, 0, 0), (0, 0, 0))] (by decide +kernel) rfl ?_
    refine hx_cmp .gt 14 (by decide +kernel) (fun c2 => ?_) (fun c2 => ?_)
    · have c2 : x2 < x0 := c2
      refine hx_blk (npc := 15) (L' := [(0, .inl x0), (1, .inl x1), (2, .inl x2)]) (st' := [.inl 0]) (m' := m) [((14, .iconst 0, 1, 0, 0, 0, 0), (0, 0, 0))] (by decide +kernel) rfl ?_
      exact hx_reti (by decide +kernel) (h0 (by omega))
    · have c2 : x0 ≤ x2 := by have h : ¬ (x2 < x0) := c2; omega
      refine hx_blk (npc := 15) (L' := [(0, .inl x0), (1, .inl x1), (2, .inl x2)]) (st' := [.inl 1]) (m' := m) [((10, .iconst 1, 1, 0, 0, 0, 0), (0, 0, 0)), ((11, .goto 4, 3, 0, 0, 0, 0), (0, 0, 0))] (by decide +kernel) rfl ?_
      exact hx_reti (by decide +kernel) (h1 (by omega))

/-- has from 0 on -/
theorem hs165 {xs : List Int32} {n : Nat} {Q : hQ} {m : gx_M} {x0 x1 : Int}
    (h1 : gx_and (gx_shr x0 x1) 1 = 1 → Q (some (.inl 1)) m) (h0 : ¬ (gx_and (gx_shr x0 x1) 1 = 1) → Q (some (.inl 0)) m) : hxn xs n yp_m165 0 [(0, .inl x0), (1, .inl x1)] [] m Q := by
  refine hx_dn ?_
  have f1 := gx_and_bd (gx_shr x0 x1) 1 (by decide)
  refine hx_blks (npc := 6) (L' := [(0, .inl x0), (1, .inl x1)]) (st' := [.inl 1, .inl (gx_and (gx_shr x0 x1) 1)]) (m' := m) ((0, .iload_n 0, 1, 0, 0, 0, 0), (0, 0, 0)) [((1, .iload_n 1, 1, 0, 0, 0, 0), (0, 0, 0)), ((2, .ishr, 1, 0, 0, 0, 0), (0, 0, 0)), ((3, .iconst 1, 1, 0, 0, 0, 0), (0, 0, 0)), ((4, .iand, 1, 0, 0, 0, 0), (0, 0, 0)), ((5, .iconst 1, 1, 0, 0, 0, 0), (0, 0, 0))] (by decide +kernel) rfl ?_
  refine hx_cmp .ne 13 (by decide +kernel) (fun c1 => ?_) (fun c1 => ?_)
  · have c1 : (gx_and (gx_shr x0 x1) 1) ≠ 1 := c1
    refine hx_blk (npc := 14) (L' := [(0, .inl x0), (1, .inl x1)]) (st' := [.inl 0]) (m' := m) [((13, .iconst 0, 1, 0, 0, 0, 0), (0, 0, 0))] (by decide +kernel) rfl ?_
    exact hx_reti (by decide +kernel) (h0 (by omega))
  · have c1 : (gx_and (gx_shr x0 x1) 1) = 1 := by have h : ¬ ((gx_and (gx_shr x0 x1) 1) ≠ 1) := c1; omega
    refine hx_blk (npc := 14) (L' := [(0, .inl x0), (1, .inl x1)]) (st' := [.inl 1]) (m' := m) [((9, .iconst 1, 1, 0, 0, 0, 0), (0, 0, 0)), ((10, .goto 4, 3, 0, 0, 0, 0), (0, 0, 0))] (by decide +kernel) rfl ?_
    exact hx_reti (by decide +kernel) (h1 (by omega))

def aPers (s : Nat → Int) (p : Int) : Prop := 0 ≤ p ∧ p < 8 ∧ gx_and (gx_shr (s 1128) p) 1 = 1
/-- isPerson from 0 on -/
theorem hs164 {xs : List Int32} {n : Nat} {Q : hQ} {m : gx_M} {x1 : Int}
    (h1 : aPers (m 87) x1 → Q (some (.inl 1)) m) (h0 : ¬ (aPers (m 87) x1) → Q (some (.inl 0)) m) : hxn xs n yp_m164 0 [(0, .inr (.inl 86)), (1, .inl x1)] [] m Q := by
  refine hx_dn ?_
  refine hx_blks (npc := 1) (L' := [(0, .inr (.inl 86)), (1, .inl x1)]) (st' := [.inl x1]) (m' := m) ((0, .iload_n 1, 1, 0, 0, 0, 0), (0, 0, 0)) [] (by decide +kernel) rfl ?_
  refine hx_if .lt 29 (by decide +kernel) (fun c1 => ?_) (fun c1 => ?_)
  · have c1 : x1 < 0 := c1
    refine hx_blk (npc := 30) (L' := [(0, .inr (.inl 86)), (1, .inl x1)]) (st' := [.inl 0]) (m' := m) [((29, .iconst 0, 1, 0, 0, 0, 0), (0, 0, 0))] (by decide +kernel) rfl ?_
    exact hx_reti (by decide +kernel) (h0 (by unfold aPers; omega))
  · have c1 : 0 ≤ x1 := by have h : ¬ (x1 < 0) := c1; omega
    refine hx_blk (npc := 7) (L' := [(0, .inr (.inl 86)), (1, .inl x1)]) (st' := [.inl 8, .inl x1]) (m' := m) [((4, .iload_n 1, 1, 0, 0, 0, 0), (0, 0, 0)), ((5, .bipush 8, 2, 0, 0, 0, 0), (0, 0, 0))] (by decide +kernel) rfl ?_
    refine hx_cmp .ge 29 (by decide +kernel) (fun c2 => ?_) (fun c2 => ?_)
    · have c2 : 8 ≤ x1 := c2
      refine hx_blk (npc := 30) (L' := [(0, .inr (.inl 86)), (1, .inl x1)]) (st' := [.inl 0]) (m' := m) [((29, .iconst 0, 1, 0, 0, 0, 0), (0, 0, 0))] (by decide +kernel) rfl ?_
      exact hx_reti (by decide +kernel) (h0 (by unfold aPers; omega))
    · have c2 : x1 < 8 := by have h : ¬ (8 ≤ x1) := c2; omega
      refine hx_blk (npc := 19) (L' := [(0, .inr (.inl 86)), (1, .inl x1)]) (st' := [.inl x1, .inl (m 87 1128)]) (m' := m) [((10, .aload_n 0, 1, 0, 0, 0, 0), (0, 0, 0)), ((11, .getfield 7, 3, 10, 0, 5113, 0), (1, 86, 87)), ((14, .sipush 1128, 3, 0, 0, 0, 0), (0, 0, 0)), ((17, .iaload, 1, 0, 0, 0, 0), (0, 87, 0)), ((18, .iload_n 1, 1, 0, 0, 0, 0), (0, 0, 0))] (by decide +kernel) rfl ?_
      refine hx_call (E := (19, .invokestatic 104, 3, 165, 0, 6035, 0)) (M' := yp_m165) [.inl (m 87 1128), .inl x1] [] rfl (by decide +kernel) rfl ⟨rfl, rfl⟩ rfl rfl (hs165 (fun c3 => ?_) (fun c3 => ?_))
      · have c3 : gx_and (gx_shr (m 87 1128) x1) 1 = 1 := c3
        show hxn xs n yp_m164 22 [(0, .inr (.inl 86)), (1, .inl x1)] [.inl 1] m Q
        refine hx_if .eq 29 (by decide +kernel) (fun c4 => ?_) (fun c4 => ?_)
        · have c4 : (1 : Int) = 0 := c4
          exfalso; omega
        · have c4 : (1 : Int) ≠ 0 := c4
          refine hx_blk (npc := 30) (L' := [(0, .inr (.inl 86)), (1, .inl x1)]) (st' := [.inl 1]) (m' := m) [((25, .iconst 1, 1, 0, 0, 0, 0), (0, 0, 0)), ((26, .goto 4, 3, 0, 0, 0, 0), (0, 0, 0))] (by decide +kernel) rfl ?_
          exact hx_reti (by decide +kernel) (h1 (by unfold aPers; omega))
      · have c3 : ¬ (gx_and (gx_shr (m 87 1128) x1) 1 = 1) := c3
        show hxn xs n yp_m164 22 [(0, .inr (.inl 86)), (1, .inl x1)] [.inl 0] m Q
        refine hx_if .eq 29 (by decide +kernel) (fun c4 => ?_) (fun c4 => ?_)
        · have c4 : (0 : Int) = 0 := c4
          refine hx_blk (npc := 30) (L' := [(0, .inr (.inl 86)), (1, .inl x1)]) (st' := [.inl 0]) (m' := m) [((29, .iconst 0, 1, 0, 0, 0, 0), (0, 0, 0))] (by decide +kernel) rfl ?_
          exact hx_reti (by decide +kernel) (h0 (by unfold aPers; omega))
        · have c4 : (0 : Int) ≠ 0 := c4
          exfalso; omega

/-- judged from 0 on -/
theorem hr211_0 {xs : List Int32} {n : Nat} {Q : hQ} {m : gx_M} {x1 : Int}
    (h1 : (1 ≤ x1 ∧ x1 ≤ 160) → (x1 ≤ (m 86 4)) → hxn xs n yp_m191 0 [(0, .inr (.inl 86)), (1, .inl x1)] [] m (fun r m' => hxn xs n yp_m211 26 [(0, .inr (.inl 86))] (hrs r ++ []) m' Q))
    (h2 : (1 ≤ x1 ∧ x1 ≤ 160) → ((m 86 4) < x1) → Q (some (.inl (-1))) m)
    (h3 : (¬ (1 ≤ x1 ∧ x1 ≤ 160)) → Q (some (.inl (-1))) m) : hxn xs (n + 1) yp_m211 0 [(0, .inr (.inl 86)), (1, .inl x1)] [] m Q := by
  refine hx_blks (npc := 5) (L' := [(0, .inr (.inl 86)), (1, .inl x1)]) (st' := [.inl 160, .inl 1, .inl x1]) (m' := m) ((0, .iload_n 1, 1, 0, 0, 0, 0), (0, 0, 0)) [((1, .iconst 1, 1, 0, 0, 0, 0), (0, 0, 0)), ((2, .sipush 160, 3, 0, 0, 0, 0), (0, 0, 0))] (by decide +kernel) rfl ?_
  refine hx_call (E := (5, .invokestatic 108, 3, 162, 0, 6023, 0)) (M' := yp_m162) [.inl x1, .inl 1, .inl 160] [] rfl (by decide +kernel) rfl ⟨rfl, rfl⟩ rfl rfl (hs162 (fun c1 => ?_) (fun c1 => ?_))
  · have c1 : 1 ≤ x1 ∧ x1 ≤ 160 := c1
    show hxn xs n yp_m211 8 [(0, .inr (.inl 86)), (1, .inl x1)] [.inl 1] m Q
    refine hx_if .eq 19 (by decide +kernel) (fun c2 => ?_) (fun c2 => ?_)
    · have c2 : (1 : Int) = 0 := c2
      exfalso; omega
    · have c2 : (1 : Int) ≠ 0 := c2
      refine hx_blk (npc := 16) (L' := [(0, .inr (.inl 86)), (1, .inl x1)]) (st' := [.inl (m 86 4), .inl x1]) (m' := m) [((11, .iload_n 1, 1, 0, 0, 0, 0), (0, 0, 0)), ((12, .aload_n 0, 1, 0, 0, 0, 0), (0, 0, 0)), ((13, .getfield 124, 3, 10, 4, 5117, 0), (0, 86, 0))] (by decide +kernel) rfl ?_
      refine hx_cmp .le 21 (by decide +kernel) (fun c2 => ?_) (fun c2 => ?_)
      · have c2 : x1 ≤ (m 86 4) := c2
        refine hx_blk (npc := 23) (L' := [(0, .inr (.inl 86)), (1, .inl x1)]) (st' := [.inl x1, .inr (.inl 86)]) (m' := m) [((21, .aload_n 0, 1, 0, 0, 0, 0), (0, 0, 0)), ((22, .iload_n 1, 1, 0, 0, 0, 0), (0, 0, 0))] (by decide +kernel) rfl ?_
        exact hx_call (E := (23, .invokevirtual 284, 3, 191, 0, 6136, 0)) (M' := yp_m191) [.inr (.inl 86), .inl x1] [] rfl (by decide +kernel) rfl ⟨rfl, rfl⟩ rfl rfl (hx_mono (h1 c1 c2) (fun r m' h' => hx_pick [0] h'))
      · have c2 : (m 86 4) < x1 := by have h : ¬ (x1 ≤ (m 86 4)) := c2; omega
        refine hx_blk (npc := 20) (L' := [(0, .inr (.inl 86)), (1, .inl x1)]) (st' := [.inl (-1)]) (m' := m) [((19, .iconst (-1), 1, 0, 0, 0, 0), (0, 0, 0))] (by decide +kernel) rfl ?_
        exact hx_reti (by decide +kernel) (h2 c1 c2)
  · have c1 : ¬ (1 ≤ x1 ∧ x1 ≤ 160) := c1
    show hxn xs n yp_m211 8 [(0, .inr (.inl 86)), (1, .inl x1)] [.inl 0] m Q
    refine hx_if .eq 19 (by decide +kernel) (fun c2 => ?_) (fun c2 => ?_)
    · have c2 : (0 : Int) = 0 := c2
      refine hx_blk (npc := 20) (L' := [(0, .inr (.inl 86)), (1, .inl x1)]) (st' := [.inl (-1)]) (m' := m) [((19, .iconst (-1), 1, 0, 0, 0, 0), (0, 0, 0))] (by decide +kernel) rfl ?_
      exact hx_reti (by decide +kernel) (h3 c1)
    · have c2 : (0 : Int) ≠ 0 := c2
      exfalso; omega

/-- judged from 26 on -/
theorem hr211_26 {xs : List Int32} {n : Nat} {Q : hQ} {m : gx_M} {s0 : Int}
    (h1 : (s0 ≠ 0) → hxn xs n yp_m211 47 [(0, .inr (.inl 86)), (2, .inl 0)] [] (hcopy m 87 0 88 0 1131) Q)
    (h2 : (s0 = 0) → Q (some (.inl (m 86 7))) m) : hxn xs (n + 1) yp_m211 26 [(0, .inr (.inl 86))] [.inl s0] m Q := by
  refine hx_ifs .ne 34 (by decide +kernel) (fun c1 => ?_) (fun c1 => ?_)
  · have c1 : s0 ≠ 0 := c1
    refine hx_blk (npc := 42) (L' := [(0, .inr (.inl 86))]) (st' := [.inr (.inl 88), .inr (.inl 87)]) (m' := m) [((34, .aload_n 0, 1, 0, 0, 0, 0), (0, 0, 0)), ((35, .getfield 7, 3, 10, 0, 5113, 0), (1, 86, 87)), ((38, .aload_n 0, 1, 0, 0, 0, 0), (0, 0, 0)), ((39, .getfield 13, 3, 10, 1, 5114, 0), (1, 86, 88))] (by decide +kernel) rfl ?_
    refine hx_call (E := (42, .invokestatic 290, 3, 212, 0, 6217, 0)) (M' := yp_m212) [.inr (.inl 87), .inr (.inl 88)] [] rfl (by decide +kernel) rfl ⟨rfl, rfl⟩ rfl rfl (hs212_87_88 ?_)
    show hxn xs n yp_m211 45 [(0, .inr (.inl 86))] [] (hcopy m 87 0 88 0 1131) Q
    refine hx_blk (npc := 47) (L' := [(0, .inr (.inl 86)), (2, .inl 0)]) (st' := []) (m' := (hcopy m 87 0 88 0 1131)) [((45, .iconst 0, 1, 0, 0, 0, 0), (0, 0, 0)), ((46, .istore_n 2, 1, 0, 0, 0, 0), (0, 0, 0))] (by decide +kernel) rfl ?_
    exact hx_pick [0, 2] (h1 c1)
  · have c1 : s0 = 0 := by have h : ¬ (s0 ≠ 0) := c1; omega
    refine hx_blk (npc := 33) (L' := [(0, .inr (.inl 86))]) (st' := [.inl (m 86 7)]) (m' := m) [((29, .aload_n 0, 1, 0, 0, 0, 0), (0, 0, 0)), ((30, .getfield 142, 3, 10, 7, 5120, 0), (0, 86, 0))] (by decide +kernel) rfl ?_
    exact hx_reti (by decide +kernel) (h2 c1)

/-- judged from 47 on -/
theorem hr211_47 {xs : List Int32} {n : Nat} {Q : hQ} {m : gx_M} {x2 : Int}
    (h1 : ((m 86 32) ≤ x2) → Q (some (.inl x2)) (hcopy m 88 0 87 0 1131))
    (h2 : (x2 < (m 86 32)) → hxn xs n yp_m195 0 [(0, .inr (.inl 86)), (1, .inl x2)] [] m (fun r m' => hxn xs n yp_m211 60 [(0, .inr (.inl 86)), (2, .inl x2)] (hrs r ++ []) m' Q)) : hxn xs (n + 1) yp_m211 47 [(0, .inr (.inl 86)), (2, .inl x2)] [] m Q := by
  refine hx_blks (npc := 52) (L' := [(0, .inr (.inl 86)), (2, .inl x2)]) (st' := [.inl (m 86 32), .inl x2]) (m' := m) ((47, .iload_n 2, 1, 0, 0, 0, 0), (0, 0, 0)) [((48, .aload_n 0, 1, 0, 0, 0, 0), (0, 0, 0)), ((49, .getfield 254, 3, 10, 32, 5145, 0), (0, 86, 0))] (by decide +kernel) rfl ?_
  refine hx_cmp .ge 70 (by decide +kernel) (fun c1 => ?_) (fun c1 => ?_)
  · have c1 : (m 86 32) ≤ x2 := c1
    refine hx_blk (npc := 78) (L' := [(0, .inr (.inl 86)), (2, .inl x2)]) (st' := [.inr (.inl 87), .inr (.inl 88)]) (m' := m) [((70, .aload_n 0, 1, 0, 0, 0, 0), (0, 0, 0)), ((71, .getfield 13, 3, 10, 1, 5114, 0), (1, 86, 88)), ((74, .aload_n 0, 1, 0, 0, 0, 0), (0, 0, 0)), ((75, .getfield 7, 3, 10, 0, 5113, 0), (1, 86, 87))] (by decide +kernel) rfl ?_
    refine hx_call (E := (78, .invokestatic 290, 3, 212, 0, 6217, 0)) (M' := yp_m212) [.inr (.inl 88), .inr (.inl 87)] [] rfl (by decide +kernel) rfl ⟨rfl, rfl⟩ rfl rfl (hs212_88_87 ?_)
    show hxn xs n yp_m211 81 [(0, .inr (.inl 86)), (2, .inl x2)] [] (hcopy m 88 0 87 0 1131) Q
    refine hx_blk (npc := 82) (L' := [(0, .inr (.inl 86)), (2, .inl x2)]) (st' := [.inl x2]) (m' := (hcopy m 88 0 87 0 1131)) [((81, .iload_n 2, 1, 0, 0, 0, 0), (0, 0, 0))] (by decide +kernel) rfl ?_
    exact hx_reti (by decide +kernel) (h1 c1)
  · have c1 : x2 < (m 86 32) := by have h : ¬ ((m 86 32) ≤ x2) := c1; omega
    refine hx_blk (npc := 57) (L' := [(0, .inr (.inl 86)), (2, .inl x2)]) (st' := [.inl x2, .inr (.inl 86)]) (m' := m) [((55, .aload_n 0, 1, 0, 0, 0, 0), (0, 0, 0)), ((56, .iload_n 2, 1, 0, 0, 0, 0), (0, 0, 0))] (by decide +kernel) rfl ?_
    exact hx_call (E := (57, .invokevirtual 287, 3, 195, 0, 6152, 0)) (M' := yp_m195) [.inr (.inl 86), .inl x2] [] rfl (by decide +kernel) rfl ⟨rfl, rfl⟩ rfl rfl (hx_mono (h2 c1) (fun r m' h' => hx_pick [0, 2] h'))

/-- judged from 60 on -/
theorem hr211_60 {xs : List Int32} {n : Nat} {Q : hQ} {m : gx_M} {x2 s0 : Int}
    (h1 : (s0 = 0) → Q (some (.inl x2)) (hcopy m 88 0 87 0 1131))
    (h2 : (s0 ≠ 0) → hxn xs n yp_m211 47 [(0, .inr (.inl 86)), (2, .inl (gx_w (x2 + 1)))] [] m Q) : hxn xs (n + 1) yp_m211 60 [(0, .inr (.inl 86)), (2, .inl x2)] [.inl s0] m Q := by
  refine hx_ifs .eq 70 (by decide +kernel) (fun c1 => ?_) (fun c1 => ?_)
  · have c1 : s0 = 0 := c1
    refine hx_blk (npc := 78) (L' := [(0, .inr (.inl 86)), (2, .inl x2)]) (st' := [.inr (.inl 87), .inr (.inl 88)]) (m' := m) [((70, .aload_n 0, 1, 0, 0, 0, 0), (0, 0, 0)), ((71, .getfield 13, 3, 10, 1, 5114, 0), (1, 86, 88)), ((74, .aload_n 0, 1, 0, 0, 0, 0), (0, 0, 0)), ((75, .getfield 7, 3, 10, 0, 5113, 0), (1, 86, 87))] (by decide +kernel) rfl ?_
    refine hx_call (E := (78, .invokestatic 290, 3, 212, 0, 6217, 0)) (M' := yp_m212) [.inr (.inl 88), .inr (.inl 87)] [] rfl (by decide +kernel) rfl ⟨rfl, rfl⟩ rfl rfl (hs212_88_87 ?_)
    show hxn xs n yp_m211 81 [(0, .inr (.inl 86)), (2, .inl x2)] [] (hcopy m 88 0 87 0 1131) Q
    refine hx_blk (npc := 82) (L' := [(0, .inr (.inl 86)), (2, .inl x2)]) (st' := [.inl x2]) (m' := (hcopy m 88 0 87 0 1131)) [((81, .iload_n 2, 1, 0, 0, 0, 0), (0, 0, 0))] (by decide +kernel) rfl ?_
    exact hx_reti (by decide +kernel) (h1 c1)
  · have c1 : s0 ≠ 0 := c1
    refine hx_blk (npc := 47) (L' := [(0, .inr (.inl 86)), (2, .inl (gx_w (x2 + 1)))]) (st' := []) (m' := m) [((63, .iload_n 2, 1, 0, 0, 0, 0), (0, 0, 0)), ((64, .iconst 1, 1, 0, 0, 0, 0), (0, 0, 0)), ((65, .iadd, 1, 0, 0, 0, 0), (0, 0, 0)), ((66, .istore_n 2, 1, 0, 0, 0, 0), (0, 0, 0)), ((67, .goto (-20), 3, 0, 0, 0, 0), (0, 0, 0))] (by decide +kernel) rfl ?_
    exact hx_pick [0, 2] (h2 c1)

/-- inOrder from 0 on -/
theorem hr213_0 {xs : List Int32} {n : Nat} {Q : hQ} {m : gx_M} {x1 x2 : Int}
    (h1 : (1 ≤ x1 ∧ x1 ≤ 160) → (x1 ≤ (m 86 4)) → hxn xs n yp_m191 0 [(0, .inr (.inl 86)), (1, .inl x1)] [] m (fun r m' => hxn xs n yp_m213 26 [(0, .inr (.inl 86)), (2, .inl x2)] (hrs r ++ []) m' Q))
    (h2 : (1 ≤ x1 ∧ x1 ≤ 160) → ((m 86 4) < x1) → Q (some (.inl (-1))) m)
    (h3 : (¬ (1 ≤ x1 ∧ x1 ≤ 160)) → Q (some (.inl (-1))) m) : hxn xs (n + 1) yp_m213 0 [(0, .inr (.inl 86)), (1, .inl x1), (2, .inl x2)] [] m Q := by
  refine hx_blks (npc := 5) (L' := [(0, .inr (.inl 86)), (1, .inl x1), (2, .inl x2)]) (st' := [.inl 160, .inl 1, .inl x1]) (m' := m) ((0, .iload_n 1, 1, 0, 0, 0, 0), (0, 0, 0)) [((1, .iconst 1, 1, 0, 0, 0, 0), (0, 0, 0)), ((2, .sipush 160, 3, 0, 0, 0, 0), (0, 0, 0))] (by decide +kernel) rfl ?_
  refine hx_call (E := (5, .invokestatic 108, 3, 162, 0, 6023, 0)) (M' := yp_m162) [.inl x1, .inl 1, .inl 160] [] rfl (by decide +kernel) rfl ⟨rfl, rfl⟩ rfl rfl (hs162 (fun c1 => ?_) (fun c1 => ?_))
  · have c1 : 1 ≤ x1 ∧ x1 ≤ 160 := c1
    show hxn xs n yp_m213 8 [(0, .inr (.inl 86)), (1, .inl x1), (2, .inl x2)] [.inl 1] m Q
    refine hx_if .eq 19 (by decide +kernel) (fun c2 => ?_) (fun c2 => ?_)
    · have c2 : (1 : Int) = 0 := c2
      exfalso; omega
    · have c2 : (1 : Int) ≠ 0 := c2
      refine hx_blk (npc := 16) (L' := [(0, .inr (.inl 86)), (1, .inl x1), (2, .inl x2)]) (st' := [.inl (m 86 4), .inl x1]) (m' := m) [((11, .iload_n 1, 1, 0, 0, 0, 0), (0, 0, 0)), ((12, .aload_n 0, 1, 0, 0, 0, 0), (0, 0, 0)), ((13, .getfield 124, 3, 10, 4, 5117, 0), (0, 86, 0))] (by decide +kernel) rfl ?_
      refine hx_cmp .le 21 (by decide +kernel) (fun c2 => ?_) (fun c2 => ?_)
      · have c2 : x1 ≤ (m 86 4) := c2
        refine hx_blk (npc := 23) (L' := [(0, .inr (.inl 86)), (1, .inl x1), (2, .inl x2)]) (st' := [.inl x1, .inr (.inl 86)]) (m' := m) [((21, .aload_n 0, 1, 0, 0, 0, 0), (0, 0, 0)), ((22, .iload_n 1, 1, 0, 0, 0, 0), (0, 0, 0))] (by decide +kernel) rfl ?_
        exact hx_call (E := (23, .invokevirtual 284, 3, 191, 0, 6136, 0)) (M' := yp_m191) [.inr (.inl 86), .inl x1] [] rfl (by decide +kernel) rfl ⟨rfl, rfl⟩ rfl rfl (hx_mono (h1 c1 c2) (fun r m' h' => hx_pick [0, 2] h'))
      · have c2 : (m 86 4) < x1 := by have h : ¬ (x1 ≤ (m 86 4)) := c2; omega
        refine hx_blk (npc := 20) (L' := [(0, .inr (.inl 86)), (1, .inl x1), (2, .inl x2)]) (st' := [.inl (-1)]) (m' := m) [((19, .iconst (-1), 1, 0, 0, 0, 0), (0, 0, 0))] (by decide +kernel) rfl ?_
        exact hx_reti (by decide +kernel) (h2 c1 c2)
  · have c1 : ¬ (1 ≤ x1 ∧ x1 ≤ 160) := c1
    show hxn xs n yp_m213 8 [(0, .inr (.inl 86)), (1, .inl x1), (2, .inl x2)] [.inl 0] m Q
    refine hx_if .eq 19 (by decide +kernel) (fun c2 => ?_) (fun c2 => ?_)
    · have c2 : (0 : Int) = 0 := c2
      refine hx_blk (npc := 20) (L' := [(0, .inr (.inl 86)), (1, .inl x1), (2, .inl x2)]) (st' := [.inl (-1)]) (m' := m) [((19, .iconst (-1), 1, 0, 0, 0, 0), (0, 0, 0))] (by decide +kernel) rfl ?_
      exact hx_reti (by decide +kernel) (h3 c1)
    · have c2 : (0 : Int) ≠ 0 := c2
      exfalso; omega

/-- inOrder from 26 on -/
theorem hr213_26 {xs : List Int32} {n : Nat} {Q : hQ} {m : gx_M} {x2 s0 : Int}
    (h1 : (s0 ≠ 0) → (6 < (m 86 32)) → Q (some (.inl (-3))) m)
    (h2 : (s0 ≠ 0) → ((m 86 32) ≤ 6) → ((-1) ≤ x2 ∧ x2 ≤ (gx_w ((m 86 32) - 1))) → hxn xs n yp_m213 73 [(0, .inr (.inl 86)), (2, .inl x2), (3, .inl 0)] [] (hcopy m 87 0 88 0 1131) Q)
    (h3 : (s0 ≠ 0) → ((m 86 32) ≤ 6) → (¬ ((-1) ≤ x2 ∧ x2 ≤ (gx_w ((m 86 32) - 1)))) → Q (some (.inl (-3))) m)
    (h4 : (s0 = 0) → Q (some (.inl (m 86 7))) m) : hxn xs (n + 1) yp_m213 26 [(0, .inr (.inl 86)), (2, .inl x2)] [.inl s0] m Q := by
  refine hx_ifs .ne 34 (by decide +kernel) (fun c1 => ?_) (fun c1 => ?_)
  · have c1 : s0 ≠ 0 := c1
    refine hx_blk (npc := 40) (L' := [(0, .inr (.inl 86)), (2, .inl x2)]) (st' := [.inl 6, .inl (m 86 32)]) (m' := m) [((34, .aload_n 0, 1, 0, 0, 0, 0), (0, 0, 0)), ((35, .getfield 254, 3, 10, 32, 5145, 0), (0, 86, 0)), ((38, .bipush 6, 2, 0, 0, 0, 0), (0, 0, 0))] (by decide +kernel) rfl ?_
    refine hx_cmp .gt 57 (by decide +kernel) (fun c2 => ?_) (fun c2 => ?_)
    · have c2 : 6 < (m 86 32) := c2
      refine hx_blk (npc := 59) (L' := [(0, .inr (.inl 86)), (2, .inl x2)]) (st' := [.inl (-3)]) (m' := m) [((57, .bipush (-3), 2, 0, 0, 0, 0), (0, 0, 0))] (by decide +kernel) rfl ?_
      exact hx_reti (by decide +kernel) (h1 c1 c2)
    · have c2 : (m 86 32) ≤ 6 := by have h : ¬ (6 < (m 86 32)) := c2; omega
      refine hx_blk (npc := 51) (L' := [(0, .inr (.inl 86)), (2, .inl x2)]) (st' := [.inl (gx_w ((m 86 32) - 1)), .inl (-1), .inl x2]) (m' := m) [((43, .iload_n 2, 1, 0, 0, 0, 0), (0, 0, 0)), ((44, .iconst (-1), 1, 0, 0, 0, 0), (0, 0, 0)), ((45, .aload_n 0, 1, 0, 0, 0, 0), (0, 0, 0)), ((46, .getfield 254, 3, 10, 32, 5145, 0), (0, 86, 0)), ((49, .iconst 1, 1, 0, 0, 0, 0), (0, 0, 0)), ((50, .isub, 1, 0, 0, 0, 0), (0, 0, 0))] (by decide +kernel) rfl ?_
      refine hx_call (E := (51, .invokestatic 108, 3, 162, 0, 6023, 0)) (M' := yp_m162) [.inl x2, .inl (-1), .inl (gx_w ((m 86 32) - 1))] [] rfl (by decide +kernel) rfl ⟨rfl, rfl⟩ rfl rfl (hs162 (fun c3 => ?_) (fun c3 => ?_))
      · have c3 : (-1) ≤ x2 ∧ x2 ≤ (gx_w ((m 86 32) - 1)) := c3
        show hxn xs n yp_m213 54 [(0, .inr (.inl 86)), (2, .inl x2)] [.inl 1] m Q
        refine hx_if .ne 60 (by decide +kernel) (fun c4 => ?_) (fun c4 => ?_)
        · have c4 : (1 : Int) ≠ 0 := c4
          refine hx_blk (npc := 68) (L' := [(0, .inr (.inl 86)), (2, .inl x2)]) (st' := [.inr (.inl 88), .inr (.inl 87)]) (m' := m) [((60, .aload_n 0, 1, 0, 0, 0, 0), (0, 0, 0)), ((61, .getfield 7, 3, 10, 0, 5113, 0), (1, 86, 87)), ((64, .aload_n 0, 1, 0, 0, 0, 0), (0, 0, 0)), ((65, .getfield 13, 3, 10, 1, 5114, 0), (1, 86, 88))] (by decide +kernel) rfl ?_
          refine hx_call (E := (68, .invokestatic 290, 3, 212, 0, 6217, 0)) (M' := yp_m212) [.inr (.inl 87), .inr (.inl 88)] [] rfl (by decide +kernel) rfl ⟨rfl, rfl⟩ rfl rfl (hs212_87_88 ?_)
          show hxn xs n yp_m213 71 [(0, .inr (.inl 86)), (2, .inl x2)] [] (hcopy m 87 0 88 0 1131) Q
          refine hx_blk (npc := 73) (L' := [(0, .inr (.inl 86)), (2, .inl x2), (3, .inl 0)]) (st' := []) (m' := (hcopy m 87 0 88 0 1131)) [((71, .iconst 0, 1, 0, 0, 0, 0), (0, 0, 0)), ((72, .istore_n 3, 1, 0, 0, 0, 0), (0, 0, 0))] (by decide +kernel) rfl ?_
          exact hx_pick [0, 2, 3] (h2 c1 c2 c3)
        · have c4 : (1 : Int) = 0 := by have h : ¬ ((1 : Int) ≠ 0) := c4; omega
          exfalso; omega
      · have c3 : ¬ ((-1) ≤ x2 ∧ x2 ≤ (gx_w ((m 86 32) - 1))) := c3
        show hxn xs n yp_m213 54 [(0, .inr (.inl 86)), (2, .inl x2)] [.inl 0] m Q
        refine hx_if .ne 60 (by decide +kernel) (fun c4 => ?_) (fun c4 => ?_)
        · have c4 : (0 : Int) ≠ 0 := c4
          exfalso; omega
        · have c4 : (0 : Int) = 0 := by have h : ¬ ((0 : Int) ≠ 0) := c4; omega
          refine hx_blk (npc := 59) (L' := [(0, .inr (.inl 86)), (2, .inl x2)]) (st' := [.inl (-3)]) (m' := m) [((57, .bipush (-3), 2, 0, 0, 0, 0), (0, 0, 0))] (by decide +kernel) rfl ?_
          exact hx_reti (by decide +kernel) (h3 c1 c2 c3)
  · have c1 : s0 = 0 := by have h : ¬ (s0 ≠ 0) := c1; omega
    refine hx_blk (npc := 33) (L' := [(0, .inr (.inl 86)), (2, .inl x2)]) (st' := [.inl (m 86 7)]) (m' := m) [((29, .aload_n 0, 1, 0, 0, 0, 0), (0, 0, 0)), ((30, .getfield 142, 3, 10, 7, 5120, 0), (0, 86, 0))] (by decide +kernel) rfl ?_
    exact hx_reti (by decide +kernel) (h4 c1)

/-- inOrder from 73 on -/
theorem hr213_73 {xs : List Int32} {n : Nat} {Q : hQ} {m : gx_M} {x2 x3 : Int}
    (h1 : ((m 86 32) ≤ x3) → hxn xs n yp_m214 0 [(0, .inr (.inl 86))] [] m (fun r m' => hxn xs n yp_m213 98 [(0, .inr (.inl 86)), (2, .inl x2)] (hrs r ++ []) m' Q))
    (h2 : (x3 < (m 86 32)) → hxn xs n yp_m213 73 [(0, .inr (.inl 86)), (2, .inl x2), (3, .inl (gx_w (x3 + 1)))] [] (gx_u m 109 (x3).toNat x3) Q) : hxn xs (n + 1) yp_m213 73 [(0, .inr (.inl 86)), (2, .inl x2), (3, .inl x3)] [] m Q := by
  refine hx_blks (npc := 78) (L' := [(0, .inr (.inl 86)), (2, .inl x2), (3, .inl x3)]) (st' := [.inl (m 86 32), .inl x3]) (m' := m) ((73, .iload_n 3, 1, 0, 0, 0, 0), (0, 0, 0)) [((74, .aload_n 0, 1, 0, 0, 0, 0), (0, 0, 0)), ((75, .getfield 254, 3, 10, 32, 5145, 0), (0, 86, 0))] (by decide +kernel) rfl ?_
  refine hx_cmp .ge 94 (by decide +kernel) (fun c1 => ?_) (fun c1 => ?_)
  · have c1 : (m 86 32) ≤ x3 := c1
    refine hx_blk (npc := 95) (L' := [(0, .inr (.inl 86)), (2, .inl x2), (3, .inl x3)]) (st' := [.inr (.inl 86)]) (m' := m) [((94, .aload_n 0, 1, 0, 0, 0, 0), (0, 0, 0))] (by decide +kernel) rfl ?_
    exact hx_call (E := (95, .invokevirtual 297, 3, 214, 0, 6224, 0)) (M' := yp_m214) [.inr (.inl 86)] [] rfl (by decide +kernel) rfl ⟨rfl, rfl⟩ rfl rfl (hx_mono (h1 c1) (fun r m' h' => hx_pick [0, 2] h'))
  · have c1 : x3 < (m 86 32) := by have h : ¬ ((m 86 32) ≤ x3) := c1; omega
    refine hx_blk (npc := 73) (L' := [(0, .inr (.inl 86)), (2, .inl x2), (3, .inl (gx_w (x3 + 1)))]) (st' := []) (m' := (gx_u m 109 (x3).toNat x3)) [((81, .aload_n 0, 1, 0, 0, 0, 0), (0, 0, 0)), ((82, .getfield 77, 3, 10, 33, 5146, 0), (1, 86, 109)), ((85, .iload_n 3, 1, 0, 0, 0, 0), (0, 0, 0)), ((86, .iload_n 3, 1, 0, 0, 0, 0), (0, 0, 0)), ((87, .iastore, 1, 0, 0, 0, 0), (0, 109, 0)), ((88, .iinc 3 1, 3, 0, 0, 0, 0), (0, 0, 0)), ((91, .goto (-18), 3, 0, 0, 0, 0), (0, 0, 0))] (by decide +kernel) rfl ?_
    exact hx_pick [0, 2, 3] (h2 c1)

/-- inOrder from 98 on -/
theorem hr213_98 {xs : List Int32} {n : Nat} {Q : hQ} {m : gx_M} {x2 s0 : Int}
    (h1 : hxn xs n yp_m213 99 [(0, .inr (.inl 86)), (2, .inl x2), (3, .inl s0)] [] m Q) : hxn xs (n + 1) yp_m213 98 [(0, .inr (.inl 86)), (2, .inl x2)] [.inl s0] m Q := by
  refine hx_blks (npc := 99) (L' := [(0, .inr (.inl 86)), (2, .inl x2), (3, .inl s0)]) (st' := []) (m' := m) ((98, .istore_n 3, 1, 0, 0, 0, 0), (0, 0, 0)) [] (by decide +kernel) rfl ?_
  exact hx_pick [0, 2, 3] h1

/-- inOrder from 99 on -/
theorem hr213_99 {xs : List Int32} {n : Nat} {Q : hQ} {m : gx_M} {x2 x3 : Int}
    (h1 : (x3 ≠ 0) → (x2 ≠ (-1)) → (x3 = 0) → Q (some (.inl (-2))) m)
    (h2 : (x3 ≠ 0) → (x2 ≠ (-1)) → (x3 ≠ 0) → Q (some (.inl (m 109 (x2).toNat))) m)
    (h3 : (x3 ≠ 0) → (x2 = (-1)) → (x3 = 0) → Q (some (.inl 0)) m)
    (h4 : (x3 ≠ 0) → (x2 = (-1)) → (x3 ≠ 0) → Q (some (.inl 1)) m)
    (h5 : (x3 = 0) → hxn xs n yp_m215 0 [(0, .inr (.inl 86))] [] m (fun r m' => hxn xs n yp_m213 107 [(0, .inr (.inl 86)), (2, .inl x2), (3, .inl x3)] (hrs r ++ []) m' Q)) : hxn xs (n + 1) yp_m213 99 [(0, .inr (.inl 86)), (2, .inl x2), (3, .inl x3)] [] m Q := by
  refine hx_blks (npc := 100) (L' := [(0, .inr (.inl 86)), (2, .inl x2), (3, .inl x3)]) (st' := [.inl x3]) (m' := m) ((99, .iload_n 3, 1, 0, 0, 0, 0), (0, 0, 0)) [] (by decide +kernel) rfl ?_
  refine hx_if .ne 118 (by decide +kernel) (fun c1 => ?_) (fun c1 => ?_)
  · have c1 : x3 ≠ 0 := c1
    refine hx_blk (npc := 120) (L' := [(0, .inr (.inl 86)), (2, .inl x2), (3, .inl x3)]) (st' := [.inl (-1), .inl x2]) (m' := m) [((118, .iload_n 2, 1, 0, 0, 0, 0), (0, 0, 0)), ((119, .iconst (-1), 1, 0, 0, 0, 0), (0, 0, 0))] (by decide +kernel) rfl ?_
    refine hx_cmp .ne 133 (by decide +kernel) (fun c2 => ?_) (fun c2 => ?_)
    · have c2 : x2 ≠ (-1) := c2
      refine hx_blk (npc := 134) (L' := [(0, .inr (.inl 86)), (2, .inl x2), (3, .inl x3)]) (st' := [.inl x3]) (m' := m) [((133, .iload_n 3, 1, 0, 0, 0, 0), (0, 0, 0))] (by decide +kernel) rfl ?_
      refine hx_if .eq 146 (by decide +kernel) (fun c3 => ?_) (fun c3 => ?_)
      · have c3 : x3 = 0 := c3
        refine hx_blk (npc := 148) (L' := [(0, .inr (.inl 86)), (2, .inl x2), (3, .inl x3)]) (st' := [.inl (-2)]) (m' := m) [((146, .bipush (-2), 2, 0, 0, 0, 0), (0, 0, 0))] (by decide +kernel) rfl ?_
        exact hx_reti (by decide +kernel) (h1 c1 c2 c3)
      · have c3 : x3 ≠ 0 := c3
        refine hx_blk (npc := 148) (L' := [(0, .inr (.inl 86)), (2, .inl x2), (3, .inl x3)]) (st' := [.inl (m 109 (x2).toNat)]) (m' := m) [((137, .aload_n 0, 1, 0, 0, 0, 0), (0, 0, 0)), ((138, .getfield 77, 3, 10, 33, 5146, 0), (1, 86, 109)), ((141, .iload_n 2, 1, 0, 0, 0, 0), (0, 0, 0)), ((142, .iaload, 1, 0, 0, 0, 0), (0, 109, 0)), ((143, .goto 5, 3, 0, 0, 0, 0), (0, 0, 0))] (by decide +kernel) rfl ?_
        exact hx_reti (by decide +kernel) (h2 c1 c2 c3)
    · have c2 : x2 = (-1) := by have h : ¬ (x2 ≠ (-1)) := c2; omega
      refine hx_blk (npc := 124) (L' := [(0, .inr (.inl 86)), (2, .inl x2), (3, .inl x3)]) (st' := [.inl x3]) (m' := m) [((123, .iload_n 3, 1, 0, 0, 0, 0), (0, 0, 0))] (by decide +kernel) rfl ?_
      refine hx_if .eq 131 (by decide +kernel) (fun c3 => ?_) (fun c3 => ?_)
      · have c3 : x3 = 0 := c3
        refine hx_blk (npc := 132) (L' := [(0, .inr (.inl 86)), (2, .inl x2), (3, .inl x3)]) (st' := [.inl 0]) (m' := m) [((131, .iconst 0, 1, 0, 0, 0, 0), (0, 0, 0))] (by decide +kernel) rfl ?_
        exact hx_reti (by decide +kernel) (h3 c1 c2 c3)
      · have c3 : x3 ≠ 0 := c3
        refine hx_blk (npc := 132) (L' := [(0, .inr (.inl 86)), (2, .inl x2), (3, .inl x3)]) (st' := [.inl 1]) (m' := m) [((127, .iconst 1, 1, 0, 0, 0, 0), (0, 0, 0)), ((128, .goto 4, 3, 0, 0, 0, 0), (0, 0, 0))] (by decide +kernel) rfl ?_
        exact hx_reti (by decide +kernel) (h4 c1 c2 c3)
  · have c1 : x3 = 0 := by have h : ¬ (x3 ≠ 0) := c1; omega
    refine hx_blk (npc := 104) (L' := [(0, .inr (.inl 86)), (2, .inl x2), (3, .inl x3)]) (st' := [.inr (.inl 86)]) (m' := m) [((103, .aload_n 0, 1, 0, 0, 0, 0), (0, 0, 0))] (by decide +kernel) rfl ?_
    exact hx_call (E := (104, .invokevirtual 300, 3, 215, 0, 6228, 0)) (M' := yp_m215) [.inr (.inl 86)] [] rfl (by decide +kernel) rfl ⟨rfl, rfl⟩ rfl rfl (hx_mono (h5 c1) (fun r m' h' => hx_pick [0, 2, 3] h'))

/-- inOrder from 107 on -/
theorem hr213_107 {xs : List Int32} {n : Nat} {Q : hQ} {m : gx_M} {x2 x3 s0 : Int}
    (h1 : (s0 = 0) → (x2 ≠ (-1)) → (x3 = 0) → Q (some (.inl (-2))) m)
    (h2 : (s0 = 0) → (x2 ≠ (-1)) → (x3 ≠ 0) → Q (some (.inl (m 109 (x2).toNat))) m)
    (h3 : (s0 = 0) → (x2 = (-1)) → (x3 = 0) → Q (some (.inl 0)) m)
    (h4 : (s0 = 0) → (x2 = (-1)) → (x3 ≠ 0) → Q (some (.inl 1)) m)
    (h5 : (s0 ≠ 0) → hxn xs n yp_m214 0 [(0, .inr (.inl 86))] [] m (fun r m' => hxn xs n yp_m213 114 [(0, .inr (.inl 86)), (2, .inl x2)] (hrs r ++ []) m' Q)) : hxn xs (n + 1) yp_m213 107 [(0, .inr (.inl 86)), (2, .inl x2), (3, .inl x3)] [.inl s0] m Q := by
  refine hx_ifs .eq 118 (by decide +kernel) (fun c1 => ?_) (fun c1 => ?_)
  · have c1 : s0 = 0 := c1
    refine hx_blk (npc := 120) (L' := [(0, .inr (.inl 86)), (2, .inl x2), (3, .inl x3)]) (st' := [.inl (-1), .inl x2]) (m' := m) [((118, .iload_n 2, 1, 0, 0, 0, 0), (0, 0, 0)), ((119, .iconst (-1), 1, 0, 0, 0, 0), (0, 0, 0))] (by decide +kernel) rfl ?_
    refine hx_cmp .ne 133 (by decide +kernel) (fun c2 => ?_) (fun c2 => ?_)
    · have c2 : x2 ≠ (-1) := c2
      refine hx_blk (npc := 134) (L' := [(0, .inr (.inl 86)), (2, .inl x2), (3, .inl x3)]) (st' := [.inl x3]) (m' := m) [((133, .iload_n 3, 1, 0, 0, 0, 0), (0, 0, 0))] (by decide +kernel) rfl ?_
      refine hx_if .eq 146 (by decide +kernel) (fun c3 => ?_) (fun c3 => ?_)
      · have c3 : x3 = 0 := c3
        refine hx_blk (npc := 148) (L' := [(0, .inr (.inl 86)), (2, .inl x2), (3, .inl x3)]) (st' := [.inl (-2)]) (m' := m) [((146, .bipush (-2), 2, 0, 0, 0, 0), (0, 0, 0))] (by decide +kernel) rfl ?_
        exact hx_reti (by decide +kernel) (h1 c1 c2 c3)
      · have c3 : x3 ≠ 0 := c3
        refine hx_blk (npc := 148) (L' := [(0, .inr (.inl 86)), (2, .inl x2), (3, .inl x3)]) (st' := [.inl (m 109 (x2).toNat)]) (m' := m) [((137, .aload_n 0, 1, 0, 0, 0, 0), (0, 0, 0)), ((138, .getfield 77, 3, 10, 33, 5146, 0), (1, 86, 109)), ((141, .iload_n 2, 1, 0, 0, 0, 0), (0, 0, 0)), ((142, .iaload, 1, 0, 0, 0, 0), (0, 109, 0)), ((143, .goto 5, 3, 0, 0, 0, 0), (0, 0, 0))] (by decide +kernel) rfl ?_
        exact hx_reti (by decide +kernel) (h2 c1 c2 c3)
    · have c2 : x2 = (-1) := by have h : ¬ (x2 ≠ (-1)) := c2; omega
      refine hx_blk (npc := 124) (L' := [(0, .inr (.inl 86)), (2, .inl x2), (3, .inl x3)]) (st' := [.inl x3]) (m' := m) [((123, .iload_n 3, 1, 0, 0, 0, 0), (0, 0, 0))] (by decide +kernel) rfl ?_
      refine hx_if .eq 131 (by decide +kernel) (fun c3 => ?_) (fun c3 => ?_)
      · have c3 : x3 = 0 := c3
        refine hx_blk (npc := 132) (L' := [(0, .inr (.inl 86)), (2, .inl x2), (3, .inl x3)]) (st' := [.inl 0]) (m' := m) [((131, .iconst 0, 1, 0, 0, 0, 0), (0, 0, 0))] (by decide +kernel) rfl ?_
        exact hx_reti (by decide +kernel) (h3 c1 c2 c3)
      · have c3 : x3 ≠ 0 := c3
        refine hx_blk (npc := 132) (L' := [(0, .inr (.inl 86)), (2, .inl x2), (3, .inl x3)]) (st' := [.inl 1]) (m' := m) [((127, .iconst 1, 1, 0, 0, 0, 0), (0, 0, 0)), ((128, .goto 4, 3, 0, 0, 0, 0), (0, 0, 0))] (by decide +kernel) rfl ?_
        exact hx_reti (by decide +kernel) (h4 c1 c2 c3)
  · have c1 : s0 ≠ 0 := c1
    refine hx_blk (npc := 111) (L' := [(0, .inr (.inl 86)), (2, .inl x2), (3, .inl x3)]) (st' := [.inr (.inl 86)]) (m' := m) [((110, .aload_n 0, 1, 0, 0, 0, 0), (0, 0, 0))] (by decide +kernel) rfl ?_
    exact hx_call (E := (111, .invokevirtual 297, 3, 214, 0, 6224, 0)) (M' := yp_m214) [.inr (.inl 86)] [] rfl (by decide +kernel) rfl ⟨rfl, rfl⟩ rfl rfl (hx_mono (h5 c1) (fun r m' h' => hx_pick [0, 2] h'))

/-- inOrder from 114 on -/
theorem hr213_114 {xs : List Int32} {n : Nat} {Q : hQ} {m : gx_M} {x2 s0 : Int}
    (h1 : hxn xs n yp_m213 99 [(0, .inr (.inl 86)), (2, .inl x2), (3, .inl s0)] [] m Q) : hxn xs (n + 1) yp_m213 114 [(0, .inr (.inl 86)), (2, .inl x2)] [.inl s0] m Q := by
  refine hx_blks (npc := 99) (L' := [(0, .inr (.inl 86)), (2, .inl x2), (3, .inl s0)]) (st' := []) (m' := m) ((114, .istore_n 3, 1, 0, 0, 0, 0), (0, 0, 0)) [((115, .goto (-16), 3, 0, 0, 0, 0), (0, 0, 0))] (by decide +kernel) rfl ?_
  exact hx_pick [0, 2, 3] h1

/-- areDone from 0 on -/
theorem hr214_0 {xs : List Int32} {n : Nat} {Q : hQ} {m : gx_M}
    (h1 : hxn xs n yp_m214 4 [(0, .inr (.inl 86)), (1, .inl 1), (2, .inl 0)] [] m Q) : hxn xs (n + 1) yp_m214 0 [(0, .inr (.inl 86))] [] m Q := by
  refine hx_blks (npc := 4) (L' := [(0, .inr (.inl 86)), (1, .inl 1), (2, .inl 0)]) (st' := []) (m' := m) ((0, .iconst 1, 1, 0, 0, 0, 0), (0, 0, 0)) [((1, .istore_n 1, 1, 0, 0, 0, 0), (0, 0, 0)), ((2, .iconst 0, 1, 0, 0, 0, 0), (0, 0, 0)), ((3, .istore_n 2, 1, 0, 0, 0, 0), (0, 0, 0))] (by decide +kernel) rfl ?_
  exact hx_pick [0, 1, 2] h1

/-- areDone from 4 on -/
theorem hr214_4 {xs : List Int32} {n : Nat} {Q : hQ} {m : gx_M} {x1 x2 : Int}
    (h1 : ((m 86 32) ≤ x2) → Q (some (.inl x1)) (hcopy m 88 0 87 0 1131))
    (h2 : (x2 < (m 86 32)) → (x1 = 0) → Q (some (.inl x1)) (hcopy m 88 0 87 0 1131))
    (h3 : (x2 < (m 86 32)) → (x1 ≠ 0) → hxn xs n yp_m195 0 [(0, .inr (.inl 86)), (1, .inl (m 109 (x2).toNat))] [] m (fun r m' => hxn xs n yp_m214 26 [(0, .inr (.inl 86)), (2, .inl x2)] (hrs r ++ []) m' Q)) : hxn xs (n + 1) yp_m214 4 [(0, .inr (.inl 86)), (1, .inl x1), (2, .inl x2)] [] m Q := by
  refine hx_blks (npc := 9) (L' := [(0, .inr (.inl 86)), (1, .inl x1), (2, .inl x2)]) (st' := [.inl (m 86 32), .inl x2]) (m' := m) ((4, .iload_n 2, 1, 0, 0, 0, 0), (0, 0, 0)) [((5, .aload_n 0, 1, 0, 0, 0, 0), (0, 0, 0)), ((6, .getfield 254, 3, 10, 32, 5145, 0), (0, 86, 0))] (by decide +kernel) rfl ?_
  refine hx_cmp .ge 33 (by decide +kernel) (fun c1 => ?_) (fun c1 => ?_)
  · have c1 : (m 86 32) ≤ x2 := c1
    refine hx_blk (npc := 41) (L' := [(0, .inr (.inl 86)), (1, .inl x1), (2, .inl x2)]) (st' := [.inr (.inl 87), .inr (.inl 88)]) (m' := m) [((33, .aload_n 0, 1, 0, 0, 0, 0), (0, 0, 0)), ((34, .getfield 13, 3, 10, 1, 5114, 0), (1, 86, 88)), ((37, .aload_n 0, 1, 0, 0, 0, 0), (0, 0, 0)), ((38, .getfield 7, 3, 10, 0, 5113, 0), (1, 86, 87))] (by decide +kernel) rfl ?_
    refine hx_call (E := (41, .invokestatic 290, 3, 212, 0, 6217, 0)) (M' := yp_m212) [.inr (.inl 88), .inr (.inl 87)] [] rfl (by decide +kernel) rfl ⟨rfl, rfl⟩ rfl rfl (hs212_88_87 ?_)
    show hxn xs n yp_m214 44 [(0, .inr (.inl 86)), (1, .inl x1), (2, .inl x2)] [] (hcopy m 88 0 87 0 1131) Q
    refine hx_blk (npc := 45) (L' := [(0, .inr (.inl 86)), (1, .inl x1), (2, .inl x2)]) (st' := [.inl x1]) (m' := (hcopy m 88 0 87 0 1131)) [((44, .iload_n 1, 1, 0, 0, 0, 0), (0, 0, 0))] (by decide +kernel) rfl ?_
    exact hx_reti (by decide +kernel) (h1 c1)
  · have c1 : x2 < (m 86 32) := by have h : ¬ ((m 86 32) ≤ x2) := c1; omega
    refine hx_blk (npc := 13) (L' := [(0, .inr (.inl 86)), (1, .inl x1), (2, .inl x2)]) (st' := [.inl x1]) (m' := m) [((12, .iload_n 1, 1, 0, 0, 0, 0), (0, 0, 0))] (by decide +kernel) rfl ?_
    refine hx_if .eq 33 (by decide +kernel) (fun c2 => ?_) (fun c2 => ?_)
    · have c2 : x1 = 0 := c2
      refine hx_blk (npc := 41) (L' := [(0, .inr (.inl 86)), (1, .inl x1), (2, .inl x2)]) (st' := [.inr (.inl 87), .inr (.inl 88)]) (m' := m) [((33, .aload_n 0, 1, 0, 0, 0, 0), (0, 0, 0)), ((34, .getfield 13, 3, 10, 1, 5114, 0), (1, 86, 88)), ((37, .aload_n 0, 1, 0, 0, 0, 0), (0, 0, 0)), ((38, .getfield 7, 3, 10, 0, 5113, 0), (1, 86, 87))] (by decide +kernel) rfl ?_
      refine hx_call (E := (41, .invokestatic 290, 3, 212, 0, 6217, 0)) (M' := yp_m212) [.inr (.inl 88), .inr (.inl 87)] [] rfl (by decide +kernel) rfl ⟨rfl, rfl⟩ rfl rfl (hs212_88_87 ?_)
      show hxn xs n yp_m214 44 [(0, .inr (.inl 86)), (1, .inl x1), (2, .inl x2)] [] (hcopy m 88 0 87 0 1131) Q
      refine hx_blk (npc := 45) (L' := [(0, .inr (.inl 86)), (1, .inl x1), (2, .inl x2)]) (st' := [.inl x1]) (m' := (hcopy m 88 0 87 0 1131)) [((44, .iload_n 1, 1, 0, 0, 0, 0), (0, 0, 0))] (by decide +kernel) rfl ?_
      exact hx_reti (by decide +kernel) (h2 c1 c2)
    · have c2 : x1 ≠ 0 := c2
      refine hx_blk (npc := 23) (L' := [(0, .inr (.inl 86)), (1, .inl x1), (2, .inl x2)]) (st' := [.inl (m 109 (x2).toNat), .inr (.inl 86)]) (m' := m) [((16, .aload_n 0, 1, 0, 0, 0, 0), (0, 0, 0)), ((17, .aload_n 0, 1, 0, 0, 0, 0), (0, 0, 0)), ((18, .getfield 77, 3, 10, 33, 5146, 0), (1, 86, 109)), ((21, .iload_n 2, 1, 0, 0, 0, 0), (0, 0, 0)), ((22, .iaload, 1, 0, 0, 0, 0), (0, 109, 0))] (by decide +kernel) rfl ?_
      exact hx_call (E := (23, .invokevirtual 287, 3, 195, 0, 6152, 0)) (M' := yp_m195) [.inr (.inl 86), .inl (m 109 (x2).toNat)] [] rfl (by decide +kernel) rfl ⟨rfl, rfl⟩ rfl rfl (hx_mono (h3 c1 c2) (fun r m' h' => hx_pick [0, 2] h'))

/-- areDone from 26 on -/
theorem hr214_26 {xs : List Int32} {n : Nat} {Q : hQ} {m : gx_M} {x2 s0 : Int}
    (h1 : hxn xs n yp_m214 4 [(0, .inr (.inl 86)), (1, .inl s0), (2, .inl (gx_w (x2 + 1)))] [] m Q) : hxn xs (n + 1) yp_m214 26 [(0, .inr (.inl 86)), (2, .inl x2)] [.inl s0] m Q := by
  refine hx_blks (npc := 4) (L' := [(0, .inr (.inl 86)), (2, .inl (gx_w (x2 + 1))), (1, .inl s0)]) (st' := []) (m' := m) ((26, .istore_n 1, 1, 0, 0, 0, 0), (0, 0, 0)) [((27, .iinc 2 1, 3, 0, 0, 0, 0), (0, 0, 0)), ((30, .goto (-26), 3, 0, 0, 0, 0), (0, 0, 0))] (by decide +kernel) rfl ?_
  exact hx_pick [0, 1, 2] h1

/-- tried from 0 on -/
theorem hr261_0 {xs : List Int32} {n : Nat} {Q : hQ} {m : gx_M} {x1 x2 : Int}
    (h1 : (1 ≤ x1 ∧ x1 ≤ 100) → (0 ≤ x2 ∧ x2 ≤ 1) → hxn xs n yp_m258 0 [(0, .inr (.inl 86)), (1, .inl x1)] [] (hcopy m 87 0 88 0 1131) (fun r m' => hxn xs n yp_m261 59 [(0, .inr (.inl 86)), (2, .inl x2)] (hrs r ++ []) m' Q))
    (h2 : (1 ≤ x1 ∧ x1 ≤ 100) → (¬ (0 ≤ x2 ∧ x2 ≤ 1)) → (10 ≤ x2 ∧ x2 ≤ 17) → (aPers (m 87) (gx_w (x2 - 10))) → hxn xs n yp_m258 0 [(0, .inr (.inl 86)), (1, .inl x1)] [] (hcopy m 87 0 88 0 1131) (fun r m' => hxn xs n yp_m261 59 [(0, .inr (.inl 86)), (2, .inl x2)] (hrs r ++ []) m' Q))
    (h3 : (1 ≤ x1 ∧ x1 ≤ 100) → (¬ (0 ≤ x2 ∧ x2 ≤ 1)) → (10 ≤ x2 ∧ x2 ≤ 17) → (¬ (aPers (m 87) (gx_w (x2 - 10)))) → Q (some (.inl (-1))) m)
    (h4 : (1 ≤ x1 ∧ x1 ≤ 100) → (¬ (0 ≤ x2 ∧ x2 ≤ 1)) → (¬ (10 ≤ x2 ∧ x2 ≤ 17)) → Q (some (.inl (-1))) m)
    (h5 : (¬ (1 ≤ x1 ∧ x1 ≤ 100)) → Q (some (.inl (-1))) m) : hxn xs (n + 1) yp_m261 0 [(0, .inr (.inl 86)), (1, .inl x1), (2, .inl x2)] [] m Q := by
  refine hx_blks (npc := 4) (L' := [(0, .inr (.inl 86)), (1, .inl x1), (2, .inl x2)]) (st' := [.inl 100, .inl 1, .inl x1]) (m' := m) ((0, .iload_n 1, 1, 0, 0, 0, 0), (0, 0, 0)) [((1, .iconst 1, 1, 0, 0, 0, 0), (0, 0, 0)), ((2, .bipush 100, 2, 0, 0, 0, 0), (0, 0, 0))] (by decide +kernel) rfl ?_
  refine hx_call (E := (4, .invokestatic 108, 3, 162, 0, 6023, 0)) (M' := yp_m162) [.inl x1, .inl 1, .inl 100] [] rfl (by decide +kernel) rfl ⟨rfl, rfl⟩ rfl rfl (hs162 (fun c1 => ?_) (fun c1 => ?_))
  · have c1 : 1 ≤ x1 ∧ x1 ≤ 100 := c1
    show hxn xs n yp_m261 7 [(0, .inr (.inl 86)), (1, .inl x1), (2, .inl x2)] [.inl 1] m Q
    refine hx_if .eq 41 (by decide +kernel) (fun c2 => ?_) (fun c2 => ?_)
    · have c2 : (1 : Int) = 0 := c2
      exfalso; omega
    · have c2 : (1 : Int) ≠ 0 := c2
      refine hx_blk (npc := 13) (L' := [(0, .inr (.inl 86)), (1, .inl x1), (2, .inl x2)]) (st' := [.inl 1, .inl 0, .inl x2]) (m' := m) [((10, .iload_n 2, 1, 0, 0, 0, 0), (0, 0, 0)), ((11, .iconst 0, 1, 0, 0, 0, 0), (0, 0, 0)), ((12, .iconst 1, 1, 0, 0, 0, 0), (0, 0, 0))] (by decide +kernel) rfl ?_
      refine hx_call (E := (13, .invokestatic 108, 3, 162, 0, 6023, 0)) (M' := yp_m162) [.inl x2, .inl 0, .inl 1] [] rfl (by decide +kernel) rfl ⟨rfl, rfl⟩ rfl rfl (hs162 (fun c2 => ?_) (fun c2 => ?_))
      · have c2 : 0 ≤ x2 ∧ x2 ≤ 1 := c2
        show hxn xs n yp_m261 16 [(0, .inr (.inl 86)), (1, .inl x1), (2, .inl x2)] [.inl 1] m Q
        refine hx_if .ne 43 (by decide +kernel) (fun c3 => ?_) (fun c3 => ?_)
        · have c3 : (1 : Int) ≠ 0 := c3
          refine hx_blk (npc := 51) (L' := [(0, .inr (.inl 86)), (1, .inl x1), (2, .inl x2)]) (st' := [.inr (.inl 88), .inr (.inl 87)]) (m' := m) [((43, .aload_n 0, 1, 0, 0, 0, 0), (0, 0, 0)), ((44, .getfield 7, 3, 10, 0, 5113, 0), (1, 86, 87)), ((47, .aload_n 0, 1, 0, 0, 0, 0), (0, 0, 0)), ((48, .getfield 13, 3, 10, 1, 5114, 0), (1, 86, 88))] (by decide +kernel) rfl ?_
          refine hx_call (E := (51, .invokestatic 290, 3, 212, 0, 6217, 0)) (M' := yp_m212) [.inr (.inl 87), .inr (.inl 88)] [] rfl (by decide +kernel) rfl ⟨rfl, rfl⟩ rfl rfl (hs212_87_88 ?_)
          show hxn xs n yp_m261 54 [(0, .inr (.inl 86)), (1, .inl x1), (2, .inl x2)] [] (hcopy m 87 0 88 0 1131) Q
          refine hx_blk (npc := 56) (L' := [(0, .inr (.inl 86)), (1, .inl x1), (2, .inl x2)]) (st' := [.inl x1, .inr (.inl 86)]) (m' := (hcopy m 87 0 88 0 1131)) [((54, .aload_n 0, 1, 0, 0, 0, 0), (0, 0, 0)), ((55, .iload_n 1, 1, 0, 0, 0, 0), (0, 0, 0))] (by decide +kernel) rfl ?_
          exact hx_call (E := (56, .invokevirtual 400, 3, 258, 0, 7160, 0)) (M' := yp_m258) [.inr (.inl 86), .inl x1] [] rfl (by decide +kernel) rfl ⟨rfl, rfl⟩ rfl rfl (hx_mono (h1 c1 c2) (fun r m' h' => hx_pick [0, 2] h'))
        · have c3 : (1 : Int) = 0 := by have h : ¬ ((1 : Int) ≠ 0) := c3; omega
          exfalso; omega
      · have c2 : ¬ (0 ≤ x2 ∧ x2 ≤ 1) := c2
        show hxn xs n yp_m261 16 [(0, .inr (.inl 86)), (1, .inl x1), (2, .inl x2)] [.inl 0] m Q
        refine hx_if .ne 43 (by decide +kernel) (fun c3 => ?_) (fun c3 => ?_)
        · have c3 : (0 : Int) ≠ 0 := c3
          exfalso; omega
        · have c3 : (0 : Int) = 0 := by have h : ¬ ((0 : Int) ≠ 0) := c3; omega
          refine hx_blk (npc := 24) (L' := [(0, .inr (.inl 86)), (1, .inl x1), (2, .inl x2)]) (st' := [.inl 17, .inl 10, .inl x2]) (m' := m) [((19, .iload_n 2, 1, 0, 0, 0, 0), (0, 0, 0)), ((20, .bipush 10, 2, 0, 0, 0, 0), (0, 0, 0)), ((22, .bipush 17, 2, 0, 0, 0, 0), (0, 0, 0))] (by decide +kernel) rfl ?_
          refine hx_call (E := (24, .invokestatic 108, 3, 162, 0, 6023, 0)) (M' := yp_m162) [.inl x2, .inl 10, .inl 17] [] rfl (by decide +kernel) rfl ⟨rfl, rfl⟩ rfl rfl (hs162 (fun c3 => ?_) (fun c3 => ?_))
          · have c3 : 10 ≤ x2 ∧ x2 ≤ 17 := c3
            show hxn xs n yp_m261 27 [(0, .inr (.inl 86)), (1, .inl x1), (2, .inl x2)] [.inl 1] m Q
            refine hx_if .eq 41 (by decide +kernel) (fun c4 => ?_) (fun c4 => ?_)
            · have c4 : (1 : Int) = 0 := c4
              exfalso; omega
            · have c4 : (1 : Int) ≠ 0 := c4
              refine hx_blk (npc := 35) (L' := [(0, .inr (.inl 86)), (1, .inl x1), (2, .inl x2)]) (st' := [.inl (gx_w (x2 - 10)), .inr (.inl 86)]) (m' := m) [((30, .aload_n 0, 1, 0, 0, 0, 0), (0, 0, 0)), ((31, .iload_n 2, 1, 0, 0, 0, 0), (0, 0, 0)), ((32, .bipush 10, 2, 0, 0, 0, 0), (0, 0, 0)), ((34, .isub, 1, 0, 0, 0, 0), (0, 0, 0))] (by decide +kernel) rfl ?_
              refine hx_call (E := (35, .invokevirtual 113, 3, 164, 0, 6031, 0)) (M' := yp_m164) [.inr (.inl 86), .inl (gx_w (x2 - 10))] [] rfl (by decide +kernel) rfl ⟨rfl, rfl⟩ rfl rfl (hs164 (fun c4 => ?_) (fun c4 => ?_))
              · have c4 : aPers (m 87) (gx_w (x2 - 10)) := c4
                show hxn xs n yp_m261 38 [(0, .inr (.inl 86)), (1, .inl x1), (2, .inl x2)] [.inl 1] m Q
                refine hx_if .ne 43 (by decide +kernel) (fun c5 => ?_) (fun c5 => ?_)
                · have c5 : (1 : Int) ≠ 0 := c5
                  refine hx_blk (npc := 51) (L' := [(0, .inr (.inl 86)), (1, .inl x1), (2, .inl x2)]) (st' := [.inr (.inl 88), .inr (.inl 87)]) (m' := m) [((43, .aload_n 0, 1, 0, 0, 0, 0), (0, 0, 0)), ((44, .getfield 7, 3, 10, 0, 5113, 0), (1, 86, 87)), ((47, .aload_n 0, 1, 0, 0, 0, 0), (0, 0, 0)), ((48, .getfield 13, 3, 10, 1, 5114, 0), (1, 86, 88))] (by decide +kernel) rfl ?_
                  refine hx_call (E := (51, .invokestatic 290, 3, 212, 0, 6217, 0)) (M' := yp_m212) [.inr (.inl 87), .inr (.inl 88)] [] rfl (by decide +kernel) rfl ⟨rfl, rfl⟩ rfl rfl (hs212_87_88 ?_)
                  show hxn xs n yp_m261 54 [(0, .inr (.inl 86)), (1, .inl x1), (2, .inl x2)] [] (hcopy m 87 0 88 0 1131) Q
                  refine hx_blk (npc := 56) (L' := [(0, .inr (.inl 86)), (1, .inl x1), (2, .inl x2)]) (st' := [.inl x1, .inr (.inl 86)]) (m' := (hcopy m 87 0 88 0 1131)) [((54, .aload_n 0, 1, 0, 0, 0, 0), (0, 0, 0)), ((55, .iload_n 1, 1, 0, 0, 0, 0), (0, 0, 0))] (by decide +kernel) rfl ?_
                  exact hx_call (E := (56, .invokevirtual 400, 3, 258, 0, 7160, 0)) (M' := yp_m258) [.inr (.inl 86), .inl x1] [] rfl (by decide +kernel) rfl ⟨rfl, rfl⟩ rfl rfl (hx_mono (h2 c1 c2 c3 c4) (fun r m' h' => hx_pick [0, 2] h'))
                · have c5 : (1 : Int) = 0 := by have h : ¬ ((1 : Int) ≠ 0) := c5; omega
                  exfalso; omega
              · have c4 : ¬ (aPers (m 87) (gx_w (x2 - 10))) := c4
                show hxn xs n yp_m261 38 [(0, .inr (.inl 86)), (1, .inl x1), (2, .inl x2)] [.inl 0] m Q
                refine hx_if .ne 43 (by decide +kernel) (fun c5 => ?_) (fun c5 => ?_)
                · have c5 : (0 : Int) ≠ 0 := c5
                  exfalso; omega
                · have c5 : (0 : Int) = 0 := by have h : ¬ ((0 : Int) ≠ 0) := c5; omega
                  refine hx_blk (npc := 42) (L' := [(0, .inr (.inl 86)), (1, .inl x1), (2, .inl x2)]) (st' := [.inl (-1)]) (m' := m) [((41, .iconst (-1), 1, 0, 0, 0, 0), (0, 0, 0))] (by decide +kernel) rfl ?_
                  exact hx_reti (by decide +kernel) (h3 c1 c2 c3 c4)
          · have c3 : ¬ (10 ≤ x2 ∧ x2 ≤ 17) := c3
            show hxn xs n yp_m261 27 [(0, .inr (.inl 86)), (1, .inl x1), (2, .inl x2)] [.inl 0] m Q
            refine hx_if .eq 41 (by decide +kernel) (fun c4 => ?_) (fun c4 => ?_)
            · have c4 : (0 : Int) = 0 := c4
              refine hx_blk (npc := 42) (L' := [(0, .inr (.inl 86)), (1, .inl x1), (2, .inl x2)]) (st' := [.inl (-1)]) (m' := m) [((41, .iconst (-1), 1, 0, 0, 0, 0), (0, 0, 0))] (by decide +kernel) rfl ?_
              exact hx_reti (by decide +kernel) (h4 c1 c2 c3)
            · have c4 : (0 : Int) ≠ 0 := c4
              exfalso; omega
  · have c1 : ¬ (1 ≤ x1 ∧ x1 ≤ 100) := c1
    show hxn xs n yp_m261 7 [(0, .inr (.inl 86)), (1, .inl x1), (2, .inl x2)] [.inl 0] m Q
    refine hx_if .eq 41 (by decide +kernel) (fun c2 => ?_) (fun c2 => ?_)
    · have c2 : (0 : Int) = 0 := c2
      refine hx_blk (npc := 42) (L' := [(0, .inr (.inl 86)), (1, .inl x1), (2, .inl x2)]) (st' := [.inl (-1)]) (m' := m) [((41, .iconst (-1), 1, 0, 0, 0, 0), (0, 0, 0))] (by decide +kernel) rfl ?_
      exact hx_reti (by decide +kernel) (h5 c1)
    · have c2 : (0 : Int) ≠ 0 := c2
      exfalso; omega

/-- tried from 59 on -/
theorem hr261_59 {xs : List Int32} {n : Nat} {Q : hQ} {m : gx_M} {x2 : Int}
    (h1 : (x2 ≠ 0) → (x2 ≠ 1) → hxn xs n yp_m204 0 [(0, .inr (.inl 86)), (1, .inl (gx_w (x2 - 10)))] [] m (fun r m' => hxn xs n yp_m261 90 [(0, .inr (.inl 86))] (hrs r ++ []) m' Q))
    (h2 : (x2 ≠ 0) → (x2 = 1) → hxn xs n yp_m262 0 [(0, .inr (.inl 86))] [] m (fun r m' => hxn xs n yp_m261 79 [(0, .inr (.inl 86))] (hrs r ++ []) m' Q))
    (h3 : (x2 = 0) → Q (some (.inl (m 86 45))) (hcopy m 88 0 87 0 1131)) : hxn xs (n + 1) yp_m261 59 [(0, .inr (.inl 86)), (2, .inl x2)] [] m Q := by
  refine hx_blks (npc := 60) (L' := [(0, .inr (.inl 86)), (2, .inl x2)]) (st' := [.inl x2]) (m' := m) ((59, .iload_n 2, 1, 0, 0, 0, 0), (0, 0, 0)) [] (by decide +kernel) rfl ?_
  refine hx_if .ne 70 (by decide +kernel) (fun c1 => ?_) (fun c1 => ?_)
  · have c1 : x2 ≠ 0 := c1
    refine hx_blk (npc := 72) (L' := [(0, .inr (.inl 86)), (2, .inl x2)]) (st' := [.inl 1, .inl x2]) (m' := m) [((70, .iload_n 2, 1, 0, 0, 0, 0), (0, 0, 0)), ((71, .iconst 1, 1, 0, 0, 0, 0), (0, 0, 0))] (by decide +kernel) rfl ?_
    refine hx_cmp .ne 82 (by decide +kernel) (fun c2 => ?_) (fun c2 => ?_)
    · have c2 : x2 ≠ 1 := c2
      refine hx_blk (npc := 87) (L' := [(0, .inr (.inl 86)), (2, .inl x2)]) (st' := [.inl (gx_w (x2 - 10)), .inr (.inl 86)]) (m' := m) [((82, .aload_n 0, 1, 0, 0, 0, 0), (0, 0, 0)), ((83, .iload_n 2, 1, 0, 0, 0, 0), (0, 0, 0)), ((84, .bipush 10, 2, 0, 0, 0, 0), (0, 0, 0)), ((86, .isub, 1, 0, 0, 0, 0), (0, 0, 0))] (by decide +kernel) rfl ?_
      exact hx_call (E := (87, .invokevirtual 235, 3, 204, 0, 6187, 0)) (M' := yp_m204) [.inr (.inl 86), .inl (gx_w (x2 - 10))] [] rfl (by decide +kernel) rfl ⟨rfl, rfl⟩ rfl rfl (hx_mono (h1 c1 c2) (fun r m' h' => hx_pick [0] h'))
    · have c2 : x2 = 1 := by have h : ¬ (x2 ≠ 1) := c2; omega
      refine hx_blk (npc := 76) (L' := [(0, .inr (.inl 86)), (2, .inl x2)]) (st' := [.inr (.inl 86)]) (m' := m) [((75, .aload_n 0, 1, 0, 0, 0, 0), (0, 0, 0))] (by decide +kernel) rfl ?_
      exact hx_call (E := (76, .invokevirtual 406, 3, 262, 0, 7177, 0)) (M' := yp_m262) [.inr (.inl 86)] [] rfl (by decide +kernel) rfl ⟨rfl, rfl⟩ rfl rfl (hx_mono (h2 c1 c2) (fun r m' h' => hx_pick [0] h'))
  · have c1 : x2 = 0 := by have h : ¬ (x2 ≠ 0) := c1; omega
    refine hx_blk (npc := 99) (L' := [(0, .inr (.inl 86)), (2, .inl x2), (3, .inl (m 86 45))]) (st' := [.inr (.inl 87), .inr (.inl 88)]) (m' := m) [((63, .aload_n 0, 1, 0, 0, 0, 0), (0, 0, 0)), ((64, .getfield 390, 3, 10, 45, 5158, 0), (0, 86, 0)), ((67, .goto 23, 3, 0, 0, 0, 0), (0, 0, 0)), ((90, .istore_n 3, 1, 0, 0, 0, 0), (0, 0, 0)), ((91, .aload_n 0, 1, 0, 0, 0, 0), (0, 0, 0)), ((92, .getfield 13, 3, 10, 1, 5114, 0), (1, 86, 88)), ((95, .aload_n 0, 1, 0, 0, 0, 0), (0, 0, 0)), ((96, .getfield 7, 3, 10, 0, 5113, 0), (1, 86, 87))] (by decide +kernel) rfl ?_
    refine hx_call (E := (99, .invokestatic 290, 3, 212, 0, 6217, 0)) (M' := yp_m212) [.inr (.inl 88), .inr (.inl 87)] [] rfl (by decide +kernel) rfl ⟨rfl, rfl⟩ rfl rfl (hs212_88_87 ?_)
    show hxn xs n yp_m261 102 [(0, .inr (.inl 86)), (2, .inl x2), (3, .inl (m 86 45))] [] (hcopy m 88 0 87 0 1131) Q
    refine hx_blk (npc := 103) (L' := [(0, .inr (.inl 86)), (2, .inl x2), (3, .inl (m 86 45))]) (st' := [.inl (m 86 45)]) (m' := (hcopy m 88 0 87 0 1131)) [((102, .iload_n 3, 1, 0, 0, 0, 0), (0, 0, 0))] (by decide +kernel) rfl ?_
    exact hx_reti (by decide +kernel) (h3 c1)

/-- tried from 79 on -/
theorem hr261_79 {xs : List Int32} {n : Nat} {Q : hQ} {m : gx_M} {s0 : Int}
    (h1 : Q (some (.inl s0)) (hcopy m 88 0 87 0 1131)) : hxn xs (n + 1) yp_m261 79 [(0, .inr (.inl 86))] [.inl s0] m Q := by
  refine hx_blks (npc := 99) (L' := [(0, .inr (.inl 86)), (3, .inl s0)]) (st' := [.inr (.inl 87), .inr (.inl 88)]) (m' := m) ((79, .goto 11, 3, 0, 0, 0, 0), (0, 0, 0)) [((90, .istore_n 3, 1, 0, 0, 0, 0), (0, 0, 0)), ((91, .aload_n 0, 1, 0, 0, 0, 0), (0, 0, 0)), ((92, .getfield 13, 3, 10, 1, 5114, 0), (1, 86, 88)), ((95, .aload_n 0, 1, 0, 0, 0, 0), (0, 0, 0)), ((96, .getfield 7, 3, 10, 0, 5113, 0), (1, 86, 87))] (by decide +kernel) rfl ?_
  refine hx_call (E := (99, .invokestatic 290, 3, 212, 0, 6217, 0)) (M' := yp_m212) [.inr (.inl 88), .inr (.inl 87)] [] rfl (by decide +kernel) rfl ⟨rfl, rfl⟩ rfl rfl (hs212_88_87 ?_)
  show hxn xs n yp_m261 102 [(0, .inr (.inl 86)), (3, .inl s0)] [] (hcopy m 88 0 87 0 1131) Q
  refine hx_blk (npc := 103) (L' := [(0, .inr (.inl 86)), (3, .inl s0)]) (st' := [.inl s0]) (m' := (hcopy m 88 0 87 0 1131)) [((102, .iload_n 3, 1, 0, 0, 0, 0), (0, 0, 0))] (by decide +kernel) rfl ?_
  exact hx_reti (by decide +kernel) h1

/-- tried from 90 on -/
theorem hr261_90 {xs : List Int32} {n : Nat} {Q : hQ} {m : gx_M} {s0 : Int}
    (h1 : Q (some (.inl s0)) (hcopy m 88 0 87 0 1131)) : hxn xs (n + 1) yp_m261 90 [(0, .inr (.inl 86))] [.inl s0] m Q := by
  refine hx_blks (npc := 99) (L' := [(0, .inr (.inl 86)), (3, .inl s0)]) (st' := [.inr (.inl 87), .inr (.inl 88)]) (m' := m) ((90, .istore_n 3, 1, 0, 0, 0, 0), (0, 0, 0)) [((91, .aload_n 0, 1, 0, 0, 0, 0), (0, 0, 0)), ((92, .getfield 13, 3, 10, 1, 5114, 0), (1, 86, 88)), ((95, .aload_n 0, 1, 0, 0, 0, 0), (0, 0, 0)), ((96, .getfield 7, 3, 10, 0, 5113, 0), (1, 86, 87))] (by decide +kernel) rfl ?_
  refine hx_call (E := (99, .invokestatic 290, 3, 212, 0, 6217, 0)) (M' := yp_m212) [.inr (.inl 88), .inr (.inl 87)] [] rfl (by decide +kernel) rfl ⟨rfl, rfl⟩ rfl rfl (hs212_88_87 ?_)
  show hxn xs n yp_m261 102 [(0, .inr (.inl 86)), (3, .inl s0)] [] (hcopy m 88 0 87 0 1131) Q
  refine hx_blk (npc := 103) (L' := [(0, .inr (.inl 86)), (3, .inl s0)]) (st' := [.inl s0]) (m' := (hcopy m 88 0 87 0 1131)) [((102, .iload_n 3, 1, 0, 0, 0, 0), (0, 0, 0))] (by decide +kernel) rfl ?_
  exact hx_reti (by decide +kernel) h1

theorem hk_cp {o : Nat → Int} {m : gx_M} (h : ∀ k, k < 1131 → m 88 k = o k) : ∀ k, k < 1131 → hcopy m 88 0 87 0 1131 87 k = o k := fun k hk => by
  rw [hcopy_at hk]
  exact h k hk
theorem hk_fr {W : List Nat} {o : Nat → Int} {m m1 : gx_M} (h : ∀ k, k < 1131 → m 88 k = o k) (g : hFr W m m1) (hW : 88 ∉ W) : ∀ k, k < 1131 → m1 88 k = o k := fun k hk => by
  rw [congrFun (g 88 hW) k]
  exact h k hk
section HQ
variable {xs : List Int32} {Q : hQ}
theorem hl211 {o : Nat → Int} (hQ : ∀ v m', (∀ k, k < 1131 → m' 87 k = o k) → Q (some (.inl v)) m') : ∀ (n : Nat) (x2 : Int) (m : gx_M), (∀ k, k < 1131 → m 88 k = o k) → hxn xs n yp_m211 47 [(0, .inr (.inl 86)), (2, .inl x2)] [] m Q := by
  intro n
  induction n with
  | zero => exact fun _ _ _ => hx_0
  | succ n ih =>
    intro x2 m h
    refine hr211_47 (fun _ => hQ _ _ (hk_cp h)) (fun _ => ?_)
    refine hF195d (m0 := m) hFr.rf (fun v1 m1 g1 => ?_)
    show hxn xs n yp_m211 60 [(0, .inr (.inl 86)), (2, .inl x2)] [.inl v1] m1 Q
    have h' := hk_fr h g1 (by decide)
    exact hx_dn (hr211_60 (fun _ => hQ _ _ (hk_cp h')) (fun _ => ih _ _ h'))
theorem hq211 {n : Nat} {m : gx_M} {x1 : Int} (hQ : ∀ v m', (∀ k, k < 1131 → m' 87 k = m 87 k) → Q (some (.inl v)) m') : hxn xs n yp_m211 0 [(0, .inr (.inl 86)), (1, .inl x1)] [] m Q := by
  refine hx_dn (hr211_0 (fun _ _ => ?_) (fun _ _ => hQ _ _ (fun _ _ => rfl)) (fun _ => hQ _ _ (fun _ _ => rfl)))
  refine hF191a (m0 := m) hFr.rf (fun v1 m1 g1 => ?_)
  show hxn xs n yp_m211 26 [(0, .inr (.inl 86))] [.inl v1] m1 Q
  have e : m1 87 = m 87 := g1 87 (by decide)
  refine hx_dn (hr211_26 (fun _ => ?_) (fun _ => hQ _ _ (fun k _ => congrFun e k)))
  exact hl211 hQ n _ _ (fun k hk => by rw [hcopy_at hk, e])
theorem hl214 {o : Nat → Int} (hQ : ∀ v m', (∀ k, k < 1131 → m' 87 k = o k) → (∀ k, k < 1131 → m' 88 k = o k) → Q (some (.inl v)) m') : ∀ (n : Nat) (x1 x2 : Int) (m : gx_M), (∀ k, k < 1131 → m 88 k = o k) → hxn xs n yp_m214 4 [(0, .inr (.inl 86)), (1, .inl x1), (2, .inl x2)] [] m Q := by
  intro n
  induction n with
  | zero => exact fun _ _ _ _ => hx_0
  | succ n ih =>
    intro x1 x2 m h
    have hq : Q (some (.inl x1)) (hcopy m 88 0 87 0 1131) := hQ _ _ (hk_cp h) (fun k hk => by rw [hcopy_ne (by decide)]; exact h k hk)
    refine hr214_4 (fun _ => hq) (fun _ _ => hq) (fun _ _ => ?_)
    refine hF195d (m0 := m) hFr.rf (fun v1 m1 g1 => ?_)
    show hxn xs n yp_m214 26 [(0, .inr (.inl 86)), (2, .inl x2)] [.inl v1] m1 Q
    exact hx_dn (hr214_26 (ih _ _ _ (hk_fr h g1 (by decide))))
theorem hq214 {n : Nat} {m : gx_M} {o : Nat → Int} (h : ∀ k, k < 1131 → m 88 k = o k) (hQ : ∀ v m', (∀ k, k < 1131 → m' 87 k = o k) → (∀ k, k < 1131 → m' 88 k = o k) → Q (some (.inl v)) m') : hxn xs n yp_m214 0 [(0, .inr (.inl 86))] [] m Q :=
  hx_dn (hr214_0 (hl214 hQ n _ _ m h))
theorem hl213_99 {o : Nat → Int} {x2 : Int} (hQ : ∀ v m', (∀ k, k < 1131 → m' 87 k = o k) → Q (some (.inl v)) m') : ∀ (n : Nat) (x3 : Int) (m : gx_M), (∀ k, k < 1131 → m 87 k = o k) → (∀ k, k < 1131 → m 88 k = o k) → hxn xs n yp_m213 99 [(0, .inr (.inl 86)), (2, .inl x2), (3, .inl x3)] [] m Q := by
  intro n
  induction n with
  | zero => exact fun _ _ _ _ => hx_0
  | succ n ih =>
    intro x3 m h7 h8
    refine hr213_99 (fun _ _ _ => hQ _ _ h7) (fun _ _ _ => hQ _ _ h7) (fun _ _ _ => hQ _ _ h7) (fun _ _ _ => hQ _ _ h7) (fun _ => ?_)
    refine hF215n (m0 := m) hFr.rf (fun v1 m1 g1 => ?_)
    show hxn xs n yp_m213 107 [(0, .inr (.inl 86)), (2, .inl x2), (3, .inl x3)] [.inl v1] m1 Q
    have h7' : ∀ k, k < 1131 → m1 87 k = o k := fun k hk => by rw [congrFun (g1 87 (by decide)) k]; exact h7 k hk
    have h8' := hk_fr h8 g1 (by decide)
    refine hx_dn (hr213_107 (fun _ _ _ => hQ _ _ h7') (fun _ _ _ => hQ _ _ h7') (fun _ _ _ => hQ _ _ h7') (fun _ _ _ => hQ _ _ h7') (fun _ => ?_))
    refine hq214 h8' (fun v2 m2 j7 j8 => ?_)
    show hxn xs n yp_m213 114 [(0, .inr (.inl 86)), (2, .inl x2)] [.inl v2] m2 Q
    exact hx_dn (hr213_114 (ih _ _ j7 j8))
theorem hl213_73 {o : Nat → Int} {x2 : Int} (hQ : ∀ v m', (∀ k, k < 1131 → m' 87 k = o k) → Q (some (.inl v)) m') : ∀ (n : Nat) (x3 : Int) (m : gx_M), (∀ k, k < 1131 → m 88 k = o k) → hxn xs n yp_m213 73 [(0, .inr (.inl 86)), (2, .inl x2), (3, .inl x3)] [] m Q := by
  intro n
  induction n with
  | zero => exact fun _ _ _ => hx_0
  | succ n ih =>
    intro x3 m h8
    refine hr213_73 (fun _ => ?_) (fun _ => ih _ _ (fun k hk => by rw [gx_u_ne (by omega)]; exact h8 k hk))
    refine hq214 h8 (fun v2 m2 j7 j8 => ?_)
    show hxn xs n yp_m213 98 [(0, .inr (.inl 86)), (2, .inl x2)] [.inl v2] m2 Q
    exact hx_dn (hr213_98 (hl213_99 hQ n _ _ j7 j8))
theorem hq213 {n : Nat} {m : gx_M} {x1 x2 : Int} (hQ : ∀ v m', (∀ k, k < 1131 → m' 87 k = m 87 k) → Q (some (.inl v)) m') : hxn xs n yp_m213 0 [(0, .inr (.inl 86)), (1, .inl x1), (2, .inl x2)] [] m Q := by
  refine hx_dn (hr213_0 (fun _ _ => ?_) (fun _ _ => hQ _ _ (fun _ _ => rfl)) (fun _ => hQ _ _ (fun _ _ => rfl)))
  refine hF191a (m0 := m) hFr.rf (fun v1 m1 g1 => ?_)
  show hxn xs n yp_m213 26 [(0, .inr (.inl 86)), (2, .inl x2)] [.inl v1] m1 Q
  have e : m1 87 = m 87 := g1 87 (by decide)
  have hq : ∀ v, Q (some (.inl v)) m1 := fun v => hQ _ _ (fun k _ => congrFun e k)
  refine hx_dn (hr213_26 (fun _ _ => hq _) (fun _ _ _ => ?_) (fun _ _ _ => hq _) (fun _ => hq _))
  exact hl213_73 hQ n _ _ (fun k hk => by rw [hcopy_at hk, e])
theorem hq261 {n : Nat} {m : gx_M} {x1 x2 : Int} (hQ : ∀ v m', (∀ k, k < 1131 → m' 87 k = m 87 k) → Q (some (.inl v)) m') : hxn xs n yp_m261 0 [(0, .inr (.inl 86)), (1, .inl x1), (2, .inl x2)] [] m Q := by
  have go : hxn xs n yp_m258 0 [(0, .inr (.inl 86)), (1, .inl x1)] [] (hcopy m 87 0 88 0 1131) (fun r m' => hxn xs n yp_m261 59 [(0, .inr (.inl 86)), (2, .inl x2)] (hrs r ++ []) m' Q) := by
    refine hF258g (m0 := hcopy m 87 0 88 0 1131) hFr.rf (fun m1 g1 => ?_)
    show hxn xs n yp_m261 59 [(0, .inr (.inl 86)), (2, .inl x2)] [] m1 Q
    have h : ∀ k, k < 1131 → m1 88 k = m 87 k := hk_fr (fun k hk => hcopy_at hk) g1 (by decide)
    refine hx_dn (hr261_59 (fun _ _ => ?_) (fun _ _ => ?_) (fun _ => hQ _ _ (hk_cp h)))
    · refine hF204o (m0 := m1) hFr.rf (fun v2 m2 g2 => ?_)
      show hxn xs n yp_m261 90 [(0, .inr (.inl 86))] [.inl v2] m2 Q
      exact hx_dn (hr261_90 (hQ _ _ (hk_cp (hk_fr h g2 (by decide)))))
    · refine hF262o (m0 := m1) hFr.rf (fun v2 m2 g2 => ?_)
      show hxn xs n yp_m261 79 [(0, .inr (.inl 86))] [.inl v2] m2 Q
      exact hx_dn (hr261_79 (hQ _ _ (hk_cp (hk_fr h g2 (by decide)))))
  refine hx_dn (hr261_0 (fun _ _ => go) (fun _ _ _ _ => go) (fun _ _ _ _ => hQ _ _ (fun _ _ => rfl)) (fun _ _ _ => hQ _ _ (fun _ _ => rfl)) (fun _ => hQ _ _ (fun _ _ => rfl)))
end HQ
end
