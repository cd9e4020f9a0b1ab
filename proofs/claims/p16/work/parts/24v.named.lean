/-! the tape's count, one number for the class and the reference: contracts that end with an empty tape -/
def bf_law : bx_K := (168, 21, [(0, (2, 86, 0)), (1, (0, 1, 240))], [], [(some (some (0, (-2147483648), 2147483647)), 0, [], [(86, 4, (0, 0, 0))])], [(86, 4, 5), (86, 5, 6), (86, 6, 7), (86, 7, 8), (86, 8, 9), (86, 9, 10), (86, 10, 11), (86, 11, 12), (86, 12, 13), (86, 13, 14), (91, 0, 260), (92, 0, 260), (93, 0, 16), (94, 0, 16), (95, 0, 16), (96, 0, 16), (97, 0, 260), (98, 0, 16), (99, 0, 16), (100, 0, 16), (101, 0, 16)], [], 8, none)
def bf_sold : bx_K := (242, 20, [(0, (2, 86, 0)), (1, (0, 1, 6)), (2, (0, (-2147483648), 2147483647)), (3, (0, (-2147483648), 2147483647))], [], [(some (some (0, (-2147483648), 2147483647)), 0, [], [(86, 4, (0, 0, 0))])], [(86, 4, 5), (86, 37, 38), (86, 38, 39), (102, 0, 260), (103, 0, 14), (112, 0, 8), (113, 0, 64), (114, 0, 1792)], [], 8, none)
def bf_order : bx_K := (213, 21, [(0, (2, 86, 0)), (1, (0, 1, 160)), (2, (0, (-2147483648), 2147483647))], [], [(some (some (0, (-2147483648), 2147483647)), 0, [], [(86, 4, (0, 0, 0))])], [(86, 4, 5), (86, 5, 6), (86, 6, 7), (86, 7, 8), (86, 8, 9), (86, 32, 33), (87, 0, 1131), (88, 0, 1131), (102, 0, 260), (103, 0, 14), (104, 0, 16), (105, 0, 16), (106, 0, 16), (107, 0, 16), (108, 0, 16), (109, 0, 6)], [], 8, none)
def bf_acts : bx_K := (191, 0, [(0, (2, 86, 0)), (1, (0, 1, 160))], [], [(some (some (0, 0, 1)), 0, [], [(86, 4, (0, 0, 0))])], [(86, 4, 5), (86, 5, 6), (86, 6, 7), (86, 7, 8), (86, 8, 9), (86, 32, 33), (104, 0, 16), (105, 0, 16), (106, 0, 16), (107, 0, 16), (108, 0, 16)], [2], 4, none)
set_option maxRecDepth 10000000 in
theorem bc_facts : bx_chk yp_P [bk_164, bk_193, bk_208, bk_224, bk_248, bk_273, bk_290, bk_302, bk_313, bk_326, bk_342, bk_355, bk_371, bk_376, bk_379, bk_384, bk_390] 1500 bw_INV bw_PC yp_m191 bf_acts = true := by decide +kernel
def bf_hand : List bx_K := [bf_law, bf_sold, bf_order]
noncomputable def bf_H (xs : List Int32) (X : sx_W → Prop) : Prop := bw_H xs X ∧ ∀ K ∈ bf_hand, bx_Kok yp_P xs bw_INV X K
section BFK
variable {xs : List Int32} {X : sx_W → Prop}
theorem bo_facts (h : bf_H xs X) : bx_Kok yp_P xs bw_INV X bf_acts := bx_chk_K h.1.1 h.1.2.1 (List.forall_mem_cons.mpr ⟨bo_164 h.1, (List.forall_mem_cons.mpr ⟨bo_193 h.1, (List.forall_mem_cons.mpr ⟨bo_208 h.1, (List.forall_mem_cons.mpr ⟨bo_224 h.1, (List.forall_mem_cons.mpr ⟨bo_248 h.1, (List.forall_mem_cons.mpr ⟨bo_273 h.1, (List.forall_mem_cons.mpr ⟨bo_290 h.1, (List.forall_mem_cons.mpr ⟨bo_302 h.1, (List.forall_mem_cons.mpr ⟨bo_313 h.1, (List.forall_mem_cons.mpr ⟨bo_326 h.1, (List.forall_mem_cons.mpr ⟨bo_342 h.1, (List.forall_mem_cons.mpr ⟨bo_355 h.1, (List.forall_mem_cons.mpr ⟨bo_371 h.1, (List.forall_mem_cons.mpr ⟨bo_376 h.1, (List.forall_mem_cons.mpr ⟨bo_379 h.1, (List.forall_mem_cons.mpr ⟨bo_384 h.1, (List.forall_mem_cons.mpr ⟨bo_390 h.1, bx_Tnil⟩)⟩)⟩)⟩)⟩)⟩)⟩)⟩)⟩)⟩)⟩)⟩)⟩)⟩)⟩)⟩)⟩) (M := yp_m191) rfl bc_facts
theorem bo_flaw (h : bf_H xs X) : bx_Kok yp_P xs bw_INV X bf_law := h.2 _ (List.mem_of_getElem? (i := 0) rfl)
theorem bo_fsold (h : bf_H xs X) : bx_Kok yp_P xs bw_INV X bf_sold := h.2 _ (List.mem_of_getElem? (i := 1) rfl)
theorem bo_forder (h : bf_H xs X) : bx_Kok yp_P xs bw_INV X bf_order := h.2 _ (List.mem_of_getElem? (i := 2) rfl)
end BFK
/-- the class's count and the reference's are one number -/
def bf_R (xs : List Int32) (w : sx_W) : Prop := ∃ z : Int, 0 ≤ z ∧ z ≤ 260 ∧ z % 20 = 0 ∧ (∀ v, bx_rd xs w 1 1 = some v → ∃ x : Int32, v = .int x ∧ x.toInt = z) ∧ (∀ v, bx_rd xs w 86 4 = some v → ∃ x : Int32, v = .int x ∧ x.toInt = z)
def bf_chk (S : bx_S) : Bool := match bx_find S.2.2.2.2.1 1 (some (0, 1, 1)), bx_find S.2.2.2.2.1 86 (some (0, 4, 4)) with
  | some a, some b => decide (a = b) && (decide (a = (0, 0, 0)) || (decide (a.1 = 4) && (decide (a.2.1 = 1) && (decide (a.2.2 % 20 = 0) && (match S.1[1]? with
    | some q => decide (0 ≤ q.1 + a.2.2) && decide (q.2 + a.2.2 ≤ 260)
    | none => false)))))
  | _, _ => false
theorem bf_chk_ok {xs : List Int32} {S : bx_S} {vs : List Int} {w : sx_W} {z : Int} (h : bf_chk S = true) (he : bx_env S.1 vs) (hk : ∀ q ∈ S.2.2.2.2.1, bx_kn xs vs w q) (hz : vs[1]? = some z) (h20 : z % 20 = 0) : bf_R xs w := by
  unfold bf_chk at h
  split at h
  · rename_i a b ha hb
    rw [Bool.and_eq_true, decide_eq_true_eq] at h
    obtain ⟨e, h⟩ := h
    subst e
    obtain ⟨j1, e1, m1⟩ := bx_find_ok ha
    obtain ⟨j2, e2, m2⟩ := bx_find_ok hb
    cases e1; cases e2
    obtain ⟨y1, g1, k1⟩ := hk _ m1
    obtain ⟨y2, g2, k2⟩ := hk _ m2
    have f1 : y1 = 1 := by
      have g1' : bx_ixz vs (0, 1, 1) = some y1 := g1
      rw [show bx_ixz vs (0, 1, 1) = some (1 : Int) from bx_ixk 1] at g1'
      exact (Option.some.inj g1').symm
    have f2 : y2 = 4 := by
      have g2' : bx_ixz vs (0, 4, 4) = some y2 := g2
      rw [show bx_ixz vs (0, 4, 4) = some (4 : Int) from bx_ixk 4] at g2'
      exact (Option.some.inj g2').symm
    subst f1; subst f2
    have k1' : ∀ v, bx_rd xs w 1 1 = some v → bx_g vs a v := fun v hv => k1 v (by decide) hv
    have k2' : ∀ v, bx_rd xs w 86 4 = some v → bx_g vs a v := fun v hv => k2 v (by decide) hv
    rw [Bool.or_eq_true, decide_eq_true_eq] at h
    rcases h with rfl | h
    · refine ⟨0, Int.le_refl _, by decide, by decide, fun v hv => ?_, fun v hv => ?_⟩
      · rcases k1' v hv with ⟨e, -⟩ | ⟨-, x, e, u1, u2⟩
        · exact absurd e (by decide)
        · exact ⟨x, e, by dsimp only at u1 u2; omega⟩
      · rcases k2' v hv with ⟨e, -⟩ | ⟨-, x, e, u1, u2⟩
        · exact absurd e (by decide)
        · exact ⟨x, e, by dsimp only at u1 u2; omega⟩
    · simp only [Bool.and_eq_true, decide_eq_true_eq] at h
      obtain ⟨h1, h2, h3, h4⟩ := h
      split at h4
      · rename_i q hq
        rw [Bool.and_eq_true, decide_eq_true_eq, decide_eq_true_eq] at h4
        have hb := he.2 1 q z hq hz
        have hg : ∀ v, bx_g vs a v → ∃ x : Int32, v = .int x ∧ x.toInt = z + a.2.2 := by
          intro v hv
          rcases hv with ⟨-, x, z', e, u1, u2⟩ | ⟨hn, -⟩
          · rw [h2] at u1
            have u1' : vs[1]? = some z' := u1
            rw [hz] at u1'
            cases u1'
            exact ⟨x, e, u2⟩
          · exact absurd h1 hn
        exact ⟨z + a.2.2, by omega, by omega, by omega, fun v hv => hg v (k1' v hv), fun v hv => hg v (k2' v hv)⟩
      · cases h4
  · cases h
