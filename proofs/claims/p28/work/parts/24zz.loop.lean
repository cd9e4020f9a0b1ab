/-! the law's loop: its contract -/
theorem bl_Tok {xs : List Int32} {X : sx_W → Prop} (h : bw_H xs X) : ∀ (pc : Nat), ∀ K ∈ bl_T pc, bx_Kok yp_P xs bw_INV X K := by
  intro pc
  unfold bl_T
  split
  · exact bx_Tnil
  · exact (List.forall_mem_cons.mpr ⟨bo_27 h, (List.forall_mem_cons.mpr ⟨bo_71 h, bx_Tnil⟩)⟩)
  · exact bx_Tnil
  · exact (List.forall_mem_cons.mpr ⟨bo_26 h, (List.forall_mem_cons.mpr ⟨bo_115 h, bx_Tnil⟩)⟩)
  · exact (List.forall_mem_cons.mpr ⟨bo_25 h, (List.forall_mem_cons.mpr ⟨bo_114 h, bx_Tnil⟩)⟩)
  · exact (List.forall_mem_cons.mpr ⟨bo_24 h, (List.forall_mem_cons.mpr ⟨bo_113 h, bx_Tnil⟩)⟩)
  · exact (List.forall_mem_cons.mpr ⟨bo_23 h, (List.forall_mem_cons.mpr ⟨bo_70 h, bx_Tnil⟩)⟩)
  · exact (List.forall_mem_cons.mpr ⟨bo_22 h, (List.forall_mem_cons.mpr ⟨bo_69 h, bx_Tnil⟩)⟩)
  · exact (List.forall_mem_cons.mpr ⟨bo_21 h, (List.forall_mem_cons.mpr ⟨bo_68 h, bx_Tnil⟩)⟩)
  · exact (List.forall_mem_cons.mpr ⟨bo_20 h, (List.forall_mem_cons.mpr ⟨bo_67 h, bx_Tnil⟩)⟩)
  · exact (List.forall_mem_cons.mpr ⟨bo_19 h, (List.forall_mem_cons.mpr ⟨bo_66 h, bx_Tnil⟩)⟩)
  · exact (List.forall_mem_cons.mpr ⟨bo_18 h, (List.forall_mem_cons.mpr ⟨bo_65 h, bx_Tnil⟩)⟩)
  · exact (List.forall_mem_cons.mpr ⟨bo_17 h, (List.forall_mem_cons.mpr ⟨bo_64 h, bx_Tnil⟩)⟩)
  · exact (List.forall_mem_cons.mpr ⟨bo_16 h, (List.forall_mem_cons.mpr ⟨bo_63 h, bx_Tnil⟩)⟩)
  · exact (List.forall_mem_cons.mpr ⟨bo_15 h, (List.forall_mem_cons.mpr ⟨bo_62 h, bx_Tnil⟩)⟩)
  · exact (List.forall_mem_cons.mpr ⟨bo_14 h, (List.forall_mem_cons.mpr ⟨bo_61 h, bx_Tnil⟩)⟩)
  · exact (List.forall_mem_cons.mpr ⟨bo_13 h, (List.forall_mem_cons.mpr ⟨bo_112 h, bx_Tnil⟩)⟩)
  · exact (List.forall_mem_cons.mpr ⟨bo_12 h, (List.forall_mem_cons.mpr ⟨bo_111 h, bx_Tnil⟩)⟩)
  · exact (List.forall_mem_cons.mpr ⟨bo_11 h, (List.forall_mem_cons.mpr ⟨bo_60 h, bx_Tnil⟩)⟩)
  · exact (List.forall_mem_cons.mpr ⟨bo_10 h, (List.forall_mem_cons.mpr ⟨bo_59 h, bx_Tnil⟩)⟩)
  · exact (List.forall_mem_cons.mpr ⟨bo_9 h, (List.forall_mem_cons.mpr ⟨bo_58 h, bx_Tnil⟩)⟩)
  · exact (List.forall_mem_cons.mpr ⟨bo_8 h, (List.forall_mem_cons.mpr ⟨bo_57 h, bx_Tnil⟩)⟩)
  · exact (List.forall_mem_cons.mpr ⟨bo_7 h, (List.forall_mem_cons.mpr ⟨bo_110 h, bx_Tnil⟩)⟩)
  · exact (List.forall_mem_cons.mpr ⟨bo_6 h, (List.forall_mem_cons.mpr ⟨bo_56 h, bx_Tnil⟩)⟩)
  · exact (List.forall_mem_cons.mpr ⟨bo_5 h, (List.forall_mem_cons.mpr ⟨bo_55 h, bx_Tnil⟩)⟩)
  · exact (List.forall_mem_cons.mpr ⟨bo_4 h, (List.forall_mem_cons.mpr ⟨bo_54 h, bx_Tnil⟩)⟩)
  · exact bx_Tnil
  · exact (List.forall_mem_cons.mpr ⟨bo_3 h, (List.forall_mem_cons.mpr ⟨bo_53 h, (List.forall_mem_cons.mpr ⟨bo_95 h, bx_Tnil⟩)⟩)⟩)
  · exact (List.forall_mem_cons.mpr ⟨bo_2 h, (List.forall_mem_cons.mpr ⟨bo_52 h, bx_Tnil⟩)⟩)
  · exact (List.forall_mem_cons.mpr ⟨bo_1 h, (List.forall_mem_cons.mpr ⟨bo_51 h, bx_Tnil⟩)⟩)
  · exact (List.forall_mem_cons.mpr ⟨bo_0 h, (List.forall_mem_cons.mpr ⟨bo_50 h, bx_Tnil⟩)⟩)
  · exact bx_Tnil
  · exact bx_Tnil
  · exact bx_Tnil
theorem bl_no : ∀ (pc : Nat), ∀ K ∈ bl_T pc, K.1 ≠ 276 := by
  intro pc
  unfold bl_T
  split <;> decide +kernel
theorem bl_goodk : ∀ k, k < 33 → bl_good k = true
  | 0, _ => bl_g0
  | 1, _ => bl_g1
  | 2, _ => bl_g2
  | 3, _ => bl_g3
  | 4, _ => bl_g4
  | 5, _ => bl_g5
  | 6, _ => bl_g6
  | 7, _ => bl_g7
  | 8, _ => bl_g8
  | 9, _ => bl_g9
  | 10, _ => bl_g10
  | 11, _ => bl_g11
  | 12, _ => bl_g12
  | 13, _ => bl_g13
  | 14, _ => bl_g14
  | 15, _ => bl_g15
  | 16, _ => bl_g16
  | 17, _ => bl_g17
  | 18, _ => bl_g18
  | 19, _ => bl_g19
  | 20, _ => bl_g20
  | 21, _ => bl_g21
  | 22, _ => bl_g22
  | 23, _ => bl_g23
  | 24, _ => bl_g24
  | 25, _ => bl_g25
  | 26, _ => bl_g26
  | 27, _ => bl_g27
  | 28, _ => bl_g28
  | 29, _ => bl_g29
  | 30, _ => bl_g30
  | 31, _ => bl_g31
  | 32, _ => bl_g32
  | n + 33, h => absurd h (by omega)
def bl_all : List bx_O := (List.range 33).flatMap (fun k => (bl_run2 k).getD [])
theorem bl_run2_ok {k : Nat} (h : bl_good k = true) : (bl_o k).1 = none ∧ ∃ outs, bl_run2 k = some outs ∧ outs.all (bx_fit bw_INV bk_law) = true := by
  unfold bl_good at h
  rw [Bool.and_eq_true, decide_eq_true_eq] at h
  refine ⟨h.1, ?_⟩
  have h2 := h.2
  split at h2
  · rename_i outs ho
    exact ⟨outs, ho, h2⟩
  · cases h2
theorem bl_fit : bl_all.all (bx_fit bw_INV bk_law) = true := by
  refine List.all_eq_true.mpr (fun y hy => ?_)
  obtain ⟨k, hk, hm⟩ := List.mem_flatMap.mp hy
  obtain ⟨-, outs, ho, ha⟩ := bl_run2_ok (bl_goodk k (List.mem_range.mp hk))
  rw [ho] at hm
  exact List.all_eq_true.mp ha y hm
theorem bo_law {xs : List Int32} {X : sx_W → Prop} (h : bw_H xs X) : bx_KokM yp_P xs bw_INV X yp_m276 bk_law := by
  have hlen := bl_len
  cases hr : bl_run1 with
  | none => rw [hr] at hlen; cases hlen
  | some l =>
    rw [hr] at hlen
    refine bx_chk2_ok (PC := bw_PC) (stops := [18, 1251]) bl_ctr bl_fit (bx_two h.1 h.2.1 (T := []) bx_Tnil (fun K hK => by cases hK) hr (fun o ho => ?_))
    obtain ⟨q, hq, hoq⟩ := List.any_eq_true.mp (List.all_eq_true.mp hlen o ho)
    have hoq := of_decide_eq_true hoq
    subst hoq
    obtain ⟨k, hk, e⟩ := List.mem_iff_getElem.mp hq
    have hk' : k < 33 := hk
    have e2 : bl_o k = o := by
      unfold bl_o
      rw [List.getD_eq_getElem?_getD, List.getElem?_eq_getElem hk, ← e]
      rfl
    obtain ⟨g1, outs, g2, g3⟩ := bl_run2_ok (bl_goodk k (by omega))
    rw [← e2]
    refine ⟨g1, 600, bl_T (bl_o k).2.2.1, outs, bl_Tok h _, fun K hK e => absurd e (bl_no _ K hK), g2, fun y hy => List.mem_flatMap.mpr ⟨k, List.mem_range.mpr (by omega), ?_⟩⟩
    rw [g2]
    exact hy
