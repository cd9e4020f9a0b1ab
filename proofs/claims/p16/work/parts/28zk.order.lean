/-! inOrder: it ends with an empty tape -/
section GOF
variable {xs : List Int32} {w0 : sx_W} {d : Nat} {Q : gx_Q} {m : gx_M}
section GOB
variable {X : sx_W → Prop}
theorem bp_facts (h : bw_H1 xs X) : bx_Kok yp_P xs bw_INV X bf_acts := bx_chk_K h.1 h.2 (List.forall_mem_cons.mpr ⟨bp_164 h, (List.forall_mem_cons.mpr ⟨bp_193 h, (List.forall_mem_cons.mpr ⟨bp_208 h, (List.forall_mem_cons.mpr ⟨bp_224 h, (List.forall_mem_cons.mpr ⟨bp_248 h, (List.forall_mem_cons.mpr ⟨bp_273 h, (List.forall_mem_cons.mpr ⟨bp_290 h, (List.forall_mem_cons.mpr ⟨bp_302 h, (List.forall_mem_cons.mpr ⟨bp_313 h, (List.forall_mem_cons.mpr ⟨bp_326 h, (List.forall_mem_cons.mpr ⟨bp_342 h, (List.forall_mem_cons.mpr ⟨bp_355 h, (List.forall_mem_cons.mpr ⟨bp_371 h, (List.forall_mem_cons.mpr ⟨bp_376 h, (List.forall_mem_cons.mpr ⟨bp_379 h, (List.forall_mem_cons.mpr ⟨bp_384 h, (List.forall_mem_cons.mpr ⟨bp_390 h, bx_Tnil⟩)⟩)⟩)⟩)⟩)⟩)⟩)⟩)⟩)⟩)⟩)⟩)⟩)⟩)⟩)⟩)⟩) (M := yp_m191) rfl bc_facts
end GOB
def gx_odf : bx_M := [(86, 5, 6), (86, 6, 7), (86, 7, 8), (86, 8, 9), (86, 32, 33), (87, 0, 1131), (88, 0, 1131), (102, 0, 260), (103, 0, 14), (104, 0, 16), (105, 0, 16), (106, 0, 16), (107, 0, 16), (108, 0, 16), (109, 0, 6)]
def go_odf (m0 : gx_M) (n : Nat) (m : gx_M) : Prop := gx_I m ∧ gx_X m ∧ gx_fw gx_odf m0 m ∧ m 86 32 = n ∧ lo_d n (m 109)
theorem gl_o99f (h : bw_H1 xs (gx_XW gx_X)) {m0 : gx_M} {n : Nat} (hn : n ≤ 6) {what : Int} (hw : -1 ≤ what ∧ what ≤ 5) (hQ : ∀ v m', gx_I m' → gx_X m' → gx_fw gx_odf m0 m' → Q (some v) m') : ∀ (c : Nat) (v : Int) (m : gx_M), (46656 - lo_e n (m 109)).toNat ≤ c → 0 ≤ v ∧ v ≤ 1 → go_odf m0 n m → gx_to xs w0 (d + 7) yp_m213 99 [(0, .inr 86), (2, .inl what), (3, .inl v)] [] m Q := by
  intro c
  induction c using Nat.strongRecOn with
  | _ c ih =>
    intro v m hc hv hs
    have hno : ∀ v, Q (some v) m := fun v => hQ v m hs.1 hs.2.1 hs.2.2.1
    refine gt213_99 hs.1 hw hv (fun _ _ _ => hno _) (fun _ _ _ => hno _) (fun _ => gc_next (d := d + 5) hn hs.1 hs.2.2.2.1 hs.2.2.2.2
      (gt213_107 hs.1 hw hv (fun _ _ _ => hno _) (fun _ _ _ => hno _) (fun _ _ _ => hno _) (fun _ _ _ => hno _) (fun e => absurd rfl e)) (fun m1 g1 g2 => ?_))
    have hf1 : gx_fw gx_odf m m1 := g1.2.1.sub (fun q hq => ⟨q, by rw [gx_rw, List.mem_singleton] at hq; subst hq; simp [gx_odf], rfl, Nat.le_refl _, Nat.le_refl _⟩)
    have hX1 := gx_X_c.fw g1.2.1 (by decide) hs.2.1
    have hno1 : ∀ v, Q (some v) m1 := fun v => hQ v m1 g1.1 hX1 (hs.2.2.1.tr hf1)
    refine gt213_107 g1.1 hw hv (fun _ _ _ => hno1 _) (fun _ _ _ => hno1 _) (fun _ _ _ => hno1 _) (fun _ _ _ => hno1 _) (fun _ => gc_done h hn g1.1 hX1 g1.2.2.1 (fun v2 m2 v2b s => gt213_114 ?_))
    have e109 := gx_do_row s.2.2.1 (by decide : (109 : Nat) ≠ 87) (by decide) (by decide)
    have b1 := lo_e_bd n (r := m 109) (fun i hi => go_bd hs.1 (by omega))
    have b2 := lo_e_bd n (r := m1 109) (fun i hi => go_bd g1.1 (by omega))
    have p6 := lo_p6 n (by omega)
    refine ih (46656 - lo_e n (m2 109)).toNat ?_ v2 m2 (Nat.le_refl _) v2b ⟨s.1, s.2.1, (hs.2.2.1.tr hf1).tr (s.2.2.1.sub (fun q hq => ⟨q, ?_, rfl, Nat.le_refl _, Nat.le_refl _⟩)), s.2.2.2, by rw [e109]; exact g1.2.2.2⟩
    · rw [e109]
      omega
    · simp only [gx_do, List.mem_cons, List.not_mem_nil, or_false] at hq
      rcases hq with rfl | rfl | rfl <;> simp [gx_odf]
theorem gl_o73f (h : bw_H1 xs (gx_XW gx_X)) {m0 : gx_M} {n : Nat} (hn : n ≤ 6) {what : Int} (hw : -1 ≤ what ∧ what ≤ 5) (hQ : ∀ v m', gx_I m' → gx_X m' → gx_fw gx_odf m0 m' → Q (some v) m') : ∀ (j k : Nat) (m : gx_M), n - k = j → k ≤ n → gx_I m → gx_X m → gx_fw gx_odf m0 m → m 86 32 = n → (∀ i : Nat, i < k → m 109 i = i) → gx_to xs w0 (d + 7) yp_m213 73 [(0, .inr 86), (2, .inl what), (3, .inl (k : Int))] [] m Q := by
  intro j
  induction j with
  | zero =>
    intro k m hj hk hI hX hf h32 hr
    refine gt213_73 hI (by omega) (fun _ => gc_done h hn hI hX h32 (fun v m' hv s => gt213_98 ?_)) (fun c => by omega) (fun c => by omega)
    have e109 := gx_do_row s.2.2.1 (by decide : (109 : Nat) ≠ 87) (by decide) (by decide)
    refine gl_o99f h hn hw hQ _ v m' (Nat.le_refl _) hv ⟨s.1, s.2.1, hf.tr (s.2.2.1.sub (fun q hq => ⟨q, ?_, rfl, Nat.le_refl _, Nat.le_refl _⟩)), s.2.2.2, fun a b ha hb e => ?_⟩
    · simp only [gx_do, List.mem_cons, List.not_mem_nil, or_false] at hq
      rcases hq with rfl | rfl | rfl <;> simp [gx_odf]
    · rw [e109, hr a (by omega), hr b (by omega)] at e
      omega
  | succ j ih =>
    intro k m hj hk hI hX hf h32 hr
    refine gt213_73 hI (by omega) (fun c => by omega) (fun c => by omega) (fun c => ?_)
    have w1 := gx_I_w hI 109 (z := (k : Int)) (v := (k : Int)) 0 5 0 5 (by decide +kernel) (by omega) (by omega) (by omega) (by omega)
    rw [Int.toNat_natCast] at w1 ⊢
    have := ih (k + 1) (gx_u m 109 k (k : Int)) (by omega) (by omega) w1 (gx_X_c.fw (mods := gx_rw) (gx_fw.rf.w ⟨_, List.mem_singleton.mpr rfl, rfl, Nat.zero_le _, by show k < 6; omega⟩) (by decide) hX) (hf.w ⟨(109, 0, 6), by simp [gx_odf], rfl, Nat.zero_le _, by show k < 6; omega⟩) (by rw [gx_u_off (by decide : (86 : Nat) ≠ 109)]; exact h32) (fun i hi => by
      rw [gx_u_row]
      unfold lf_up
      by_cases e : i = k
      · rw [if_pos e, e]
      · rw [if_neg e]; exact hr i (by omega))
    rw [show ((k + 1 : Nat) : Int) = (k : Int) + 1 by omega] at this
    exact this
theorem gc_orderf (h : bw_H1 xs (gx_XW gx_X)) (hI : gx_I m) (hX : gx_X m) {n0 what : Int} (hn0 : 1 ≤ n0 ∧ n0 ≤ 160) (hQ : ∀ v m', gx_I m' → gx_X m' → gx_fw gx_od m m' → m' 86 4 = 0 → Q (some v) m') : gx_to xs w0 (d + 7) yp_m213 21 [(0, .inr 86), (1, .inl n0), (2, .inl what)] [] m Q := by
  refine gu213_21 (gx_Kq (bp_facts h) rfl (by omega) (by decide +kernel) rfl ⟨⟨rfl, rfl⟩, ⟨rfl, hn0.1, hn0.2⟩, trivial⟩ hI hX (by decide +kernel) (fun r m1 he hI1 hX1 hf hqm => ?_))
  obtain ⟨v, rfl, v1, v2⟩ := gx_end_i he
  have hf1 : gx_fw gx_od m m1 := hf.sub (fun q hq => ⟨q, by
    simp only [List.mem_cons, List.not_mem_nil, or_false] at hq
    rcases hq with rfl | rfl | rfl | rfl | rfl | rfl | rfl | rfl | rfl | rfl | rfl <;> simp [gx_od], rfl, Nat.le_refl _, Nat.le_refl _⟩)
  have h4 : m1 86 4 = 0 := by have := hqm (86, 4, (0, 0, 0)) List.mem_cons_self; dsimp only at this; omega
  have hno1 : ∀ v, Q (some v) m1 := fun v => hQ v m1 hI1 hX1 hf1 h4
  have hb := gx_I_n hI1 86 32 0 16 (by decide +kernel)
  refine gt213_26 hI1 (fun _ _ => hno1 _) (fun _ c => gc_in (fun a b => gt213_54 (fun _ => ?_) (fun e => by omega)) (fun _ => gt213_54 (fun e => absurd rfl e) (fun _ => hno1 _))) (fun _ => hno1 _)
  refine gx_K (bp_100 h) rfl (Nat.zero_le _) (by decide +kernel) rfl ⟨⟨rfl, rfl⟩, ⟨rfl, rfl⟩, trivial⟩ hI1 hX1 (fun r m2 he hI2 hX2 hf2 => ?_)
  rw [gx_end_0 he]
  have e86 : m2 86 = m1 86 := hf2.row (fun q hq e => by rw [List.mem_singleton] at hq; subst hq; cases e)
  obtain ⟨n, hn⟩ : ∃ n : Nat, m1 86 32 = n := ⟨(m1 86 32).toNat, by omega⟩
  refine gt213_71 (gl_o73f h (n := n) (by omega) (by omega) (m0 := m1) (fun v m' a1 a2 a3 => hQ v m' a1 a2 (hf1.tr (a3.sub (fun q hq => ⟨q, List.mem_cons_of_mem _ hq, rfl, Nat.le_refl _, Nat.le_refl _⟩))) ((a3 86 4 (by decide)).trans h4)) n 0 m2 rfl (by omega) hI2 hX2 (hf2.sub (fun q hq => ⟨q, by rw [List.mem_singleton] at hq; subst hq; simp [gx_odf], rfl, Nat.le_refl _, Nat.le_refl _⟩)) (by rw [e86]; exact hn) (fun i hi => absurd hi (Nat.not_lt_zero _)))
theorem gk_forder (h : bw_H1 xs (gx_XW gx_X)) : bx_Kok yp_P xs bw_INV (gx_XW gx_X) bf_order := by
  refine gx_K_ofq (by decide +kernel) (by decide) rfl (fun M w0 v m hM hv hI hX _ => ?_)
  cases (Option.some.inj (hM.symm.trans rfl) : M = yp_m213)
  match v, hv with
  | x1 :: x2 :: r, hv =>
    refine gc_orderf (d := 1) h hI hX (by have : 1 ≤ x1 ∧ x1 ≤ 160 := hv.1.2; omega) (fun v m' hI' hX' hf h4 hb => ⟨⟨rfl, hb v rfl⟩, hI', hX', hf, fun q hq => ?_⟩)
    have hq' : q ∈ ([(86, 4, (0, 0, 0))] : bx_Q) := hq
    rw [List.mem_singleton] at hq'
    subst hq'
    exact ⟨Int.le_of_eq h4.symm, Int.le_of_eq h4⟩
end GOF
