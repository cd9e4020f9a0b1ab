/-! law: it ends with an empty tape -/
section GLF
variable {xs : List Int32} {w0 : sx_W} {d : Nat} {Q : gx_Q} {m : gx_M}
/-- what the last copies take for granted -/
def lq_Zf (m0 : gx_M) (S C : Nat) (b : gx_M) (m : gx_M) : Prop := gx_I m ∧ gx_fw lq_al m0 m ∧ m 86 10 = (C : Int) ∧ m 86 12 = (S : Int) ∧ (m 86 13 = (S : Int) ∧ m 86 4 = 0) ∧ m 91 = b 91 ∧ m 94 = b 94 ∧ m 95 = b 95 ∧ m 96 = b 96
theorem gl_law138f {m0 b : gx_M} {S C : Nat} (hS : S ≤ 16) (hC : C ≤ 240) (hcl : lq_cl b S C) (hQ : ∀ v m', gx_I m' → gx_X m' → gx_fw lq_al m0 m' → m' 86 4 = 0 → Q (some v) m') : ∀ (j k : Nat) (m : gx_M), S - k = j → k ≤ S → lq_Zf m0 S C b m → (∀ i : Nat, i < C → m 97 i = b 91 i) → (∀ q : Nat, q < k → m 99 q = b 94 q ∧ m 100 q = b 95 q ∧ m 101 q = b 96 q) → gx_to xs w0 d yp_m168 138 [(0, .inr 86), (3, .inl (k : Int))] [] m Q := by
  intro j
  induction j with
  | zero =>
    intro k m hj hk hZ h97 hq
    obtain ⟨hI, hf, h10, h12, h13, h91, h94, h95, h96⟩ := hZ
    refine gt168_138 (by omega) (by omega) (fun _ => hQ _ m hI (fun q q16 hqS => ?_) hf h13.2) (fun c => by omega)
    have hq' : q < S := by omega
    obtain ⟨w1, w2, w3⟩ := hcl q hq'
    obtain ⟨e1, e2, e3⟩ := hq q (by omega)
    have hq2 := w2.2.1
    rw [e1, e2, e3]
    exact ⟨gx_wf_b (fun i hi => h97 i (by omega)) w1, gx_wf_b (fun i hi => h97 i (by omega)) w2⟩
  | succ j ih =>
    intro k m hj hk hZ h97 hq
    obtain ⟨hI, hf, h10, h12, h13, h91, h94, h95, h96⟩ := hZ
    refine gt168_138 (by omega) (by omega) (fun c => by omega) (fun c => ?_)
    rw [Int.toNat_natCast]
    have rg : ∀ c : Nat, c = 93 ∨ c = 94 ∨ c = 95 ∨ c = 96 → -2147483648 ≤ m c k ∧ m c k ≤ 2147483647 := fun c hc => by
      have hcov : gx_cov c 0 15 (-2147483648) 2147483647 = true := by rcases hc with rfl | rfl | rfl | rfl <;> decide +kernel
      have := gx_I_at hI c (z := (k : Int)) 0 15 _ _ hcov (by omega) (by omega)
      rwa [Int.toNat_natCast] at this
    have wr : ∀ (c : Nat) (v : Int) (m' : gx_M), (c = 98 ∨ c = 99 ∨ c = 100 ∨ c = 101) → gx_I m' ∧ gx_fw lq_al m0 m' → -2147483648 ≤ v ∧ v ≤ 2147483647 → gx_I (gx_u m' c k v) ∧ gx_fw lq_al m0 (gx_u m' c k v) := fun c v m' hc h hv => by
      have hcov : gx_cow c 0 15 (-2147483648) 2147483647 = true := by rcases hc with rfl | rfl | rfl | rfl <;> decide +kernel
      have := gx_I_w h.1 c (z := (k : Int)) (v := v) 0 15 _ _ hcov (by omega) (by omega) hv.1 hv.2
      rw [Int.toNat_natCast] at this
      exact ⟨this, h.2.w ⟨(c, 0, 16), by rcases hc with rfl | rfl | rfl | rfl <;> simp [lq_al], rfl, Nat.zero_le _, by show k < 16; omega⟩⟩
    have hw := wr 101 (m 96 k) _ (by omega) (wr 100 (m 95 k) _ (by omega) (wr 99 (m 94 k) _ (by omega) (wr 98 (m 93 k) _ (by omega) ⟨hI, hf⟩ (rg 93 (by omega))) (rg 94 (by omega))) (rg 95 (by omega))) (rg 96 (by omega))
    have := ih (k + 1) _ (by omega) (by omega) ⟨hw.1, hw.2, h10, h12, h13, by rw [gx_u_off (by decide), gx_u_off (by decide), gx_u_off (by decide), gx_u_off (by decide)]; exact h91, by rw [gx_u_off (by decide), gx_u_off (by decide), gx_u_off (by decide), gx_u_off (by decide)]; exact h94, by rw [gx_u_off (by decide), gx_u_off (by decide), gx_u_off (by decide), gx_u_off (by decide)]; exact h95, by rw [gx_u_off (by decide), gx_u_off (by decide), gx_u_off (by decide), gx_u_off (by decide)]; exact h96⟩ (fun i hi => by
      rw [gx_u_off (by decide), gx_u_off (by decide), gx_u_off (by decide), gx_u_off (by decide)]; exact h97 i hi) (fun q hqk => by
      rw [show gx_u (gx_u (gx_u (gx_u m 98 k (m 93 k)) 99 k (m 94 k)) 100 k (m 95 k)) 101 k (m 96 k) 99 = lf_up (m 99) k (m 94 k) by rw [gx_u_off (by decide), gx_u_off (by decide), gx_u_row, gx_u_off (by decide)],
        show gx_u (gx_u (gx_u (gx_u m 98 k (m 93 k)) 99 k (m 94 k)) 100 k (m 95 k)) 101 k (m 96 k) 100 = lf_up (m 100) k (m 95 k) by rw [gx_u_off (by decide), gx_u_row, gx_u_off (by decide), gx_u_off (by decide)],
        show gx_u (gx_u (gx_u (gx_u m 98 k (m 93 k)) 99 k (m 94 k)) 100 k (m 95 k)) 101 k (m 96 k) 101 = lf_up (m 101) k (m 96 k) by rw [gx_u_row, gx_u_off (by decide), gx_u_off (by decide), gx_u_off (by decide)]]
      by_cases e : q = k
      · rw [e, lf_up_eq, lf_up_eq, lf_up_eq, h94, h95, h96]
        exact ⟨rfl, rfl, rfl⟩
      · rw [lf_up_ne e, lf_up_ne e, lf_up_ne e]
        exact hq q (by omega))
    rw [show ((k + 1 : Nat) : Int) = (k : Int) + 1 by omega] at this
    exact this
theorem gl_law110f {m0 b : gx_M} {S C : Nat} (hS : S ≤ 16) (hC : C ≤ 240) (hcl : lq_cl b S C) (hQ : ∀ v m', gx_I m' → gx_X m' → gx_fw lq_al m0 m' → m' 86 4 = 0 → Q (some v) m') : ∀ (j k : Nat) (m : gx_M), C - k = j → k ≤ C → lq_Zf m0 S C b m → (∀ i : Nat, i < k → m 97 i = b 91 i) → gx_to xs w0 d yp_m168 110 [(0, .inr 86), (3, .inl (k : Int))] [] m Q := by
  intro j
  induction j with
  | zero =>
    intro k m hj hk hZ h97
    have h10 := hZ.2.2.1
    exact gt168_110 (by omega) (by omega) (fun _ => gl_law138f hS hC hcl hQ S 0 m (by omega) (by omega) hZ (fun i hi => h97 i (by omega)) (fun q hq => absurd hq (Nat.not_lt_zero _))) (fun c => by omega)
  | succ j ih =>
    intro k m hj hk hZ h97
    obtain ⟨hI, hf, h10, h12, h13, h91, h94, h95, h96⟩ := hZ
    refine gt168_110 (by omega) (by omega) (fun c => by omega) (fun c => ?_)
    have hr := gx_I_at hI 91 (z := (k : Int)) 0 259 (-2147483648) 2147483647 (by decide +kernel) (by omega) (by omega)
    have hw := gx_I_w hI 97 (z := (k : Int)) (v := m 91 k) 0 259 (-2147483648) 2147483647 (by decide +kernel) (by omega) (by omega) (by rw [Int.toNat_natCast] at hr; exact hr.1) (by rw [Int.toNat_natCast] at hr; exact hr.2)
    rw [Int.toNat_natCast] at hw ⊢
    have := ih (k + 1) (gx_u m 97 k (m 91 k)) (by omega) (by omega) ⟨hw, hf.w ⟨(97, 0, 260), by simp [lq_al], rfl, Nat.zero_le _, by show k < 260; omega⟩, h10, h12, h13, by rw [gx_u_off (by decide)]; exact h91, by rw [gx_u_off (by decide)]; exact h94, by rw [gx_u_off (by decide)]; exact h95, by rw [gx_u_off (by decide)]; exact h96⟩ (fun i hi => by
      rw [gx_u_row]
      by_cases e : i = k
      · rw [e, lf_up_eq, h91]
      · rw [lf_up_ne e]; exact h97 i (by omega))
    rw [show ((k + 1 : Nat) : Int) = (k : Int) + 1 by omega] at this
    exact this
theorem gl_law46f {m00 m0 : gx_M} {N : Int} (h00 : gx_fw lq_al m00 m0) (hX : gx_X m00) (hd : ∀ m', gx_fw lq_lw m0 m' → gx_X m') (hQ : ∀ v m', gx_I m' → gx_X m' → gx_fw lq_al m00 m' → m' 86 4 = 0 → Q (some v) m') : ∀ (j S C : Nat) (m : gx_M), 17 - S ≤ j → lq_L m0 N S C m → gx_to xs w0 (d + 8) yp_m168 46 [(0, .inr 86), (2, .inl 1)] [] m Q := by
  have hfail : ∀ m', lq_G m0 m' → gx_to xs w0 (d + 8) yp_m168 46 [(0, .inr 86), (2, .inl 0)] [] m' Q := fun m' h => by
    have hI4 := gx_I_w h.1 86 (z := 4) (v := 0) 4 4 0 260 (by decide +kernel) (by omega) (by omega) (by omega) (by omega)
    refine gt168_46 h.1 (fun _ _ => hQ _ _ hI4 ?_ ((h00.tr (lq_lw_al h.2)).w ⟨(86, 4, 14), by simp [lq_al], rfl, by decide, by decide⟩) gx_u_self) (fun e => absurd rfl e) (fun e => absurd rfl e) (fun e => absurd rfl e)
    exact gx_X_c.fw (mods := [(86, 4, 5)]) (gx_fw.rf.w ⟨_, List.mem_singleton.mpr rfl, rfl, by decide, by decide⟩) (by decide) (hd m' h.2)
  intro j
  induction j with
  | zero => intro S C m hj hL; have := hL.2.2.2.2.2.1; omega
  | succ j ih =>
    intro S C m hj hL
    have hI := hL.1.1
    obtain ⟨hG, hN, hC, hCP, h12, hS16, hcl⟩ := id hL
    have hP0 := gx_I_n hI 86 5 0 260 (by decide +kernel)
    refine gt168_46 hI (fun e => by omega) (fun _ c _ => ?_) (fun _ _ e => by omega) (fun _ c => gt189_0 (gc_here hI (gt189_4 hI (fun c1 => gt168_67 (fun e => by omega) (fun _ => ?_)) (fun _ => gt172_0 (gt189_17 (.inl rfl) (gt168_67 (fun _ => hfail _ (hG.w86 (by omega) (gx_w_bd _).1 (gx_w_bd _).2)) (fun e => absurd rfl e)))))))
    · have hI4 := gx_I_w hI 86 (z := 4) (v := 0) 4 4 0 260 (by decide +kernel) (by omega) (by omega) (by omega) (by omega)
      have hI13 := gx_I_w hI4 86 (z := 13) (v := m 86 12) 13 13 0 16 (by decide +kernel) (by omega) (by omega) (by omega) (by omega)
      refine gl_law110f hS16 (by omega) hcl hQ C 0 _ rfl (Nat.zero_le _) ⟨hI13, ((h00.tr (lq_lw_al hG.2)).w ⟨(86, 4, 14), by simp [lq_al], rfl, by decide, by decide⟩).w ⟨(86, 4, 14), by simp [lq_al], rfl, by decide, by decide⟩, hC, h12, ⟨h12, by rw [gx_u_ne (by decide), gx_u_self]⟩, ?_, ?_, ?_, ?_⟩ (fun i hi => absurd hi (Nat.not_lt_zero _))
      all_goals rw [gx_u_off (by decide), gx_u_off (by decide)]
    · have hG1 := hG.w5 (v := m 86 5 + 1) (by omega) (by omega)
      have hL1 : lq_L m0 N S C (gx_u m 86 5 (m 86 5 + 1)) := ⟨hG1, ⟨hN.1, hN.2.1, by rw [gx_u_self]; omega⟩, hC, by rw [gx_u_self]; omega, h12, hS16, fun q hq => by
        rw [gx_u_off (by decide), gx_u_off (by decide), gx_u_off (by decide), gx_u_off (by decide)]
        exact hcl q hq⟩
      exact gc_clause (d := d) hL1 (fun m' h => gt168_74 (fun _ => hfail m' h) (fun e => absurd rfl e)) (fun C' m' hS h => gt168_74 (fun e => by omega) (fun _ => ih (S + 1) C' m' (by omega) h))
theorem gc_lawf (hI : gx_I m) (hX : gx_X m) {n : Int} (n1 : 1 ≤ n) (n2 : n ≤ 240) (hQ : ∀ v m', gx_I m' → gx_X m' → gx_fw lq_al m m' → m' 86 4 = 0 → Q (some v) m') : gx_to xs w0 (d + 8) yp_m168 21 [(0, .inr 86), (1, .inl n)] [] m Q := by
  refine gu168_21 ?_
  have i5 := gx_I_w hI 86 (z := 5) (v := 0) 5 5 0 260 (by decide +kernel) (by omega) (by omega) (by omega) (by omega)
  have i6 := gx_I_w i5 86 (z := 6) (v := n) 6 6 0 260 (by decide +kernel) (by omega) (by omega) (by omega) (by omega)
  have i10 := gx_I_w i6 86 (z := 10) (v := 0) 10 10 (-2147483648) 2147483647 (by decide +kernel) (by omega) (by omega) (by omega) (by omega)
  have i12 := gx_I_w i10 86 (z := 12) (v := 0) 12 12 (-2147483648) 2147483647 (by decide +kernel) (by omega) (by omega) (by omega) (by omega)
  have hin : ∀ k : Nat, 4 ≤ k → k < 14 → ∃ q ∈ lq_al, q.1 = 86 ∧ q.2.1 ≤ k ∧ k < q.2.2 := fun k h1 h2 => ⟨(86, 4, 14), by simp [lq_al], rfl, h1, h2⟩
  have hf : gx_fw lq_al m (gx_u (gx_u (gx_u (gx_u m 86 5 0) 86 6 n) 86 10 0) 86 12 0) := (((gx_fw.rf.w (hin 5 (by omega) (by omega))).w (hin 6 (by omega) (by omega))).w (hin 10 (by omega) (by omega))).w (hin 12 (by omega) (by omega))
  have hX1 : gx_X (gx_u (gx_u (gx_u (gx_u m 86 5 0) 86 6 n) 86 10 0) 86 12 0) := gx_X_c.fw (mods := [(86, 5, 6), (86, 6, 7), (86, 10, 11), (86, 12, 13)]) ((((gx_fw.rf.w ⟨(86, 5, 6), by simp, rfl, by decide, by decide⟩).w ⟨(86, 6, 7), by simp, rfl, by decide, by decide⟩).w ⟨(86, 10, 11), by simp, rfl, by decide, by decide⟩).w ⟨(86, 12, 13), by simp, rfl, by decide, by decide⟩) (by decide) hX
  have hd : ∀ m', gx_fw lq_lw (gx_u (gx_u (gx_u (gx_u m 86 5 0) 86 6 n) 86 10 0) 86 12 0) m' → gx_X m' := fun m' h => gx_X_c.fw h (by decide) hX1
  have hL : lq_L (gx_u (gx_u (gx_u (gx_u m 86 5 0) 86 6 n) 86 10 0) 86 12 0) n 0 0 (gx_u (gx_u (gx_u (gx_u m 86 5 0) 86 6 n) 86 10 0) 86 12 0) := ⟨⟨i12, gx_fw.rf⟩, ⟨rfl, by omega, by show (0 : Int) ≤ n; omega⟩, rfl, by show ((0 : Nat) : Int) ≤ 0; omega, rfl, by omega, fun q hq => absurd hq (Nat.not_lt_zero _)⟩
  have hfail : ∀ m', lq_G (gx_u (gx_u (gx_u (gx_u m 86 5 0) 86 6 n) 86 10 0) 86 12 0) m' → gx_to xs w0 (d + 8) yp_m168 46 [(0, .inr 86), (2, .inl 0)] [] m' Q := fun m' h => by
    have hI4 := gx_I_w h.1 86 (z := 4) (v := 0) 4 4 0 260 (by decide +kernel) (by omega) (by omega) (by omega) (by omega)
    refine gt168_46 h.1 (fun _ _ => hQ _ _ hI4 ?_ ((hf.tr (lq_lw_al h.2)).w (hin 4 (by omega) (by omega))) gx_u_self) (fun e => absurd rfl e) (fun e => absurd rfl e) (fun e => absurd rfl e)
    exact gx_X_c.fw (mods := [(86, 4, 5)]) (gx_fw.rf.w ⟨_, List.mem_singleton.mpr rfl, rfl, by decide, by decide⟩) (by decide) (hd m' h.2)
  exact gc_clause (d := d) hL (fun m' h => gt168_45 (hfail m' h)) (fun C' m' hS h => gt168_45 (gl_law46f (d := d) hf hX hd hQ 17 1 C' m' (by omega) h))
theorem gk_flaw : bx_Kok yp_P xs bw_INV (gx_XW gx_X) bf_law := by
  refine gx_K_ofq (by decide +kernel) (by decide) rfl (fun M w0 v m hM hv hI hX _ => ?_)
  cases (Option.some.inj (hM.symm.trans rfl) : M = yp_m168)
  match v, hv with
  | x1 :: r, hv =>
    refine gc_lawf (d := 0) hI hX (by have : 1 ≤ x1 ∧ x1 ≤ 240 := hv.1.2; omega) (by have : 1 ≤ x1 ∧ x1 ≤ 240 := hv.1.2; omega) (fun v m' hI' hX' hf h4 hb => ⟨⟨rfl, hb v rfl⟩, hI', hX', fun c k hn => hf c k (fun q hq hx => ?_), fun q hq => by
      have hq' : q ∈ ([(86, 4, (0, 0, 0))] : bx_Q) := hq
      rw [List.mem_singleton] at hq'
      subst hq'
      exact ⟨Int.le_of_eq h4.symm, Int.le_of_eq h4⟩⟩)
    have mem : ∀ q0 : Nat × Nat × Nat, q0 ∈ bf_law.2.2.2.2.2.1 → ¬ (q0.1 = c ∧ q0.2.1 ≤ k ∧ k < q0.2.2) := fun q0 h => hn q0 h
    simp only [lq_al, List.mem_cons, List.not_mem_nil, or_false] at hq
    rcases hq with rfl | rfl | rfl | rfl | rfl | rfl | rfl | rfl | rfl | rfl | rfl | rfl
    · dsimp only at hx
      have hk : k = 4 ∨ k = 5 ∨ k = 6 ∨ k = 7 ∨ k = 8 ∨ k = 9 ∨ k = 10 ∨ k = 11 ∨ k = 12 ∨ k = 13 := by omega
      rcases hk with rfl | rfl | rfl | rfl | rfl | rfl | rfl | rfl | rfl | rfl
      · exact mem (86, 4, 5) (by decide) ⟨hx.1, by decide, by decide⟩
      · exact mem (86, 5, 6) (by decide) ⟨hx.1, by decide, by decide⟩
      · exact mem (86, 6, 7) (by decide) ⟨hx.1, by decide, by decide⟩
      · exact mem (86, 7, 8) (by decide) ⟨hx.1, by decide, by decide⟩
      · exact mem (86, 8, 9) (by decide) ⟨hx.1, by decide, by decide⟩
      · exact mem (86, 9, 10) (by decide) ⟨hx.1, by decide, by decide⟩
      · exact mem (86, 10, 11) (by decide) ⟨hx.1, by decide, by decide⟩
      · exact mem (86, 11, 12) (by decide) ⟨hx.1, by decide, by decide⟩
      · exact mem (86, 12, 13) (by decide) ⟨hx.1, by decide, by decide⟩
      · exact mem (86, 13, 14) (by decide) ⟨hx.1, by decide, by decide⟩
    all_goals exact mem _ (by decide) hx
end GLF
