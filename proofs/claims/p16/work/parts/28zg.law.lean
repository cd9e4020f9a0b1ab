/-! law: clauses, and the law itself -/
theorem gx_wf_b {r r' : Nat → Int} {a b : Int} (hr : ∀ k : Nat, (k : Int) < b → r' k = r k) (h : gx_wf r a b) : gx_wf r' a b := by
  obtain ⟨h1, h2, h3, H, h4, h5⟩ := h
  refine ⟨h1, h2, h3, H, h4, fun k k1 k2 => ?_⟩
  rw [hr k (by omega)]
  exact h5 k k1 k2
def lq_lw : bx_M := [(86, 5, 6), (86, 7, 13), (91, 0, 260), (92, 0, 260), (93, 0, 16), (94, 0, 16), (95, 0, 16), (96, 0, 16)]
def lq_G (m0 m : gx_M) : Prop := gx_I m ∧ gx_fw lq_lw m0 m
theorem lq_F.row {m0 m : gx_M} {a : Nat} (h : lq_F m0 a m) {c : Nat} (h1 : c ≠ 86) (h2 : c ≠ 91) (h3 : c ≠ 92) : m c = m0 c := h.2.row (fun q hq e => by
  simp only [lq_md, List.mem_cons, List.not_mem_nil, or_false] at hq
  rcases hq with rfl | rfl | rfl | rfl
  · exact h1 e.symm
  · exact h1 e.symm
  · exact h2 e.symm
  · exact h3 e.symm)
theorem lq_F.at91 {m0 m : gx_M} {a : Nat} (h : lq_F m0 a m) {k : Nat} (hk : k < a) : m 91 k = m0 91 k := h.2 91 k (fun q hq => by
  simp only [lq_md, List.mem_cons, List.not_mem_nil, or_false] at hq
  rcases hq with rfl | rfl | rfl | rfl <;> simp <;> omega)
theorem lq_G.F {m0 m1 m : gx_M} {a : Nat} (h : lq_G m0 m1) (h' : lq_F m1 a m) : lq_G m0 m := ⟨h'.1, h.2.tr (h'.2.sub (fun q hq => by
  simp only [lq_md, List.mem_cons, List.not_mem_nil, or_false] at hq
  rcases hq with rfl | rfl | rfl | rfl
  · exact ⟨(86, 5, 6), by simp [lq_lw], rfl, Nat.le_refl _, Nat.le_refl _⟩
  · exact ⟨(86, 7, 13), by simp [lq_lw], rfl, Nat.le_refl _, by decide⟩
  · exact ⟨(91, 0, 260), by simp [lq_lw], rfl, Nat.zero_le _, Nat.le_refl _⟩
  · exact ⟨(92, 0, 260), by simp [lq_lw], rfl, Nat.le_refl _, Nat.le_refl _⟩))⟩
theorem lq_G.w86 {m0 m : gx_M} (h : lq_G m0 m) {k : Nat} {v : Int} (hk : k = 7 ∨ k = 9 ∨ k = 11 ∨ k = 12) (h1 : -2147483648 ≤ v) (h2 : v ≤ 2147483647) : lq_G m0 (gx_u m 86 k v) := by
  have hc : gx_cow 86 7 12 (-2147483648) 2147483647 = true := by decide +kernel
  have := gx_I_w h.1 86 (z := (k : Int)) (v := v) 7 12 _ _ hc (by omega) (by omega) h1 h2
  rw [Int.toNat_natCast] at this
  exact ⟨this, h.2.w ⟨(86, 7, 13), by simp [lq_lw], rfl, by show 7 ≤ k; omega, by show k < 13; omega⟩⟩
theorem lq_G.w5 {m0 m : gx_M} (h : lq_G m0 m) {v : Int} (h1 : 0 ≤ v) (h2 : v ≤ 260) : lq_G m0 (gx_u m 86 5 v) :=
  ⟨gx_I_w h.1 86 (z := 5) (v := v) 5 5 0 260 (by decide +kernel) (by omega) (by omega) h1 h2, h.2.w ⟨(86, 5, 6), by simp [lq_lw], rfl, Nat.le_refl _, by decide⟩⟩
theorem lq_G.w9 {m0 m : gx_M} (h : lq_G m0 m) {c k : Nat} {v : Int} (hc : c = 93 ∨ c = 94 ∨ c = 95 ∨ c = 96) (hk : k < 16) (h1 : -2147483648 ≤ v) (h2 : v ≤ 2147483647) : lq_G m0 (gx_u m c k v) := by
  have hcov : gx_cow c 0 15 (-2147483648) 2147483647 = true := by rcases hc with rfl | rfl | rfl | rfl <;> decide +kernel
  have := gx_I_w h.1 c (z := (k : Int)) (v := v) 0 15 _ _ hcov (by omega) (by omega) h1 h2
  rw [Int.toNat_natCast] at this
  exact ⟨this, h.2.w ⟨(c, 0, 16), by rcases hc with rfl | rfl | rfl | rfl <;> simp [lq_lw], rfl, Nat.zero_le _, hk⟩⟩
/-- the clauses that are read so far are well formed -/
def lq_cl (m : gx_M) (S C : Nat) : Prop := ∀ q : Nat, q < S → gx_wf (m 91) (m 94 q) (m 95 q) ∧ gx_wf (m 91) (m 95 q) (m 96 q) ∧ m 96 q ≤ (C : Int)
def lq_L (m0 : gx_M) (N : Int) (S C : Nat) (m : gx_M) : Prop := lq_G m0 m ∧ (m 86 6 = N ∧ N ≤ 240 ∧ m 86 5 ≤ N) ∧ m 86 10 = (C : Int) ∧ (C : Int) ≤ m 86 5 ∧ m 86 12 = (S : Int) ∧ S ≤ 16 ∧ lq_cl m S C
section GLW
variable {xs : List Int32} {w0 : sx_W} {d : Nat} {Q : gx_Q} {m : gx_M}
theorem gc_cl_end {m0 m3 : gx_M} {N : Int} {S C C2 : Nat} (hL : lq_L m0 N S C m) (hS : S < 16) (hG : lq_G m0 m3) (hN : m3 86 6 = N ∧ N ≤ 240 ∧ m3 86 5 ≤ N) (hC2 : m3 86 10 = (C2 : Int)) (hCP : (C2 : Int) ≤ m3 86 5) (h12 : m3 86 12 = (S : Int)) (h94 : m3 94 = lf_up (m 94) S (C : Int)) (h95 : m3 95 = lf_up (m 95) S (C2 : Int)) (h96 : m3 96 = m 96) (h91 : ∀ k : Nat, k < C → m3 91 k = m 91 k) (hwf : gx_wf (m3 91) (C : Int) (C2 : Int)) (hle : C ≤ C2)
    (hQ0 : ∀ m', lq_G m0 m' → Q (some 0) m') (hQ : ∀ C' m', lq_L m0 N (S + 1) C' m' → Q (some 1) m') : gx_to xs w0 (d + 6) yp_m184 0 [(0, .inr 86)] [] m3 (fun r m' => gx_to xs w0 (d + 7) yp_m169 116 [(0, .inr 86)] (gx_rs r ++ []) m' Q) := by
  refine gc_cond hG.1 hN hC2 hCP (fun m' h => gt169_116 (by have := h.at12; omega) (fun e => absurd rfl e) (fun e => absurd rfl e) (fun _ => hQ0 m' (hG.F h))) (fun C4 m4 g1 g2 => ?_)
  have e12 := g1.1.at12
  have hb := g1.C250
  have hP := g1.P0
  have hC4 := g1.2.2.1
  have hE := g1.2.2.2.2.2.1
  refine gt169_116 (by omega) (fun _ => by omega) (fun _ => ?_) (fun e => by omega)
  rw [e12, h12, hC4, Int.toNat_natCast]
  have hG5 := ((hG.F g1.1).w9 (c := 96) (k := S) (v := (C4 : Int)) (by omega) hS (by omega) (by omega)).w86 (k := 12) (v := (S : Int) + 1) (by omega) (by omega) (by omega)
  have hle2 := g2.1
  have r94 : m4 94 = m3 94 := g1.1.row (by decide) (by decide) (by decide)
  have r95 : m4 95 = m3 95 := g1.1.row (by decide) (by decide) (by decide)
  have r96 : m4 96 = m3 96 := g1.1.row (by decide) (by decide) (by decide)
  have f91 : gx_u (gx_u m4 96 S (C4 : Int)) 86 12 ((S : Int) + 1) 91 = m4 91 := by rw [gx_u_off (by decide), gx_u_off (by decide)]
  have f94 : gx_u (gx_u m4 96 S (C4 : Int)) 86 12 ((S : Int) + 1) 94 = lf_up (m 94) S (C : Int) := by rw [gx_u_off (by decide), gx_u_off (by decide), r94, h94]
  have f95 : gx_u (gx_u m4 96 S (C4 : Int)) 86 12 ((S : Int) + 1) 95 = lf_up (m 95) S (C2 : Int) := by rw [gx_u_off (by decide), gx_u_off (by decide), r95, h95]
  have f96 : gx_u (gx_u m4 96 S (C4 : Int)) 86 12 ((S : Int) + 1) 96 = lf_up (m 96) S (C4 : Int) := by rw [gx_u_off (by decide), gx_u_row, r96, h96]
  refine hQ C4 _ ⟨hG5, g1.2.1, hC4, ?_, ?_, by omega, fun q hq => ?_⟩
  · show (C4 : Int) ≤ m4 86 5
    omega
  · show (S : Int) + 1 = _
    omega
  · rw [f91, f94, f95, f96]
    by_cases e : q = S
    · rw [e, lf_up_eq, lf_up_eq, lf_up_eq]
      refine ⟨gx_wf_b (fun k hk => g1.1.at91 (by omega)) hwf, ?_, Int.le_refl _⟩
      exact lq_T_end g2 (by omega)
    · rw [lf_up_ne e, lf_up_ne e, lf_up_ne e]
      obtain ⟨w1, w2, w3⟩ := hL.2.2.2.2.2.2 q (by omega)
      have hq2 := w2.2.1
      have hk : ∀ k : Nat, (k : Int) < (C : Int) → m4 91 k = m 91 k := fun k hk => by rw [g1.1.at91 (by omega), h91 k (by omega)]
      exact ⟨gx_wf_b (fun k hk' => hk k (by omega)) w1, gx_wf_b (fun k hk' => hk k (by omega)) w2, by omega⟩
theorem gc_clause {m0 : gx_M} {N : Int} {S C : Nat} (hL : lq_L m0 N S C m) (hQ0 : ∀ m', lq_G m0 m' → Q (some 0) m') (hQ : ∀ C' m', S < 16 → lq_L m0 N (S + 1) C' m' → Q (some 1) m') : gx_to xs w0 (d + 7) yp_m169 0 [(0, .inr 86)] [] m Q := by
  have hI := hL.1.1
  obtain ⟨hG, hN, hC, hCP, h12, hS16, hcl⟩ := hL
  have hwrong : ∀ {x y : Int} {pc : Nat}, (∀ m', lq_G m0 m' → gx_to xs w0 (d + 7) yp_m169 pc [] [.inl 0] m' Q) → gx_to xs w0 (d + 6) yp_m172 0 [(0, .inr 86), (1, .inl x), (2, .inl y)] [] m (fun r m' => gx_to xs w0 (d + 7) yp_m169 pc [] (gx_rs r ++ []) m' Q) := fun h => gt172_0 (h _ (hG.w86 (by omega) (gx_w_bd _).1 (gx_w_bd _).2))
  have hno : ∀ c : Int, gx_to xs w0 (d + 7) yp_m169 9 [(0, .inr 86), (1, .inl c)] [.inl 0] m Q := fun c => gt169_9 hI (by omega) (fun e => absurd rfl e) (fun e => absurd rfl e) (fun e => absurd rfl e) (fun _ => hwrong (fun m' h => gt169_21 (.inl rfl) (hQ0 m' h)))
  have hyes : ∀ c : Int, c = lq_here m → c ≠ -1 → 0 ≤ c → c ≤ 255 → gx_to xs w0 (d + 7) yp_m169 9 [(0, .inr 86), (1, .inl c)] [.inl 1] m Q := fun c hc hne hc0 hc1 => by
    have hlt := lq_here_lt (m := m) (by omega)
    have hP0 := gx_I_n hI 86 5 0 260 (by decide +kernel)
    refine gt169_9 hI (by omega) (fun _ hs hn => ?_) (fun _ hs hn => ?_) (fun _ _ => hwrong (fun m' h => gt169_40 (.inl rfl) (hQ0 m' h))) (fun e => by omega)
    · have hS : S < 16 := by omega
      rw [h12, hC, Int.toNat_natCast]
      have hG1 := (((((hG.w9 (c := 93) (k := S) (v := c) (by omega) hS (by omega) (by omega)).w5 (v := m 86 5 + 1) (by omega) (by omega)).w9 (c := 94) (k := S) (v := (C : Int)) (by omega) hS (by omega) (by omega)).w86 (k := 9) (v := 0) (by omega) (by omega) (by omega)).w86 (k := 11) (v := 0) (by omega) (by omega) (by omega)).w9 (c := 95) (k := S) (v := (C : Int)) (by omega) hS (by omega) (by omega)
      refine gc_cl_end ⟨hG, hN, hC, hCP, h12, hS16, hcl⟩ hS hG1 ⟨hN.1, hN.2.1, ?_⟩ (C2 := C) hC ?_ h12 ?_ ?_ ?_ ?_ ?_ (Nat.le_refl _) hQ0 (fun C' m' h => hQ C' m' hS h)
      · show m 86 5 + 1 ≤ N; omega
      · show (C : Int) ≤ m 86 5 + 1; omega
      · rw [gx_u_off (by decide), gx_u_off (by decide), gx_u_off (by decide), gx_u_row, gx_u_off (by decide), gx_u_off (by decide)]
      · rw [gx_u_row, gx_u_off (by decide), gx_u_off (by decide), gx_u_off (by decide), gx_u_off (by decide), gx_u_off (by decide)]
      · rw [gx_u_off (by decide), gx_u_off (by decide), gx_u_off (by decide), gx_u_off (by decide), gx_u_off (by decide), gx_u_off (by decide)]
      · intro k hk
        rw [gx_u_off (by decide), gx_u_off (by decide), gx_u_off (by decide), gx_u_off (by decide), gx_u_off (by decide), gx_u_off (by decide)]
      · exact ⟨by omega, Int.le_refl _, by omega, fun _ => 0, rfl, fun k k1 k2 => by omega⟩
    · have hS : S < 16 := by omega
      rw [h12, hC, Int.toNat_natCast]
      have hG1 := ((((hG.w9 (c := 93) (k := S) (v := c) (by omega) hS (by omega) (by omega)).w5 (v := m 86 5 + 1) (by omega) (by omega)).w9 (c := 94) (k := S) (v := (C : Int)) (by omega) hS (by omega) (by omega)).w86 (k := 9) (v := 0) (by omega) (by omega) (by omega)).w86 (k := 11) (v := 0) (by omega) (by omega) (by omega)
      have r91 : gx_u (gx_u (gx_u (gx_u (gx_u m 93 S c) 86 5 (m 86 5 + 1)) 94 S (C : Int)) 86 9 0) 86 11 0 91 = m 91 := by rw [gx_u_off (by decide), gx_u_off (by decide), gx_u_off (by decide), gx_u_off (by decide), gx_u_off (by decide)]
      have r94 : gx_u (gx_u (gx_u (gx_u (gx_u m 93 S c) 86 5 (m 86 5 + 1)) 94 S (C : Int)) 86 9 0) 86 11 0 94 = lf_up (m 94) S (C : Int) := by rw [gx_u_off (by decide), gx_u_off (by decide), gx_u_row, gx_u_off (by decide), gx_u_off (by decide)]
      have r95 : gx_u (gx_u (gx_u (gx_u (gx_u m 93 S c) 86 5 (m 86 5 + 1)) 94 S (C : Int)) 86 9 0) 86 11 0 95 = m 95 := by rw [gx_u_off (by decide), gx_u_off (by decide), gx_u_off (by decide), gx_u_off (by decide), gx_u_off (by decide)]
      have r96 : gx_u (gx_u (gx_u (gx_u (gx_u m 93 S c) 86 5 (m 86 5 + 1)) 94 S (C : Int)) 86 9 0) 86 11 0 96 = m 96 := by rw [gx_u_off (by decide), gx_u_off (by decide), gx_u_off (by decide), gx_u_off (by decide), gx_u_off (by decide)]
      have h12' : gx_u (gx_u (gx_u (gx_u (gx_u m 93 S c) 86 5 (m 86 5 + 1)) 94 S (C : Int)) 86 9 0) 86 11 0 86 12 = (S : Int) := h12
      have h6' : gx_u (gx_u (gx_u (gx_u (gx_u m 93 S c) 86 5 (m 86 5 + 1)) 94 S (C : Int)) 86 9 0) 86 11 0 86 6 = N := hN.1
      have h5' : gx_u (gx_u (gx_u (gx_u (gx_u m 93 S c) 86 5 (m 86 5 + 1)) 94 S (C : Int)) 86 9 0) 86 11 0 86 5 = m 86 5 + 1 := rfl
      have h10' : gx_u (gx_u (gx_u (gx_u (gx_u m 93 S c) 86 5 (m 86 5 + 1)) 94 S (C : Int)) 86 9 0) 86 11 0 86 10 = (C : Int) := hC
      have h11' : gx_u (gx_u (gx_u (gx_u (gx_u m 93 S c) 86 5 (m 86 5 + 1)) 94 S (C : Int)) 86 9 0) 86 11 0 86 11 = 0 := rfl
      generalize gx_u (gx_u (gx_u (gx_u (gx_u m 93 S c) 86 5 (m 86 5 + 1)) 94 S (C : Int)) 86 9 0) 86 11 0 = m1 at hG1 r91 r94 r95 r96 h12' h6' h5' h10' h11' ⊢
      have hM : lq_M m1 N C 0 C 0 m1 := ⟨⟨hG1.1, gx_fw.rf⟩, ⟨h6', hN.2.1, by omega⟩, h10', by omega, by omega, by show ((C + 0 + 0 : Nat) : Int) ≤ _; omega, fun i hi => absurd hi (Nat.not_lt_zero _), Nat.le_refl _⟩
      refine gc_sum (d := d + 2) hM (lq_T_0 _ _ _) (fun i hi => absurd hi (Nat.not_lt_zero _)) (fun m' h => gt169_94 (by have := h.at12; omega) (fun e => absurd rfl e) (fun e => absurd rfl e) (fun _ => hQ0 m' (hG1.F h))) (fun C2 m2 g1 g2 g3 g4 => ?_)
      have e12 := g1.1.at12
      have hb := g1.C250
      have hE := g1.2.2.2.2.2.1
      have hC2 := g1.2.2.1
      refine gt169_94 (by omega) (fun _ => by omega) (fun _ => ?_) (fun e => by omega)
      rw [e12, h12', hC2, Int.toNat_natCast]
      have hG3 := (hG1.F g1.1).w9 (c := 95) (k := S) (v := (C2 : Int)) (by omega) hS (by omega) (by omega)
      have s94 : m2 94 = m1 94 := g1.1.row (by decide) (by decide) (by decide)
      have s95 : m2 95 = m1 95 := g1.1.row (by decide) (by decide) (by decide)
      have s96 : m2 96 = m1 96 := g1.1.row (by decide) (by decide) (by decide)
      refine gc_cl_end ⟨hG, hN, hC, hCP, h12, hS16, hcl⟩ hS hG3 g1.2.1 (C2 := C2) hC2 ?_ ?_ ?_ ?_ ?_ ?_ ?_ g2.1 hQ0 (fun C' m' h => hQ C' m' hS h)
      · show (C2 : Int) ≤ m2 86 5; omega
      · show m2 86 12 = _; omega
      · rw [gx_u_off (by decide), s94, r94]
      · rw [gx_u_row, s95, r95]
      · rw [gx_u_off (by decide), s96, r96]
      · intro k hk
        rw [gx_u_off (by decide), g1.1.at91 hk, r91]
      · rw [gx_u_off (by decide)]
        exact lq_T_end g2 (by omega)
  have hv : ∀ c : Int, c = lq_here m → gx_to xs w0 (d + 6) yp_m171 0 [(0, .inl c)] [] m (fun r m' => gx_to xs w0 (d + 7) yp_m169 9 [(0, .inr 86), (1, .inl c)] (gx_rs r ++ []) m' Q) := fun c hc =>
    gt171_0 (fun e => hyes c hc (by omega) (by omega) (by omega)) (fun _ e => hyes c hc (by omega) (by omega) (by omega)) (fun _ _ e => hyes c hc (by omega) (by omega) (by omega)) (fun _ _ _ e => hyes c hc (by omega) (by omega) (by omega)) (fun _ _ _ _ _ => hno c) (fun _ _ _ _ e => hyes c hc (by omega) (by omega) (by omega))
  exact gt169_0 (gc_here hI (gt169_4 (hv _ rfl)))
def lq_al : bx_M := [(86, 4, 14), (91, 0, 260), (92, 0, 260), (93, 0, 16), (94, 0, 16), (95, 0, 16), (96, 0, 16), (97, 0, 260), (98, 0, 16), (99, 0, 16), (100, 0, 16), (101, 0, 16)]
theorem lq_lw_al {m m' : gx_M} (h : gx_fw lq_lw m m') : gx_fw lq_al m m' := h.sub (fun q hq => by
  simp only [lq_lw, List.mem_cons, List.not_mem_nil, or_false] at hq
  rcases hq with rfl | rfl | rfl | rfl | rfl | rfl | rfl | rfl
  · exact ⟨(86, 4, 14), by simp [lq_al], rfl, by decide, by decide⟩
  · exact ⟨(86, 4, 14), by simp [lq_al], rfl, by decide, by decide⟩
  all_goals exact ⟨_, by simp [lq_al], rfl, Nat.le_refl _, Nat.le_refl _⟩)
/-- what the last copies take for granted -/
def lq_Z (m0 : gx_M) (S C : Nat) (b : gx_M) (m : gx_M) : Prop := gx_I m ∧ gx_fw lq_al m0 m ∧ m 86 10 = (C : Int) ∧ m 86 12 = (S : Int) ∧ m 86 13 = (S : Int) ∧ m 91 = b 91 ∧ m 94 = b 94 ∧ m 95 = b 95 ∧ m 96 = b 96
theorem gl_law138 {m0 b : gx_M} {S C : Nat} (hS : S ≤ 16) (hC : C ≤ 240) (hcl : lq_cl b S C) (hQ : ∀ v m', gx_I m' → gx_X m' → gx_fw lq_al m0 m' → Q (some v) m') : ∀ (j k : Nat) (m : gx_M), S - k = j → k ≤ S → lq_Z m0 S C b m → (∀ i : Nat, i < C → m 97 i = b 91 i) → (∀ q : Nat, q < k → m 99 q = b 94 q ∧ m 100 q = b 95 q ∧ m 101 q = b 96 q) → gx_to xs w0 d yp_m168 138 [(0, .inr 86), (3, .inl (k : Int))] [] m Q := by
  intro j
  induction j with
  | zero =>
    intro k m hj hk hZ h97 hq
    obtain ⟨hI, hf, h10, h12, h13, h91, h94, h95, h96⟩ := hZ
    refine gt168_138 (by omega) (by omega) (fun _ => hQ _ m hI (fun q q16 hqS => ?_) hf) (fun c => by omega)
    have hq' : q < S := by omega
    obtain ⟨w1, w2, w3⟩ := hcl q hq'
    obtain ⟨e1, e2, e3⟩ := hq q (by omega)
    have hq2 := w2.2.1
    rw [e1, e2, e3]
    exact ⟨gx_wf_b (fun i hi => h97 i (by omega)) w1, gx_wf_b (fun i hi => h97 i (by omega)) w2⟩
  | succ j ih =>
    intro k m hj hk hZ h97 hq
    obtain ⟨hI, hf, h10, h12, h13, h91, h94, h95, h96⟩ := hZ
    refine gt168_138 (by omega) (by omega) (fun c => by omega) (fun c => ?_)
    rw [Int.toNat_natCast]
    have rg : ∀ c : Nat, c = 93 ∨ c = 94 ∨ c = 95 ∨ c = 96 → -2147483648 ≤ m c k ∧ m c k ≤ 2147483647 := fun c hc => by
      have hcov : gx_cov c 0 15 (-2147483648) 2147483647 = true := by rcases hc with rfl | rfl | rfl | rfl <;> decide +kernel
      have := gx_I_at hI c (z := (k : Int)) 0 15 _ _ hcov (by omega) (by omega)
      rwa [Int.toNat_natCast] at this
    have wr : ∀ (c : Nat) (v : Int) (m' : gx_M), (c = 98 ∨ c = 99 ∨ c = 100 ∨ c = 101) → gx_I m' ∧ gx_fw lq_al m0 m' → -2147483648 ≤ v ∧ v ≤ 2147483647 → gx_I (gx_u m' c k v) ∧ gx_fw lq_al m0 (gx_u m' c k v) := fun c v m' hc h hv => by
      have hcov : gx_cow c 0 15 (-2147483648) 2147483647 = true := by rcases hc with rfl | rfl | rfl | rfl <;> decide +kernel
      have := gx_I_w h.1 c (z := (k : Int)) (v := v) 0 15 _ _ hcov (by omega) (by omega) hv.1 hv.2
      rw [Int.toNat_natCast] at this
      exact ⟨this, h.2.w ⟨(c, 0, 16), by rcases hc with rfl | rfl | rfl | rfl <;> simp [lq_al], rfl, Nat.zero_le _, by show k < 16; omega⟩⟩
    have hw := wr 101 (m 96 k) _ (by omega) (wr 100 (m 95 k) _ (by omega) (wr 99 (m 94 k) _ (by omega) (wr 98 (m 93 k) _ (by omega) ⟨hI, hf⟩ (rg 93 (by omega))) (rg 94 (by omega))) (rg 95 (by omega))) (rg 96 (by omega))
    have := ih (k + 1) _ (by omega) (by omega) ⟨hw.1, hw.2, h10, h12, h13, by rw [gx_u_off (by decide), gx_u_off (by decide), gx_u_off (by decide), gx_u_off (by decide)]; exact h91, by rw [gx_u_off (by decide), gx_u_off (by decide), gx_u_off (by decide), gx_u_off (by decide)]; exact h94, by rw [gx_u_off (by decide), gx_u_off (by decide), gx_u_off (by decide), gx_u_off (by decide)]; exact h95, by rw [gx_u_off (by decide), gx_u_off (by decide), gx_u_off (by decide), gx_u_off (by decide)]; exact h96⟩ (fun i hi => by
      rw [gx_u_off (by decide), gx_u_off (by decide), gx_u_off (by decide), gx_u_off (by decide)]; exact h97 i hi) (fun q hqk => by
      rw [show gx_u (gx_u (gx_u (gx_u m 98 k (m 93 k)) 99 k (m 94 k)) 100 k (m 95 k)) 101 k (m 96 k) 99 = lf_up (m 99) k (m 94 k) by rw [gx_u_off (by decide), gx_u_off (by decide), gx_u_row, gx_u_off (by decide)],
        show gx_u (gx_u (gx_u (gx_u m 98 k (m 93 k)) 99 k (m 94 k)) 100 k (m 95 k)) 101 k (m 96 k) 100 = lf_up (m 100) k (m 95 k) by rw [gx_u_off (by decide), gx_u_row, gx_u_off (by decide), gx_u_off (by decide)],
        show gx_u (gx_u (gx_u (gx_u m 98 k (m 93 k)) 99 k (m 94 k)) 100 k (m 95 k)) 101 k (m 96 k) 101 = lf_up (m 101) k (m 96 k) by rw [gx_u_row, gx_u_off (by decide), gx_u_off (by decide), gx_u_off (by decide)]]
      by_cases e : q = k
      · rw [e, lf_up_eq, lf_up_eq, lf_up_eq, h94, h95, h96]
        exact ⟨rfl, rfl, rfl⟩
      · rw [lf_up_ne e, lf_up_ne e, lf_up_ne e]
        exact hq q (by omega))
    rw [show ((k + 1 : Nat) : Int) = (k : Int) + 1 by omega] at this
    exact this
theorem gl_law110 {m0 b : gx_M} {S C : Nat} (hS : S ≤ 16) (hC : C ≤ 240) (hcl : lq_cl b S C) (hQ : ∀ v m', gx_I m' → gx_X m' → gx_fw lq_al m0 m' → Q (some v) m') : ∀ (j k : Nat) (m : gx_M), C - k = j → k ≤ C → lq_Z m0 S C b m → (∀ i : Nat, i < k → m 97 i = b 91 i) → gx_to xs w0 d yp_m168 110 [(0, .inr 86), (3, .inl (k : Int))] [] m Q := by
  intro j
  induction j with
  | zero =>
    intro k m hj hk hZ h97
    have h10 := hZ.2.2.1
    exact gt168_110 (by omega) (by omega) (fun _ => gl_law138 hS hC hcl hQ S 0 m (by omega) (by omega) hZ (fun i hi => h97 i (by omega)) (fun q hq => absurd hq (Nat.not_lt_zero _))) (fun c => by omega)
  | succ j ih =>
    intro k m hj hk hZ h97
    obtain ⟨hI, hf, h10, h12, h13, h91, h94, h95, h96⟩ := hZ
    refine gt168_110 (by omega) (by omega) (fun c => by omega) (fun c => ?_)
    have hr := gx_I_at hI 91 (z := (k : Int)) 0 259 (-2147483648) 2147483647 (by decide +kernel) (by omega) (by omega)
    have hw := gx_I_w hI 97 (z := (k : Int)) (v := m 91 k) 0 259 (-2147483648) 2147483647 (by decide +kernel) (by omega) (by omega) (by rw [Int.toNat_natCast] at hr; exact hr.1) (by rw [Int.toNat_natCast] at hr; exact hr.2)
    rw [Int.toNat_natCast] at hw ⊢
    have := ih (k + 1) (gx_u m 97 k (m 91 k)) (by omega) (by omega) ⟨hw, hf.w ⟨(97, 0, 260), by simp [lq_al], rfl, Nat.zero_le _, by show k < 260; omega⟩, h10, h12, h13, by rw [gx_u_off (by decide)]; exact h91, by rw [gx_u_off (by decide)]; exact h94, by rw [gx_u_off (by decide)]; exact h95, by rw [gx_u_off (by decide)]; exact h96⟩ (fun i hi => by
      rw [gx_u_row]
      by_cases e : i = k
      · rw [e, lf_up_eq, h91]
      · rw [lf_up_ne e]; exact h97 i (by omega))
    rw [show ((k + 1 : Nat) : Int) = (k : Int) + 1 by omega] at this
    exact this
theorem gl_law46 {m00 m0 : gx_M} {N : Int} (h00 : gx_fw lq_al m00 m0) (hX : gx_X m00) (hd : ∀ m', gx_fw lq_lw m0 m' → gx_X m') (hQ : ∀ v m', gx_I m' → gx_X m' → gx_fw lq_al m00 m' → Q (some v) m') : ∀ (j S C : Nat) (m : gx_M), 17 - S ≤ j → lq_L m0 N S C m → gx_to xs w0 (d + 8) yp_m168 46 [(0, .inr 86), (2, .inl 1)] [] m Q := by
  have hfail : ∀ m', lq_G m0 m' → gx_to xs w0 (d + 8) yp_m168 46 [(0, .inr 86), (2, .inl 0)] [] m' Q := fun m' h => by
    have hI4 := gx_I_w h.1 86 (z := 4) (v := 0) 4 4 0 260 (by decide +kernel) (by omega) (by omega) (by omega) (by omega)
    refine gt168_46 h.1 (fun _ _ => hQ _ _ hI4 ?_ ((h00.tr (lq_lw_al h.2)).w ⟨(86, 4, 14), by simp [lq_al], rfl, by decide, by decide⟩)) (fun e => absurd rfl e) (fun e => absurd rfl e) (fun e => absurd rfl e)
    exact gx_X_c.fw (mods := [(86, 4, 5)]) (gx_fw.rf.w ⟨_, List.mem_singleton.mpr rfl, rfl, by decide, by decide⟩) (by decide) (hd m' h.2)
  intro j
  induction j with
  | zero => intro S C m hj hL; have := hL.2.2.2.2.2.1; omega
  | succ j ih =>
    intro S C m hj hL
    have hI := hL.1.1
    obtain ⟨hG, hN, hC, hCP, h12, hS16, hcl⟩ := id hL
    have hP0 := gx_I_n hI 86 5 0 260 (by decide +kernel)
    refine gt168_46 hI (fun e => by omega) (fun _ c _ => ?_) (fun _ _ e => by omega) (fun _ c => gt189_0 (gc_here hI (gt189_4 hI (fun c1 => gt168_67 (fun e => by omega) (fun _ => ?_)) (fun _ => gt172_0 (gt189_17 (.inl rfl) (gt168_67 (fun _ => hfail _ (hG.w86 (by omega) (gx_w_bd _).1 (gx_w_bd _).2)) (fun e => absurd rfl e)))))))
    · have hI4 := gx_I_w hI 86 (z := 4) (v := 0) 4 4 0 260 (by decide +kernel) (by omega) (by omega) (by omega) (by omega)
      have hI13 := gx_I_w hI4 86 (z := 13) (v := m 86 12) 13 13 0 16 (by decide +kernel) (by omega) (by omega) (by omega) (by omega)
      refine gl_law110 hS16 (by omega) hcl hQ C 0 _ rfl (Nat.zero_le _) ⟨hI13, ((h00.tr (lq_lw_al hG.2)).w ⟨(86, 4, 14), by simp [lq_al], rfl, by decide, by decide⟩).w ⟨(86, 4, 14), by simp [lq_al], rfl, by decide, by decide⟩, hC, h12, h12, ?_, ?_, ?_, ?_⟩ (fun i hi => absurd hi (Nat.not_lt_zero _))
      all_goals rw [gx_u_off (by decide), gx_u_off (by decide)]
    · have hG1 := hG.w5 (v := m 86 5 + 1) (by omega) (by omega)
      have hL1 : lq_L m0 N S C (gx_u m 86 5 (m 86 5 + 1)) := ⟨hG1, ⟨hN.1, hN.2.1, by rw [gx_u_self]; omega⟩, hC, by rw [gx_u_self]; omega, h12, hS16, fun q hq => by
        rw [gx_u_off (by decide), gx_u_off (by decide), gx_u_off (by decide), gx_u_off (by decide)]
        exact hcl q hq⟩
      exact gc_clause (d := d) hL1 (fun m' h => gt168_74 (fun _ => hfail m' h) (fun e => absurd rfl e)) (fun C' m' hS h => gt168_74 (fun e => by omega) (fun _ => ih (S + 1) C' m' (by omega) h))
theorem gc_law (hI : gx_I m) (hX : gx_X m) {n : Int} (hQ : ∀ v m', gx_I m' → gx_X m' → gx_fw lq_al m m' → Q (some v) m') : gx_to xs w0 (d + 8) yp_m168 0 [(0, .inr 86), (1, .inl n)] [] m Q := by
  have hno : ∀ v, Q (some v) m := fun v => hQ v m hI hX gx_fw.rf
  refine gt168_0 (gc_in (fun n1 n2 => gt168_8 hI (fun e => by omega) (fun _ _ => ?_) (fun _ _ => hno _)) (fun _ => gt168_8 hI (fun _ => hno _) (fun e => absurd rfl e) (fun e => absurd rfl e)))
  have i5 := gx_I_w hI 86 (z := 5) (v := 0) 5 5 0 260 (by decide +kernel) (by omega) (by omega) (by omega) (by omega)
  have i6 := gx_I_w i5 86 (z := 6) (v := n) 6 6 0 260 (by decide +kernel) (by omega) (by omega) (by omega) (by omega)
  have i10 := gx_I_w i6 86 (z := 10) (v := 0) 10 10 (-2147483648) 2147483647 (by decide +kernel) (by omega) (by omega) (by omega) (by omega)
  have i12 := gx_I_w i10 86 (z := 12) (v := 0) 12 12 (-2147483648) 2147483647 (by decide +kernel) (by omega) (by omega) (by omega) (by omega)
  have hin : ∀ k : Nat, 4 ≤ k → k < 14 → ∃ q ∈ lq_al, q.1 = 86 ∧ q.2.1 ≤ k ∧ k < q.2.2 := fun k h1 h2 => ⟨(86, 4, 14), by simp [lq_al], rfl, h1, h2⟩
  have hf : gx_fw lq_al m (gx_u (gx_u (gx_u (gx_u m 86 5 0) 86 6 n) 86 10 0) 86 12 0) := (((gx_fw.rf.w (hin 5 (by omega) (by omega))).w (hin 6 (by omega) (by omega))).w (hin 10 (by omega) (by omega))).w (hin 12 (by omega) (by omega))
  have hX1 : gx_X (gx_u (gx_u (gx_u (gx_u m 86 5 0) 86 6 n) 86 10 0) 86 12 0) := gx_X_c.fw (mods := [(86, 5, 6), (86, 6, 7), (86, 10, 11), (86, 12, 13)]) ((((gx_fw.rf.w ⟨(86, 5, 6), by simp, rfl, by decide, by decide⟩).w ⟨(86, 6, 7), by simp, rfl, by decide, by decide⟩).w ⟨(86, 10, 11), by simp, rfl, by decide, by decide⟩).w ⟨(86, 12, 13), by simp, rfl, by decide, by decide⟩) (by decide) hX
  have hd : ∀ m', gx_fw lq_lw (gx_u (gx_u (gx_u (gx_u m 86 5 0) 86 6 n) 86 10 0) 86 12 0) m' → gx_X m' := fun m' h => gx_X_c.fw h (by decide) hX1
  have hL : lq_L (gx_u (gx_u (gx_u (gx_u m 86 5 0) 86 6 n) 86 10 0) 86 12 0) n 0 0 (gx_u (gx_u (gx_u (gx_u m 86 5 0) 86 6 n) 86 10 0) 86 12 0) := ⟨⟨i12, gx_fw.rf⟩, ⟨rfl, by omega, by show (0 : Int) ≤ n; omega⟩, rfl, by show ((0 : Nat) : Int) ≤ 0; omega, rfl, by omega, fun q hq => absurd hq (Nat.not_lt_zero _)⟩
  have hfail : ∀ m', lq_G (gx_u (gx_u (gx_u (gx_u m 86 5 0) 86 6 n) 86 10 0) 86 12 0) m' → gx_to xs w0 (d + 8) yp_m168 46 [(0, .inr 86), (2, .inl 0)] [] m' Q := fun m' h => by
    have hI4 := gx_I_w h.1 86 (z := 4) (v := 0) 4 4 0 260 (by decide +kernel) (by omega) (by omega) (by omega) (by omega)
    refine gt168_46 h.1 (fun _ _ => hQ _ _ hI4 ?_ ((hf.tr (lq_lw_al h.2)).w (hin 4 (by omega) (by omega)))) (fun e => absurd rfl e) (fun e => absurd rfl e) (fun e => absurd rfl e)
    exact gx_X_c.fw (mods := [(86, 4, 5)]) (gx_fw.rf.w ⟨_, List.mem_singleton.mpr rfl, rfl, by decide, by decide⟩) (by decide) (hd m' h.2)
  exact gc_clause (d := d) hL (fun m' h => gt168_45 (hfail m' h)) (fun C' m' hS h => gt168_45 (gl_law46 (d := d) hf hX hd hQ 17 1 C' m' (by omega) h))
theorem gk_law : bx_Kok yp_P xs bw_INV (gx_XW gx_X) bk_115 := by
  refine gx_K_of (by decide) rfl (fun M w0 v m hM hv hI hX _ => ?_)
  cases (Option.some.inj (hM.symm.trans rfl) : M = yp_m168)
  match v, hv with
  | x1 :: r, hv =>
    refine gc_law (d := 0) hI hX (fun v m' hI' hX' hf hb => ⟨⟨rfl, hb v rfl⟩, hI', hX', fun c k hn => hf c k (fun q hq hx => ?_)⟩)
    have mem : ∀ q0 : Nat × Nat × Nat, q0 ∈ bk_115.2.2.2.2.2.1 → ¬ (q0.1 = c ∧ q0.2.1 ≤ k ∧ k < q0.2.2) := fun q0 h => hn q0 h
    simp only [lq_al, List.mem_cons, List.not_mem_nil, or_false] at hq
    rcases hq with rfl | rfl | rfl | rfl | rfl | rfl | rfl | rfl | rfl | rfl | rfl | rfl
    · dsimp only at hx
      have hk : k = 4 ∨ k = 5 ∨ k = 6 ∨ k = 7 ∨ k = 8 ∨ k = 9 ∨ k = 10 ∨ k = 11 ∨ k = 12 ∨ k = 13 := by omega
      rcases hk with rfl | rfl | rfl | rfl | rfl | rfl | rfl | rfl | rfl | rfl
      · exact mem (86, 4, 5) (by decide) ⟨hx.1, by decide, by decide⟩
      · exact mem (86, 5, 6) (by decide) ⟨hx.1, by decide, by decide⟩
      · exact mem (86, 6, 7) (by decide) ⟨hx.1, by decide, by decide⟩
      · exact mem (86, 7, 8) (by decide) ⟨hx.1, by decide, by decide⟩
      · exact mem (86, 8, 9) (by decide) ⟨hx.1, by decide, by decide⟩
      · exact mem (86, 9, 10) (by decide) ⟨hx.1, by decide, by decide⟩
      · exact mem (86, 10, 11) (by decide) ⟨hx.1, by decide, by decide⟩
      · exact mem (86, 11, 12) (by decide) ⟨hx.1, by decide, by decide⟩
      · exact mem (86, 12, 13) (by decide) ⟨hx.1, by decide, by decide⟩
      · exact mem (86, 13, 14) (by decide) ⟨hx.1, by decide, by decide⟩
    all_goals exact mem _ (by decide) hx
end GLW
