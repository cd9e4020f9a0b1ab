/-! linked -/
theorem gx_fw.row {mods : bx_M} {m m' : gx_M} (h : gx_fw mods m m') {c : Nat} (hc : ∀ q ∈ mods, q.1 ≠ c) : m' c = m c := by
  funext k
  exact h c k (fun q hq e => hc q hq e.1)
def gx_Xc (gX : gx_M → Prop) : Prop := ∀ m m' : gx_M, (∀ q ∈ bw_PC, ∀ k, q.2.1 ≤ k → k < q.2.2 → m' q.1 k = m q.1 k) → gX m → gX m'
def gx_disj (mods : bx_M) : Bool := mods.all (fun q => bw_PC.all (fun p => !decide (p.1 = q.1) || decide (p.2.2 ≤ q.2.1) || decide (q.2.2 ≤ p.2.1)))
theorem gx_Xc.fw {gX : gx_M → Prop} (hc : gx_Xc gX) {mods : bx_M} {m m' : gx_M} (h : gx_fw mods m m') (hd : gx_disj mods = true) (hX : gX m) : gX m' := by
  refine hc m m' (fun p hp k h1 h2 => h p.1 k (fun q hq e => ?_)) hX
  have h3 := List.all_eq_true.mp (List.all_eq_true.mp hd q hq) p hp
  simp only [Bool.or_eq_true, Bool.not_eq_true', decide_eq_false_iff_not, decide_eq_true_eq] at h3
  omega
def gx_hh (r : Nat → Int) (y p : Int) : Prop := ∃ k : Int, 0 ≤ k ∧ k < r (400 + y).toNat ∧ r (440 + y).toNat = 1 ∧ r (480 + 16 * y + k).toNat = p
def gx_Lk (r : Nat → Int) (p q : Int) : Prop := ∃ y : Int, 0 ≤ y ∧ y < 40 ∧ gx_hh r y p ∧ gx_hh r y q
section GLK
variable {xs : List Int32} {w0 : sx_W} {d : Nat} {Q : gx_Q} {m : gx_M}
theorem gl_hh (hI : gx_I m) {y p : Int} (hy : 0 ≤ y ∧ y ≤ 39) (h1 : gx_hh (m 87) y p → Q (some 1) m) (h0 : ¬ gx_hh (m 87) y p → Q (some 0) m) : ∀ (j : Nat) (k : Int), 0 ≤ k → 16 - k = j → (∀ i, 0 ≤ i → i < k → ¬ (i < m 87 (400 + y).toNat ∧ m 87 (440 + y).toNat = 1 ∧ m 87 (480 + 16 * y + i).toNat = p)) → gx_to xs w0 d yp_m220 2 [(0, .inr 86), (1, .inl y), (2, .inl p), (3, .inl k)] [] m Q := by
  have hm := gx_I_at hI 87 (z := 400 + y) 400 439 0 16 (by decide +kernel) (by omega) (by omega)
  intro j
  induction j with
  | zero =>
    intro k hk hj hn
    exact gt220_2 hI hy (by omega) (fun c => h0 (fun ⟨i, a, b, e1, e2⟩ => hn i a (by omega) ⟨b, e1, e2⟩)) (fun c c' => h0 (fun ⟨i, a, b, e1, e2⟩ => c' e1)) (fun c => by omega) (fun c c' c'' => h1 ⟨k, hk, c, c', c''⟩)
  | succ j ih =>
    intro k hk hj hn
    exact gt220_2 hI hy (by omega) (fun c => h0 (fun ⟨i, a, b, e1, e2⟩ => hn i a (by omega) ⟨b, e1, e2⟩)) (fun c c' => h0 (fun ⟨i, a, b, e1, e2⟩ => c' e1)) (fun c c' c'' => ih (k + 1) (by omega) (by omega) (fun i h2 h3 h4 => by
      by_cases e : i = k
      · rw [e] at h4
        exact c'' h4.2.2
      · exact hn i h2 (by omega) h4)) (fun c c' c'' => h1 ⟨k, hk, c, c', c''⟩)
theorem gc_hh (hI : gx_I m) {y p : Int} (hy : 0 ≤ y ∧ y ≤ 39) (h1 : gx_hh (m 87) y p → Q (some 1) m) (h0 : ¬ gx_hh (m 87) y p → Q (some 0) m) : gx_to xs w0 d yp_m220 0 [(0, .inr 86), (1, .inl y), (2, .inl p)] [] m Q :=
  gt220_0 (gl_hh hI hy h1 h0 16 0 (by omega) (by omega) (fun i a b => by omega))
theorem gl_Lk (hI : gx_I m) {p q : Int} (h1 : gx_Lk (m 87) p q → Q (some 1) m) (h0 : ¬ gx_Lk (m 87) p q → Q (some 0) m) : ∀ (j : Nat) (y : Int), 0 ≤ y → 40 - y = j → (∀ i, 0 ≤ i → i < y → ¬ (gx_hh (m 87) i p ∧ gx_hh (m 87) i q)) → gx_to xs w0 (d + 1) yp_m266 2 [(0, .inr 86), (1, .inl p), (2, .inl q), (3, .inl y)] [] m Q := by
  intro j
  induction j with
  | zero => exact fun y hy hj hn => gt266_2 (by omega) (fun c => h0 (fun ⟨i, a, b, e1, e2⟩ => hn i a (by omega) ⟨e1, e2⟩)) (fun c => by omega)
  | succ j ih =>
    intro y hy hj hn
    have hrec : ¬ (gx_hh (m 87) y p ∧ gx_hh (m 87) y q) → gx_to xs w0 (d + 1) yp_m266 2 [(0, .inr 86), (1, .inl p), (2, .inl q), (3, .inl (y + 1))] [] m Q := fun hno => ih (y + 1) (by omega) (by omega) (fun i h2 h3 h4 => by
      by_cases e : i = y
      · rw [e] at h4
        exact hno h4
      · exact hn i h2 (by omega) h4)
    exact gt266_2 (by omega) (fun c => h0 (fun ⟨i, a, b, e1, e2⟩ => hn i a (by omega) ⟨e1, e2⟩)) (fun c => gc_hh hI (by omega)
      (fun g1 => gt266_14 (by omega) (fun e => by omega) (fun _ => gc_hh hI (by omega)
        (fun g2 => gt266_23 (by omega) (fun e => by omega) (fun _ => h1 ⟨y, hy, c, g1, g2⟩))
        (fun g2 => gt266_23 (by omega) (fun _ => hrec (fun h => g2 h.2)) (fun e => absurd rfl e))))
      (fun g1 => gt266_14 (by omega) (fun _ => hrec (fun h => g1 h.1)) (fun e => absurd rfl e)))
theorem gc_Lk (hI : gx_I m) {p q : Int} (h1 : gx_Lk (m 87) p q → Q (some 1) m) (h0 : ¬ gx_Lk (m 87) p q → Q (some 0) m) : gx_to xs w0 (d + 1) yp_m266 0 [(0, .inr 86), (1, .inl p), (2, .inl q)] [] m Q :=
  gt266_0 (gl_Lk hI h1 h0 40 0 (by omega) (by omega) (fun i a b => by omega))
/-- who is linked with whom -/
def gx_E (m : gx_M) (a b : Nat) : Prop := gx_P m (a : Int) ∧ gx_P m (b : Int) ∧ gx_Lk (m 87) (a : Int) (b : Int)
def gx_far : bx_M := [(117, 0, 8)]
theorem gx_far87 {m m' : gx_M} (h : gx_fw gx_far m m') : m' 87 = m 87 := h.row (fun q hq e => by
  rw [gx_far, List.mem_singleton] at hq
  subst hq
  cases e)
theorem gx_farP {m m' : gx_M} (h : gx_fw gx_far m m') {p : Int} : gx_P m' p ↔ gx_P m p := by unfold gx_P; rw [gx_far87 h]
theorem gx_farw {m0 m : gx_M} (h : gx_fw gx_far m0 m) {k : Nat} (hk : k < 8) {v : Int} : gx_fw gx_far m0 (gx_u m 117 k v) := h.w ⟨_, List.mem_singleton.mpr rfl, rfl, Nat.zero_le _, hk⟩
theorem gx_farI {m : gx_M} (hI : gx_I m) {k : Int} (h1 : 0 ≤ k) (h2 : k ≤ 7) {v : Int} (h3 : -2147483648 ≤ v) (h4 : v ≤ 2147483647) : gx_I (gx_u m 117 k.toNat v) := gx_I_w hI 117 (z := k) 0 7 (-2147483648) 2147483647 (by decide +kernel) h1 h2 h3 h4
/-- what one stretch of the rounds takes for granted -/
def gx_fs (m0 : gx_M) (q : Nat) (m : gx_M) : Prop := gx_I m ∧ gx_fw gx_far m0 m ∧ lf_ok (gx_E m0) q (m 117)
theorem gl_far51 {m0 : gx_M} {q n a : Nat} (hn : n < 8) (ha : a < 8) (hQ : ∀ m, gx_fs m0 q m → lf_mid (gx_E m0) q n a 8 (m 117) → gx_to xs w0 (d + 2) yp_m265 42 [(0, .inr 86), (2, .inl (n : Int)), (3, .inl ((a : Int) + 1))] [] m Q) : ∀ (j b : Nat) (m : gx_M), 8 - b = j → b ≤ 8 → gx_fs m0 q m → lf_mid (gx_E m0) q n a b (m 117) → gx_to xs w0 (d + 2) yp_m265 51 [(0, .inr 86), (2, .inl (n : Int)), (3, .inl (a : Int)), (4, .inl (b : Int))] [] m Q := by
  intro j
  induction j with
  | zero =>
    intro b m hj hb hs hm
    have e : b = 8 := by omega
    subst e
    exact gt265_51 (by omega) (by omega) (by omega) (fun _ => hQ m hs hm) (fun c => by omega)
  | succ j ih =>
    intro b m hj hb hs hm
    obtain ⟨hI, hf, hok⟩ := hs
    have hrec : ∀ m', gx_fs m0 q m' → lf_mid (gx_E m0) q n a (b + 1) (m' 117) → gx_to xs w0 (d + 2) yp_m265 51 [(0, .inr 86), (2, .inl (n : Int)), (3, .inl (a : Int)), (4, .inl ((b : Int) + 1))] [] m' Q := fun m' h1 h2 => by
      have := ih (b + 1) m' (by omega) (by omega) h1 h2
      rw [show ((b + 1 : Nat) : Int) = (b : Int) + 1 by omega] at this
      exact this
    have hno : (gx_E m0 a b → 1000000000 ≤ m 117 b) → gx_to xs w0 (d + 2) yp_m265 51 [(0, .inr 86), (2, .inl (n : Int)), (3, .inl (a : Int)), (4, .inl ((b : Int) + 1))] [] m Q := fun h => hrec m ⟨hI, hf, hok⟩ (lf_no_mid (by omega) (by omega) h hm)
    refine gt265_51 (by omega) (by omega) (by omega) (fun c => by omega) (fun c => gc_isPerson hI
      (fun pa => gt265_63 (by omega) (by omega) (by omega) (fun e => by omega) (fun _ => gc_isPerson hI
        (fun pb => gt265_72 (by omega) (by omega) (by omega) (fun e => by omega) (fun _ c' => hno (fun _ => c')) (fun _ c' => gc_Lk hI
          (fun lk => gt265_95 (by omega) (by omega) (by omega) (fun e => by omega) (fun _ => ?_))
          (fun lk => gt265_95 (by omega) (by omega) (by omega) (fun _ => hno (fun hE => absurd (by rw [gx_far87 hf]; exact hE.2.2) lk)) (fun e => absurd rfl e))))
        (fun pb => gt265_72 (by omega) (by omega) (by omega) (fun _ => hno (fun hE => absurd ((gx_farP hf).mpr hE.2.1) pb)) (fun e => absurd rfl e) (fun e => absurd rfl e))))
      (fun pa => gt265_63 (by omega) (by omega) (by omega) (fun _ => hno (fun hE => absurd ((gx_farP hf).mpr hE.1) pa)) (fun e => absurd rfl e)))
    rw [Int.toNat_natCast] at c'
    rw [Int.toNat_natCast, Int.toNat_natCast]
    have hb0 := hok.1 b (by omega)
    have ha0 := hok.1 a ha
    rw [gx_w_id (by omega) (by omega)]
    have hE : gx_E m0 a b := ⟨(gx_farP hf).mp pa, (gx_farP hf).mp pb, by rw [gx_far87 hf] at lk; exact lk⟩
    have hgo : ∀ v, v = lf_min (m 117 a) (m 117 b + 1) → gx_to xs w0 (d + 2) yp_m265 121 [(0, .inr 86), (2, .inl (n : Int)), (3, .inl (a : Int)), (4, .inl (b : Int))] [.inl v, .inl (a : Int), .inr 117] m Q := fun v hv => by
      have hvb : 0 ≤ v ∧ v ≤ 1000000000 := by rw [hv]; unfold lf_min; split <;> omega
      refine gt265_121 (by omega) (by omega) (by omega) (by omega) (hrec _ ⟨gx_farI hI (by omega) (by omega) (by omega) (by omega), ?_, ?_⟩ ?_)
      · rw [Int.toNat_natCast]
        exact gx_farw hf ha
      · rw [Int.toNat_natCast, gx_u_row, hv]
        exact lf_st_ok hok ha (by omega) hE c'
      · rw [Int.toNat_natCast, gx_u_row, hv]
        exact lf_st_mid (by omega) (by omega) hm
    exact gt199_0 (fun c1 => hgo _ (by unfold lf_min; rw [if_neg (by omega)])) (fun c1 => hgo _ (by unfold lf_min; rw [if_pos c1]))
theorem gl_far42 {m0 : gx_M} {q n : Nat} (hn : n < 8) (hQ : ∀ m, gx_fs m0 q m → lf_lo (gx_E m0) q (n + 1) (m 117) → gx_to xs w0 (d + 2) yp_m265 34 [(0, .inr 86), (2, .inl ((n : Int) + 1))] [] m Q) : ∀ (j a : Nat) (m : gx_M), 8 - a = j → a ≤ 8 → gx_fs m0 q m → lf_mid (gx_E m0) q n a 0 (m 117) → gx_to xs w0 (d + 2) yp_m265 42 [(0, .inr 86), (2, .inl (n : Int)), (3, .inl (a : Int))] [] m Q := by
  intro j
  induction j with
  | zero =>
    intro a m hj ha hs hm
    have e : a = 8 := by omega
    subst e
    exact gt265_42 (by omega) (by omega) (fun _ => hQ m hs (lf_nx_lo hm)) (fun c => by omega)
  | succ j ih =>
    intro a m hj ha hs hm
    refine gt265_42 (by omega) (by omega) (fun c => by omega) (fun _ => gl_far51 hn (by omega) (fun m' h1 h2 => ?_) 8 0 m rfl (by omega) hs hm)
    have := ih (a + 1) m' (by omega) (by omega) h1 (lf_nx_mid h1.2.2 h2)
    rw [show ((a + 1 : Nat) : Int) = (a : Int) + 1 by omega] at this
    exact this
theorem gl_far34 {m0 : gx_M} {q : Nat} (hQ : ∀ m, gx_fs m0 q m → lf_lo (gx_E m0) q 8 (m 117) → Q none m) : ∀ (j n : Nat) (m : gx_M), 8 - n = j → n ≤ 8 → gx_fs m0 q m → lf_lo (gx_E m0) q n (m 117) → gx_to xs w0 (d + 2) yp_m265 34 [(0, .inr 86), (2, .inl (n : Int))] [] m Q := by
  intro j
  induction j with
  | zero =>
    intro n m hj hn hs hm
    have e : n = 8 := by omega
    subst e
    exact gt265_34 (by omega) (fun _ => hQ m hs hm) (fun c => by omega)
  | succ j ih =>
    intro n m hj hn hs hm
    refine gt265_34 (by omega) (fun c => by omega) (fun _ => gl_far42 (by omega) (fun m' h1 h2 => ?_) 8 0 m rfl (by omega) hs (lf_mid0 hm))
    have := ih (n + 1) m' (by omega) (by omega) h1 h2
    rw [show ((n + 1 : Nat) : Int) = (n : Int) + 1 by omega] at this
    exact this
theorem lf_ini {E : Nat → Nat → Prop} {q : Nat} (hq : q < 8) {f : Nat → Int} (h : ∀ k, k < 8 → f k = if k = q then 0 else 1000000000) : lf_ok E q f ∧ lf_lo E q 0 f := by
  have h0 : f q = 0 := by rw [h q hq, if_pos rfl]
  have h1 : lf_1 f q = 1 := if_pos (by omega)
  have hc : 1 ≤ lf_c f := by
    have g0 := lf_1_bd f 0; have g1 := lf_1_bd f 1; have g2 := lf_1_bd f 2; have g3 := lf_1_bd f 3
    have g4 := lf_1_bd f 4; have g5 := lf_1_bd f 5; have g6 := lf_1_bd f 6; have g7 := lf_1_bd f 7
    have : q = 0 ∨ q = 1 ∨ q = 2 ∨ q = 3 ∨ q = 4 ∨ q = 5 ∨ q = 6 ∨ q = 7 := by omega
    unfold lf_c
    rcases this with rfl | rfl | rfl | rfl | rfl | rfl | rfl | rfl <;> omega
  refine ⟨⟨fun p hp => by rw [h p hp]; split <;> omega, h0, fun p hp hlt => ?_⟩, fun a ha k hk hw => ?_⟩
  · rw [h p hp] at hlt ⊢
    by_cases e : p = q
    · rw [if_pos e]
      exact ⟨e, by omega⟩
    · rw [if_neg e] at hlt
      omega
  · have e : k = 0 := by omega
    subst e
    have e : a = q := hw
    rw [e, h0]
    exact Int.le_refl _
theorem gl_far2 {m0 : gx_M} {q : Nat} (hq : q < 8) (hQ : ∀ m, gx_fs m0 q m → lf_lo (gx_E m0) q 8 (m 117) → Q none m) : ∀ (j i : Nat) (m : gx_M), 8 - i = j → i ≤ 8 → gx_I m → gx_fw gx_far m0 m → (∀ k, k < i → m 117 k = if k = q then 0 else 1000000000) → gx_to xs w0 (d + 2) yp_m265 2 [(0, .inr 86), (1, .inl (q : Int)), (2, .inl (i : Int))] [] m Q := by
  intro j
  induction j with
  | zero =>
    intro i m hj hi hI hf hk
    have e : i = 8 := by omega
    subst e
    obtain ⟨g1, g2⟩ := lf_ini (E := gx_E m0) hq hk
    exact gt265_2 (by omega) (fun _ => gl_far34 hQ 8 0 m rfl (by omega) ⟨hI, hf, g1⟩ g2) (fun c => by omega) (fun c => by omega)
  | succ j ih =>
    intro i m hj hi hI hf hk
    have hgo : ∀ v : Int, v = (if i = q then 0 else 1000000000) → gx_to xs w0 (d + 2) yp_m265 2 [(0, .inr 86), (1, .inl (q : Int)), (2, .inl ((i : Int) + 1))] [] (gx_u m 117 ((i : Int)).toNat v) Q := fun v hv => by
      have hvb : 0 ≤ v ∧ v ≤ 1000000000 := by rw [hv]; split <;> omega
      have := ih (i + 1) (gx_u m 117 ((i : Int)).toNat v) (by omega) (by omega) (gx_farI hI (by omega) (by omega) (by omega) (by omega)) (by rw [Int.toNat_natCast]; exact gx_farw hf (by omega)) (fun k hk' => by
        rw [Int.toNat_natCast, gx_u_row]
        unfold lf_up
        by_cases e : k = i
        · rw [if_pos e, hv, e]
        · rw [if_neg e]
          exact hk k (by omega))
      rw [show ((i + 1 : Nat) : Int) = (i : Int) + 1 by omega] at this
      exact this
    exact gt265_2 (by omega) (fun c => by omega) (fun c c' => hgo _ (by rw [if_neg (by omega)])) (fun c c' => hgo _ (by rw [if_pos (by omega)]))
theorem gc_far {q : Nat} (hq : q < 8) (hI : gx_I m) (hQ : ∀ m', gx_fs m q m' → lf_lo (gx_E m) q 8 (m' 117) → Q none m') : gx_to xs w0 (d + 2) yp_m265 0 [(0, .inr 86), (1, .inl (q : Int))] [] m Q :=
  gt265_0 (gl_far2 hq hQ 8 0 m rfl (by omega) hI gx_fw.rf (fun k h => absurd h (Nat.not_lt_zero _)))
end GLK
