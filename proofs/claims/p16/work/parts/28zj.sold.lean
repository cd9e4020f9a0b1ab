/-! sold: it ends with an empty tape -/
section GSF
variable {xs : List Int32} {w0 : sx_W} {d : Nat} {Q : gx_Q} {m : gx_M}
def gx_sdf : bx_M := [(86, 37, 38), (86, 38, 39), (102, 0, 260), (103, 0, 14), (112, 0, 8), (113, 0, 64), (114, 0, 1792)]
def gs_sdf (m0 : gx_M) (n : Nat) (m : gx_M) : Prop := gx_I m ∧ gx_X m ∧ gx_fw gx_sdf m0 m ∧ m 86 37 = n
theorem gs_lay_sdf {m0 m m' : gx_M} {n : Nat} (hs : gs_sdf m0 n m) (h : gs_st m n m') : gs_sdf m0 n m' :=
  ⟨h.1, gx_X_c.fw h.2.1 (by decide) hs.2.1, hs.2.2.1.tr (h.2.1.sub (fun q hq => ⟨q, by
    rw [gx_lay, List.mem_cons, List.mem_singleton] at hq
    rcases hq with rfl | rfl <;> simp [gx_sdf], rfl, Nat.le_refl _, Nat.le_refl _⟩)), h.2.2⟩
theorem gs_feel_sdf {m0 m m' : gx_M} {n : Nat} (hs : gs_sdf m0 n m) (hI : gx_I m') (hX : gx_X m') (h : gx_fw gx_feel m m') : gs_sdf m0 n m' :=
  ⟨hI, hX, hs.2.2.1.tr (h.sub (fun q hq => ⟨q, by
    rw [gx_feel, List.mem_cons, List.mem_singleton] at hq
    rcases hq with rfl | rfl <;> simp [gx_sdf], rfl, Nat.le_refl _, Nat.le_refl _⟩)), by rw [gx_feel_row h (by decide : (86 : Nat) ≠ 102) (by decide)]; exact hs.2.2.2⟩
theorem gs_113_sdf {m0 m : gx_M} {n : Nat} (hs : gs_sdf m0 n m) {z v : Int} (h1 : 0 ≤ z) (h2 : z ≤ 63) (h3 : 0 ≤ v) (h4 : v ≤ 999) : gs_sdf m0 n (gx_u m 113 z.toNat v) :=
  ⟨gx_I_w hs.1 113 (z := z) 0 63 0 999 (by decide +kernel) h1 h2 h3 h4, gx_X_c.fw (mods := [(113, 0, 64)]) (gx_fw.rf.w ⟨_, List.mem_singleton.mpr rfl, rfl, Nat.zero_le _, by show z.toNat < 64; omega⟩) (by decide) hs.2.1, hs.2.2.1.w ⟨(113, 0, 64), by simp [gx_sdf], rfl, Nat.zero_le _, by show z.toNat < 64; omega⟩, by rw [gx_u_off (by decide : (86 : Nat) ≠ 113)]; exact hs.2.2.2⟩
theorem gl_s117f (h : bw_H1 xs (gx_XW gx_X)) {m0 : gx_M} {n : Nat} (hn : 1 ≤ n ∧ n ≤ 6) {people what k : Int} (hk : 0 ≤ k ∧ k ≤ 5) (hQ : ∀ m', gs_sdf m0 n m' → gx_to xs w0 (d + 5) yp_m242 108 [(0, .inr 86), (1, .inl (n : Int)), (2, .inl people), (3, .inl what), (5, .inl (k + 1))] [] m' Q) : ∀ (j : Nat) (p : Int) (m : gx_M), 8 - p = j → 0 ≤ p → gs_sdf m0 n m → gx_to xs w0 (d + 5) yp_m242 117 [(0, .inr 86), (1, .inl (n : Int)), (2, .inl people), (3, .inl what), (5, .inl k), (6, .inl p)] [] m Q := by
  intro j
  induction j with
  | zero => exact fun p m hj h0 hs => gt242_117 (by omega) hk (by omega) (fun _ => hQ m hs) (fun c => by omega)
  | succ j ih =>
    intro p m hj h0 hs
    refine gt242_117 (by omega) hk (by omega) (fun c => by omega) (fun c => gc_has
      (fun _ => gt242_142 hs.1 (by omega) hk (by omega) (by omega) (fun e => by omega) (fun _ => gc_worthOf h hs.1 hs.2.1 ?_ (by omega) (fun v m' v1 v2 g1 g2 g3 => gt242_158 (by omega) hk (by omega) (by omega) (ih (p + 1) _ (by omega) (by omega) (gs_113_sdf (gs_feel_sdf hs g1 g2 g3) (by omega) (by omega) v1 v2)))))
      (fun _ => gt242_142 hs.1 (by omega) hk (by omega) (by omega) (fun _ => ih (p + 1) _ (by omega) (by omega) (gs_113_sdf hs (by omega) (by omega) (by omega) (by omega))) (fun e => absurd rfl e)))
    exact gx_I_at hs.1 112 (z := k) 0 7 0 39 (by decide +kernel) (by omega) (by omega)
theorem gl_s108f (h : bw_H1 xs (gx_XW gx_X)) {m0 : gx_M} {n : Nat} (hn : 1 ≤ n ∧ n ≤ 6) {people what : Int} (hp : -2147483648 ≤ people ∧ people ≤ 2147483647) (hw : what = 10 ∨ (0 ≤ what ∧ what ≤ (n : Int) - 1) ∨ (20 ≤ what ∧ what ≤ 27)) (hQ : ∀ v m', gs_sdf m0 n m' → Q (some v) m') : ∀ (j : Nat) (k : Int) (m : gx_M), n - k = j → 0 ≤ k → gs_sdf m0 n m → gx_to xs w0 (d + 5) yp_m242 108 [(0, .inr 86), (1, .inl (n : Int)), (2, .inl people), (3, .inl what), (5, .inl k)] [] m Q := by
  intro j
  induction j with
  | zero =>
    intro k m hj h0 hs
    refine gt242_108 (by omega) (by omega) (fun _ c => gc_laysSold hn hs.1 hs.2.2.2 hp (fun v m' g1 g2 => gt242_196 (fun c' => ?_) (fun _ => gt242_214 (hQ _ m' (gs_lay_sdf hs g1))))) (fun _ c => ?_) (fun c => by omega)
    · exact gc_gets (d := d + 2) hn g1.1 g2 (by omega) (fun q => gt242_214 (hQ _ m' (gs_lay_sdf hs g1)))
    · rw [gx_w_id (by omega) (by omega)]
      exact gc_pays (d := d + 1) hn hs.1 hs.2.2.2 hp (by omega) (fun v m' g => gt242_190 (hQ _ m' (gs_lay_sdf hs g)))
  | succ j ih =>
    intro k m hj h0 hs
    exact gt242_108 (by omega) (by omega) (fun c => by omega) (fun c => by omega) (fun c => gl_s117f h hn (by omega) (fun m' g => ih (k + 1) m' (by omega) (by omega) g) 8 0 m (by omega) (by omega) hs)
theorem gc_soldf (h : bw_H1 xs (gx_XW gx_X)) (hI : gx_I m) (hX : gx_X m) {n people what : Int} (hn : 1 ≤ n ∧ n ≤ 6) (hp : -2147483648 ≤ people ∧ people ≤ 2147483647) (hQ : ∀ v m', gx_I m' → gx_X m' → gx_fw gx_sdf (gx_u m 86 4 0) m' → Q (some v) m') : gx_to xs w0 (d + 5) yp_m242 20 [(0, .inr 86), (1, .inl n), (2, .inl people), (3, .inl what)] [] m Q := by
  refine gu242_20 hn ?_
  have hI1 : gx_I (gx_u m 86 4 0) := gx_I_w hI 86 (z := 4) 4 4 0 260 (by decide +kernel) (by omega) (by omega) (by omega) (by omega)
  refine gc_tk (d := d + 3) (by omega) hI1 (fun v m2 hv ht => ?_)
  obtain ⟨n0, rfl⟩ : ∃ k : Nat, n = (k : Int) := ⟨n.toNat, by omega⟩
  have hf2 : gx_fw gx_sdf (gx_u m 86 4 0) m2 := (ht.2.1.sub (fun q hq => ⟨q, by
    rw [gx_tk, List.mem_cons, List.mem_singleton] at hq
    rcases hq with rfl | rfl <;> simp [gx_sdf], rfl, Nat.le_refl _, Nat.le_refl _⟩))
  have hX1 : gx_X (gx_u m 86 4 0) := gx_X_c.fw (mods := [(86, 4, 5)]) (gx_fw.rf.w ⟨_, List.mem_singleton.mpr rfl, rfl, by decide, by decide⟩) (by decide) hX
  have hs : gs_sdf (gx_u m 86 4 0) n0 m2 := ⟨ht.1, gx_X_c.fw hf2 (by decide) hX1, hf2, ht.2.2⟩
  have hno2 : ∀ v, Q (some v) m2 := fun v => hQ v m2 hs.1 hs.2.1 hs.2.2.1
  have hgo : what = 10 ∨ (0 ≤ what ∧ what ≤ (n0 : Int) - 1) ∨ (20 ≤ what ∧ what ≤ 27) → gx_to xs w0 (d + 5) yp_m242 108 [(0, .inr 86), (1, .inl (n0 : Int)), (2, .inl people), (3, .inl what), (5, .inl 0)] [] m2 Q := fun hw => gl_s108f h (by omega) hp hw (fun v m' g => hQ v m' g.1 g.2.1 g.2.2.1) n0 0 m2 (by omega) (by omega) hs
  refine gt242_30 ht.1 (by omega) (fun _ _ _ => hno2 _) (fun _ e _ => hgo (.inl e)) (fun _ _ => gc_in
    (fun a b => gt242_50 ht.1 (by omega) (fun _ _ => hno2 _) (fun _ _ => hgo (.inr (.inl ⟨a, b⟩))) (fun e => by omega))
    (fun _ => gt242_50 ht.1 (by omega) (fun e => absurd rfl e) (fun e => absurd rfl e) (fun _ => gc_in
      (fun a b => gt242_61 ht.1 (fun e => by omega) (fun e => by omega) (fun _ => gc_has
        (fun _ => gt242_72 ht.1 (fun e => by omega) (fun e => by omega) (fun _ _ => hno2 _) (fun _ _ => hgo (.inr (.inr ⟨a, b⟩))))
        (fun _ => gt242_72 ht.1 (fun _ _ => hno2 _) (fun _ _ => hno2 _) (fun e => absurd rfl e) (fun e => absurd rfl e))))
      (fun _ => gt242_61 ht.1 (fun _ _ => hno2 _) (fun _ _ => hno2 _) (fun e => absurd rfl e))))) (fun _ => hno2 _)
theorem gk_fsold (h : bw_H1 xs (gx_XW gx_X)) : bx_Kok yp_P xs bw_INV (gx_XW gx_X) bf_sold := by
  refine gx_K_ofq (by decide +kernel) (by decide) rfl (fun M w0 v m hM hv hI hX _ => ?_)
  cases (Option.some.inj (hM.symm.trans rfl) : M = yp_m242)
  match v, hv with
  | x1 :: x2 :: x3 :: r, hv =>
    refine gc_soldf (d := 3) h hI hX (by have : 1 ≤ x1 ∧ x1 ≤ 6 := hv.1.2; omega) hv.2.1.2 (fun v m' hI' hX' hf hb => ⟨⟨rfl, hb v rfl⟩, hI', hX', ?_, fun q hq => ?_⟩)
    · have h1 : gx_fw gx_sd m (gx_u m 86 4 0) := gx_fw.rf.w ⟨(86, 4, 5), by simp [gx_sd], rfl, Nat.le_refl _, by decide⟩
      exact h1.tr (hf.sub (fun q hq => ⟨q, List.mem_cons_of_mem _ hq, rfl, Nat.le_refl _, Nat.le_refl _⟩))
    · have hq' : q ∈ ([(86, 4, (0, 0, 0))] : bx_Q) := hq
      rw [List.mem_singleton] at hq'
      subst hq'
      have h4 : m' 86 4 = 0 := (hf 86 4 (by decide)).trans gx_u_self
      exact ⟨Int.le_of_eq h4.symm, Int.le_of_eq h4⟩
end GSF
