/-! linked, 2 -/
section GLN
variable {xs : List Int32} {gX : gx_M → Prop} {w0 : sx_W} {d : Nat} {Q : gx_Q} {m : gx_M}
theorem gl_lk84 {m0 : gx_M} {q at0 b k : Nat} {what : Int} (hs : gx_fs m0 q m) (ha : at0 < 8) (hk : k < 8) (hb : b < 8) (hE : gx_E m0 at0 b) (hfb : m 117 b = m 117 at0 - 1) (hQ : ∀ a, a < 8 → m 117 a = m 117 at0 - 1 → gx_to xs w0 (d + 2) yp_m264 75 [(0, .inr 86), (3, .inl what), (4, .inl (a : Int)), (5, .inl ((k : Int) + 1))] [] m Q) : ∀ (j nx : Nat), b - nx = j → nx ≤ b → gx_to xs w0 (d + 2) yp_m264 84 [(0, .inr 86), (3, .inl what), (4, .inl (at0 : Int)), (5, .inl (k : Int)), (6, .inl (nx : Int))] [] m Q := by
  obtain ⟨hI, hf, hok⟩ := hs
  have hr := hok.1 at0 ha
  have hw : gx_w (m 117 at0 - 1) = m 117 at0 - 1 := gx_w_id (by omega) (by omega)
  intro j
  induction j with
  | zero =>
    intro nx hj hle
    have e : nx = b := by omega
    subst e
    refine gt264_84 (by omega) (by omega) (by omega) (fun c => ?_) (fun c => gc_Lk hI
      (fun lk => gt264_111 (by omega) (by omega) (by omega) (fun _ => hQ nx hb hfb) (fun e => by omega))
      (fun lk => absurd (by rw [gx_far87 hf]; exact hE.2.2) lk))
    rw [Int.toNat_natCast, Int.toNat_natCast, hw] at c
    exact absurd hfb c
  | succ j ih =>
    intro nx hj hle
    have hrec : gx_to xs w0 (d + 2) yp_m264 84 [(0, .inr 86), (3, .inl what), (4, .inl (at0 : Int)), (5, .inl (k : Int)), (6, .inl ((nx : Int) + 1))] [] m Q := by
      have := ih (nx + 1) (by omega) (by omega)
      rw [show ((nx + 1 : Nat) : Int) = (nx : Int) + 1 by omega] at this
      exact this
    refine gt264_84 (by omega) (by omega) (by omega) (fun _ => hrec) (fun c => ?_)
    rw [Int.toNat_natCast, Int.toNat_natCast, hw] at c
    exact gc_Lk hI (fun lk => gt264_111 (by omega) (by omega) (by omega) (fun _ => hQ nx (by omega) c) (fun e => by omega))
      (fun lk => gt264_111 (by omega) (by omega) (by omega) (fun e => absurd rfl e) (fun _ => hrec))
theorem gl_lk75 {m0 : gx_M} {q p : Nat} {what : Int} (hs : gx_fs m0 q m) (hlo : lf_lo (gx_E m0) q 8 (m 117)) (hp : p < 8) (h1 : m 117 p < 1000000000) (hw0 : 0 ≤ what) (hw : what ≤ m 117 p) (hQ : ∀ v, Q (some v) m) : ∀ (j k a : Nat), what - k = j → a < 8 → m 117 a = m 117 p - k → gx_to xs w0 (d + 2) yp_m264 75 [(0, .inr 86), (3, .inl what), (4, .inl (a : Int)), (5, .inl (k : Int))] [] m Q := by
  have hc := lf_c_bd (m 117)
  have h7 := (hs.2.2.2.2 p hp h1).2
  intro j
  induction j with
  | zero => exact fun k a hj ha he => gt264_75 (by omega) (fun _ => hQ _) (fun c => by omega)
  | succ j ih =>
    intro k a hj ha he
    refine gt264_75 (by omega) (fun c => by omega) (fun c => ?_)
    obtain ⟨b, hb, hE, hfb⟩ := lf_near hs.2.2 hlo ha (by omega) (by omega)
    refine gl_lk84 hs ha (by omega) hb hE hfb (fun a' ha' he' => ?_) b 0 rfl (Nat.zero_le _)
    have := ih (k + 1) a' (by omega) ha' (by omega)
    rw [show ((k + 1 : Nat) : Int) = (k : Int) + 1 by omega] at this
    exact this
theorem gc_linked (hI : gx_I m) {p q what : Int} (hQ : ∀ v m', gx_I m' → gx_fw gx_far m m' → Q (some v) m') : gx_to xs w0 (d + 3) yp_m264 0 [(0, .inr 86), (1, .inl p), (2, .inl q), (3, .inl what)] [] m Q := by
  refine gt264_0 (gc_isPerson hI (fun pp => gt264_5 (fun e => by omega) (fun _ => gc_isPerson hI
    (fun pq => gt264_13 (fun e => by omega) (fun _ c => ?_) (fun _ _ => hQ _ m hI gx_fw.rf))
    (fun _ => gt264_13 (fun _ => hQ _ m hI gx_fw.rf) (fun e => absurd rfl e) (fun e => absurd rfl e))))
    (fun _ => gt264_5 (fun _ => hQ _ m hI gx_fw.rf) (fun e => absurd rfl e)))
  obtain ⟨p0, rfl⟩ : ∃ n : Nat, p = (n : Int) := ⟨p.toNat, by have := pp.1; omega⟩
  obtain ⟨q0, rfl⟩ : ∃ n : Nat, q = (n : Int) := ⟨q.toNat, by have := pq.1; omega⟩
  have hp8 := pp.2.1
  have hq8 := pq.2.1
  refine gc_far (by omega) hI (fun m' hs hlo => gt264_29 (by omega) (fun c1 c2 c3 => ?_) (fun _ _ _ => hQ _ m' hs.1 hs.2.1) (fun _ _ => hQ _ m' hs.1 hs.2.1) (fun _ => hQ _ m' hs.1 hs.2.1))
  rw [Int.toNat_natCast] at c1 c3
  have hr := hs.2.2.1 p0 (by omega)
  exact gl_lk75 hs hlo (by omega) (by omega) (by omega) c3 (fun v => hQ v m' hs.1 hs.2.1) what.toNat 0 p0 (by omega) (by omega) (by omega)
theorem gk_linked (hc : gx_Xc gX) : bx_Kok yp_P xs bw_INV (gx_XW gX) bk_55 := by
  refine gx_K_of (by decide) rfl (fun M w0 v m hM hv hI hX _ => ?_)
  cases (Option.some.inj (hM.symm.trans rfl) : M = yp_m264)
  match v, hv with
  | x1 :: x2 :: x3 :: r, hv =>
    exact gc_linked (d := 3) hI (fun v m' hI' hf hb => ⟨⟨rfl, hb v rfl⟩, hI', hc.fw hf (by decide) hX, hf⟩)
end GLN
