/-! share -/
theorem gx_end_i {a : ax_V} {r : Option Int} (h : gx_end (some a) r) : ∃ x, r = some x ∧ a.2.1 ≤ x ∧ x ≤ a.2.2 := by
  cases r with
  | none => exact h.elim
  | some x => exact ⟨x, rfl, h.2.1, h.2.2⟩
theorem gx_end_0 {r : Option Int} (h : gx_end none r) : r = none := by
  cases r with
  | none => rfl
  | some x => exact h.elim
section GSH
variable {xs : List Int32} {gX : gx_M → Prop} {w0 : sx_W} {d : Nat} {Q : gx_Q} {m : gx_M}
theorem gc_knownBut (h : bw_H1 xs (gx_XW gX)) (hI : gx_I m) (hX : gX m) {p y : Int} (hp : -2 ≤ p ∧ p ≤ 7) (hy : -1 ≤ y ∧ y ≤ 39) (hQ : ∀ v, Q (some v) m) : gx_to xs w0 (d + 1) yp_m207 0 [(0, .inr 86), (1, .inl p), (2, .inl y)] [] m Q :=
  gx_K (bp_132 h) rfl (by omega) (by decide +kernel) rfl ⟨⟨rfl, rfl⟩, ⟨rfl, hp⟩, ⟨rfl, hy⟩, trivial⟩ hI hX (fun r m' he _ _ hf => by
    obtain ⟨x, rfl, -, -⟩ := gx_end_i he
    rw [hf.nil]
    exact hQ x)
theorem gl_wa (h : bw_H1 xs (gx_XW gX)) (hI : gx_I m) (hX : gX m) {g : Int} (hQ : ∀ v, Q (some v) m) : ∀ (j : Nat) (s p : Int), 0 ≤ p → 8 - p = j → gx_to xs w0 (d + 2) yp_m240 4 [(0, .inr 86), (1, .inl g), (2, .inl s), (3, .inl p)] [] m Q
  | 0, s, p, h1, h2 => gt240_4 (by omega) (fun _ => gc_bits (gt240_39 (hQ _))) (fun c => by omega)
  | j + 1, s, p, h1, h2 => gt240_4 (by omega) (fun _ => gc_bits (gt240_39 (hQ _))) (fun c => gc_has
      (fun _ => gt240_15 (by omega) (fun e => by omega) (fun _ => gc_knownBut h hI hX (by omega) (by omega) (fun v => gt240_25 (by omega) (gl_wa h hI hX hQ j _ (p + 1) (by omega) (by omega)))))
      (fun _ => gt240_15 (by omega) (fun _ => gl_wa h hI hX hQ j _ (p + 1) (by omega) (by omega)) (fun e => by omega)))
theorem gc_wa (h : bw_H1 xs (gx_XW gX)) (hI : gx_I m) (hX : gX m) {g : Int} (hQ : ∀ v, Q (some v) m) : gx_to xs w0 (d + 2) yp_m240 0 [(0, .inr 86), (1, .inl g)] [] m Q := gt240_0 (gl_wa h hI hX hQ 8 0 0 (by omega) (by omega))
theorem gl_share (h : bw_H1 xs (gx_XW gX)) (hI : gx_I m) (hX : gX m) {x1 x2 x3 n : Int} (hn : 1 ≤ n ∧ n ≤ 5) (hQ : ∀ v, Q (some v) m) : ∀ (j : Nat) (s g : Int), 0 ≤ g → 256 - g = j → gx_to xs w0 (d + 3) yp_m238 68 [(0, .inr 86), (1, .inl x1), (2, .inl x2), (3, .inl x3), (4, .inl n), (5, .inl s), (6, .inl g)] [] m Q := by
  have he : ∀ (s : Int), gx_to xs w0 (d + 2) yp_m239 0 [(0, .inl n)] [] m (fun r m' => gx_to xs w0 (d + 3) yp_m238 155 [(3, .inl x3), (4, .inl n), (5, .inl s)] (gx_rs r ++ [.inl s]) m' Q) := fun s =>
    gc_ord5 hn (fun v hv => gt238_155 (gc_gcd hv (fun w hw => gt238_158 (fun _ => gc_ord (by omega) (fun v => gt238_177 hw (hQ _))) (fun _ => hw) (fun _ => hQ _))))
  have hb : ∀ s : Int, 0 ≤ gx_bits 20 s ∧ gx_bits 20 s ≤ 20 := fun s => gx_bits_bd s 20 (by omega)
  intro j
  induction j with
  | zero => exact fun s g h1 h2 => gt238_68 hn (by omega) (fun _ => he s) (fun c => by omega) (fun c => by omega)
  | succ j ih =>
    intro s g h1 h2
    have hs : ∀ s', gx_to xs w0 (d + 3) yp_m238 68 [(0, .inr 86), (1, .inl x1), (2, .inl x2), (3, .inl x3), (4, .inl n), (5, .inl s'), (6, .inl (g + 1))] [] m Q := fun s' => ih s' (g + 1) (by omega) (by omega)
    refine gt238_68 hn (by omega) (fun _ => he s) (fun _ _ => hs s) (fun c _ => gc_has (fun _ => gt238_91 hn (by omega) (fun e => by omega) (fun _ => hs s)) (fun _ => gt238_91 hn (by omega) (fun _ => ?_) (fun e => by omega)))
    have h20 := hb g
    exact gc_bits (gt238_104 hn (by omega) (gc_ord (by omega) (fun v => gt238_107 hn (by omega) (gc_bits (gt238_116 hn (by omega) (by omega) (by omega) (gc_ord (by omega) (fun v' => gt238_120 hn (by omega) (gc_wa h hI hX (fun u => gt238_131 hn (by omega) (gc_wa h hI hX (fun u' => gt238_137 hn (by omega) (hs _))))))))))))
theorem gc_share (h : bw_H1 xs (gx_XW gX)) (hI : gx_I m) (hX : gX m) {x1 x2 x3 : Int} (hQ : ∀ v, Q (some v) m) : gx_to xs w0 (d + 3) yp_m238 0 [(0, .inr 86), (1, .inl x1), (2, .inl x2), (3, .inl x3)] [] m Q :=
  gt238_0 hI (fun _ => hQ _) (fun _ => gc_bits (gt238_19 (gc_in
    (fun b1 b2 => gt238_24 (fun e => by omega) (fun _ => gc_in
      (fun _ _ => gt238_34 (fun e => by omega) (fun _ => gc_has
        (fun _ => gt238_42 (fun e => by omega) (fun _ => gc_in
          (fun _ _ => gt238_51 (fun _ => gc_bits (gt238_60 (gl_share h hI hX ⟨b1, b2⟩ hQ 256 0 0 (by omega) (by omega)))) (fun e => by omega))
          (fun _ => gt238_51 (fun e => absurd rfl e) (fun _ => hQ _))))
        (fun _ => gt238_42 (fun _ => hQ _) (fun e => absurd rfl e))))
      (fun _ => gt238_34 (fun _ => hQ _) (fun e => absurd rfl e))))
    (fun _ => gt238_24 (fun _ => hQ _) (fun e => absurd rfl e)))))
theorem gk_share (h : bw_H1 xs (gx_XW gX)) : bx_Kok yp_P xs bw_INV (gx_XW gX) bk_61 := by
  refine gx_K_of (by decide) rfl (fun M w0 v m hM hv hI hX _ => ?_)
  cases (Option.some.inj (hM.symm.trans rfl) : M = yp_m238)
  match v, hv with
  | x1 :: x2 :: x3 :: r, hv =>
    exact gc_share (d := 5) h hI hX (fun v hb => ⟨⟨rfl, hb v rfl⟩, hI, hX, gx_fw.rf⟩)
end GSH
