/-! the facts laid out by the reference -/
def fct (s : Nat → Int) (y : Nat) (p z : Int) (k : Nat) : Int := if k = 0 then s 1129 else if k = 1 then (y : Int) else if k = 2 then s y else if k = 3 then s (40 + y) else if k = 4 then s (240 + y) else if k = 5 then ((hpop 20 (s (80 + y)).toNat : Nat) : Int) else if k = 6 then ((hpop 20 (s (120 + y)).toNat : Nat) : Int) else if k = 7 then s (160 + y) else if k = 8 then s (400 + y) else if k = 9 then p else if k = 10 then ((hcnt (aOwn s p) 40 : Nat) : Int) else if k = 11 then s (1120 + p.toNat) else if k = 12 then ((hpop 20 (gx_and (s (80 + y)) (hOr (aKn s p y) (fun j => s (80 + j)) 40)).toNat : Nat) : Int) else z
section FE
variable {xs : List Int32} {n : Nat} {Q : hQ} {m : gx_M} {p z : Int}
theorem hs203 (hp : 0 ≤ p ∧ p < 8) (hT : ∀ y, y < 40 → m 87 (440 + y) = 0 ∨ m 87 (440 + y) = 1) (h : ∀ m', (∀ c, c ≠ 103 → m' c = m c) → m' 103 0 = m 87 1129 → m' 103 9 = p → m' 103 10 = ((hcnt (aOwn (m 87) p) 40 : Nat) : Int) → m' 103 11 = m 87 (1120 + p.toNat) → Q none m') : hxn xs n yp_m203 0 [(0, .inr (.inl 86)), (1, .inl p)] [] m Q := by
  have hl : ∀ d k : Nat, k + d = 14 → ∀ m1 : gx_M, (∀ c, c ≠ 103 → m1 c = m c) → hxn xs n yp_m203 2 [(0, .inr (.inl 86)), (1, .inl p), (2, .inl (k : Int))] [] m1 Q := by
    intro d
    induction d with
    | zero =>
      intro k hk m1 hm
      have e : k = 14 := by omega
      subst e
      refine hx_dn (hr203_2 (fun _ => ?_) (fun c => absurd c (by omega)))
      have e87 : (gx_u (gx_u m1 103 0 (m1 87 1129)) 103 9 p) 87 = m 87 := by
        rw [gx_u_off (by decide), gx_u_off (by decide)]
        exact hm 87 (by decide)
      refine hs204 (by rw [e87]; exact hT) ?_
      rw [e87]
      show hxn xs n yp_m203 54 _ [.inl _, .inl 10, .inr (.inl 103)] _ Q
      refine hx_dn (hr203_54 ?_)
      have e2 : (gx_w (1120 + p)).toNat = 1120 + p.toNat := by
        rw [gx_w_id (by omega) (by omega)]
        omega
      rw [e87, e2]
      refine h _ (fun c hc => ?_) ?_ ?_ ?_ ?_
      · rw [gx_u_off hc, gx_u_off hc, gx_u_off hc, gx_u_off hc]
        exact hm c hc
      · rw [gx_u_ne (by decide), gx_u_ne (by decide), gx_u_ne (by decide), gx_u_self, hm 87 (by decide)]
      · rw [gx_u_ne (by decide), gx_u_ne (by decide), gx_u_self]
      · rw [gx_u_ne (by decide)]
        exact gx_u_self
      · exact gx_u_self
    | succ d ih =>
      intro k hk m1 hm
      refine hx_dn (hr203_2 (fun c => absurd c (by omega)) (fun _ => ?_))
      rw [ew_u (by omega)]
      exact ih (k + 1) (by omega) _ (fun c hc => by rw [gx_u_off hc]; exact hm c hc)
  exact hx_dn (hr203_0 (hl 14 0 rfl m (fun _ _ => rfl)))
theorem hs202 {y : Nat} (hy : y < 40) (hp : 0 ≤ p ∧ p < 8) (hT : ∀ y, y < 40 → m 87 (440 + y) = 0 ∨ m 87 (440 + y) = 1) (hs : ∀ j, j < 40 → 0 ≤ m 87 (80 + j) ∧ m 87 (80 + j) ≤ 4095) (hme : ∀ j, j < 40 → 0 ≤ m 87 (120 + j) ∧ m 87 (120 + j) ≤ 255) (h : ∀ m', (∀ c, c ≠ 103 → m' c = m c) → (∀ k, k < 14 → m' 103 k = fct (m 87) y p z k) → Q none m') : hxn xs n yp_m202 0 [(0, .inr (.inl 86)), (1, .inl (y : Int)), (2, .inl p), (3, .inl z)] [] m Q := by
  have w : ∀ k : Nat, k < 2000 → (gx_w ((k : Int) + (y : Int))).toNat = k + y := fun k hk => by
    rw [gx_w_id (by omega) (by omega)]
    omega
  have w00 : (gx_w (y : Int)).toNat = y := by
    rw [gx_w_id (by omega) (by omega), Int.toNat_natCast]
  refine hx_dn (hr202_0 ?_)
  refine hs203 hp hT (fun m1 g0 g1 g2 g3 g4 => ?_)
  have e1 : m1 87 = m 87 := g0 87 (by decide)
  show hxn xs n yp_m202 5 _ [] m1 Q
  refine hx_dn (hr202_5 ?_)
  have w80 : (gx_w (80 + (y : Int))).toNat = 80 + y := w 80 (by omega)
  have w120 : (gx_w (120 + (y : Int))).toNat = 120 + y := w 120 (by omega)
  have w0 : (gx_w (0 + (y : Int))).toNat = 0 + y := w 0 (by omega)
  have w40 : (gx_w (40 + (y : Int))).toNat = 40 + y := w 40 (by omega)
  have w240 : (gx_w (240 + (y : Int))).toNat = 240 + y := w 240 (by omega)
  have w160 : (gx_w (160 + (y : Int))).toNat = 160 + y := w 160 (by omega)
  have w400 : (gx_w (400 + (y : Int))).toNat = 400 + y := w 400 (by omega)
  have hs1 := hs y hy
  have hs2 := hme y hy
  obtain ⟨X, hX⟩ : ∃ X : Nat, m 87 (80 + y) = (X : Int) := ⟨(m 87 (80 + y)).toNat, by omega⟩
  obtain ⟨Y, hY⟩ : ∃ Y : Nat, m 87 (120 + y) = (Y : Int) := ⟨(m 87 (120 + y)).toNat, by omega⟩
  obtain ⟨O, hO, hO2⟩ := hOr_bd (f := aKn (m 87) p y) (v := fun j => m 87 (80 + j)) 40 hs
  rw [e1, w80, hX]
  refine hs206 (by omega) ?_
  show hxn xs n yp_m202 74 _ [.inl ((hpop 20 X : Nat) : Int), .inl 5, .inr (.inl 103)] _ Q
  refine hx_dn (hr202_74 ?_)
  rw [gx_u_off (by decide), gx_u_off (by decide), gx_u_off (by decide), gx_u_off (by decide), e1, w120, hY]
  refine hs206 (by omega) ?_
  show hxn xs n yp_m202 93 _ [.inl ((hpop 20 Y : Nat) : Int), .inl 6, .inr (.inl 103)] _ Q
  refine hx_dn (hr202_93 ?_)
  generalize hM : gx_u (gx_u (gx_u _ 103 _ _) 103 7 _) 103 8 _ = M
  have eM : M 87 = m 87 := by
    rw [← hM]
    rw [gx_u_off (by decide), gx_u_off (by decide), gx_u_off (by decide), gx_u_off (by decide), gx_u_off (by decide), gx_u_off (by decide), gx_u_off (by decide), gx_u_off (by decide)]
    exact e1
  refine hs207 (by rw [eM]; exact hT) ?_
  rw [eM, hO]
  show hxn xs n yp_m202 149 _ [.inl _, .inl _, .inl 12, .inr (.inl 103)] M Q
  refine hx_dn (hr202_149 ?_)
  have hlt : X &&& O < 2 ^ 31 := Nat.lt_of_le_of_lt Nat.and_le_left (by omega)
  rw [gx_u_off (by decide), gx_u_off (by decide), gx_u_off (by decide), gx_u_off (by decide), gx_u_off (by decide), e1, w80, hX, hand_nat (by omega) (by omega)]
  refine hs206 hlt ?_
  show hxn xs n yp_m202 153 _ [.inl ((hpop 20 (X &&& O) : Nat) : Int), .inl 12, .inr (.inl 103)] M Q
  refine hx_dn (hr202_153 ?_)
  refine h _ (fun c hc => ?_) (fun k hk => ?_)
  · rw [gx_u_off hc, gx_u_off hc, ← hM]
    rw [gx_u_off hc, gx_u_off hc, gx_u_off hc, gx_u_off hc, gx_u_off hc, gx_u_off hc, gx_u_off hc, gx_u_off hc]
    exact g0 c hc
  · have hz : gx_and (X : Int) (O : Int) = ((X &&& O : Nat) : Int) := hand_nat (by omega) (by omega)
    rw [← hM]
    have hk' : k = 0 ∨ k = 1 ∨ k = 2 ∨ k = 3 ∨ k = 4 ∨ k = 5 ∨ k = 6 ∨ k = 7 ∨ k = 8 ∨ k = 9 ∨ k = 10 ∨ k = 11 ∨ k = 12 ∨ k = 13 := by omega
    rcases hk' with e | e | e | e | e | e | e | e | e | e | e | e | e | e <;> subst e <;> simp [gx_u, fct, g1, g2, g3, g4, e1, w00, w0, w40, w160, w240, w400, hX, hY, hO, hz]
end FE
