/-! the state: a row as the reference has it, and a book of the class -/
def sBk (b : Nat) (s : Nat → Int) (m : gx_M) : Prop :=
  (m b 0 = s 1128 ∧ m b 1 = ((hmask (fun y => decide (s (440 + y) = 1)) 40 : Nat) : Int) ∧ m b 2 = ((hmask (fun y => decide (s (160 + y) = 1)) 40 : Nat) : Int) ∧ m b 3 = s 1129 ∧ m b 4 = s 1130) ∧
  (∀ p, p < 8 → m (b + 1) p = s (1120 + p)) ∧
  (∀ y, y < 40 → (m (b + 2) y = s y ∧ m (b + 3) y = s (40 + y) ∧ m (b + 4) y = s (80 + y) ∧ m (b + 5) y = s (120 + y) ∧ m (b + 6) y = s (200 + y)) ∧ m (b + 7) y = s (240 + y) ∧ (s (440 + y) = 1 → m (b + 8) y = s (280 + y)) ∧ m (b + 9) y = s (320 + y) ∧ m (b + 10) y = s (360 + y) ∧ m (b + 11) y = s (400 + y)) ∧
  ∀ k, k < 640 → m (b + 12) k = s (480 + k)
def sYr (s : Nat → Int) (y : Nat) : Prop := (s (440 + y) = 0 ∨ s (440 + y) = 1) ∧ (s (160 + y) = 0 ∨ s (160 + y) = 1) ∧ (0 ≤ s y ∧ s y ≤ 99) ∧ (0 ≤ s (40 + y) ∧ s (40 + y) ≤ 7) ∧ (0 ≤ s (80 + y) ∧ s (80 + y) ≤ 4095) ∧ (0 ≤ s (120 + y) ∧ s (120 + y) ≤ 255) ∧ (0 ≤ s (200 + y) ∧ s (200 + y) ≤ 9) ∧ (0 ≤ s (240 + y) ∧ s (240 + y) ≤ 7) ∧ (s (280 + y) = -2 ∨ (0 ≤ s (280 + y) ∧ s (280 + y) ≤ 7)) ∧ (0 ≤ s (320 + y) ∧ s (320 + y) ≤ 99999) ∧ (0 ≤ s (360 + y) ∧ s (360 + y) ≤ 99999) ∧ (0 ≤ s (400 + y) ∧ s (400 + y) ≤ 16)
def sOK (s : Nat → Int) : Prop := (∀ y, y < 40 → sYr s y) ∧ (∀ k, k < 640 → 0 ≤ s (480 + k) ∧ s (480 + k) ≤ 7) ∧ (∀ p, p < 8 → (0 ≤ s (1120 + p) ∧ s (1120 + p) ≤ 99999) ∧ (gx_and (gx_shr (s 1128) (p : Int)) 1 = 0 → s (1120 + p) = 0)) ∧ (0 ≤ s 1128 ∧ s 1128 ≤ 255) ∧ (0 ≤ s 1130 ∧ s 1130 ≤ 65535)
theorem sBk_c {b : Nat} {s : Nat → Int} {m m' : gx_M} (h : ∀ c, b ≤ c → c ≤ b + 12 → m' c = m c) (hB : sBk b s m) : sBk b s m' := by
  unfold sBk
  rw [h b (by omega) (by omega), h (b + 1) (by omega) (by omega), h (b + 2) (by omega) (by omega), h (b + 3) (by omega) (by omega), h (b + 4) (by omega) (by omega), h (b + 5) (by omega) (by omega), h (b + 6) (by omega) (by omega), h (b + 7) (by omega) (by omega), h (b + 8) (by omega) (by omega), h (b + 9) (by omega) (by omega), h (b + 10) (by omega) (by omega), h (b + 11) (by omega) (by omega), h (b + 12) (by omega) (by omega)]
  exact hB
theorem sBk_s {b : Nat} {s s' : Nat → Int} {m : gx_M} (h : ∀ k, k < 1131 → s' k = s k) (hB : sBk b s m) : sBk b s' m := by
  obtain ⟨⟨a1, a2, a3, a4, a5⟩, h2, h3, h4⟩ := hB
  refine ⟨⟨by rw [h 1128 (by omega)]; exact a1, ?_, ?_, by rw [h 1129 (by omega)]; exact a4, by rw [h 1130 (by omega)]; exact a5⟩, fun p hp => by rw [h (1120 + p) (by omega)]; exact h2 p hp, fun y hy => ?_, fun k hk => by rw [h (480 + k) (by omega)]; exact h4 k hk⟩
  · rw [a2]
    exact congrArg (fun x : Nat => (x : Int)) (hmask_ext 40 (fun j hj => by rw [h (440 + j) (by omega)]))
  · rw [a3]
    exact congrArg (fun x : Nat => (x : Int)) (hmask_ext 40 (fun j hj => by rw [h (160 + j) (by omega)]))
  · rw [h y (by omega), h (40 + y) (by omega), h (80 + y) (by omega), h (120 + y) (by omega), h (200 + y) (by omega), h (240 + y) (by omega), h (280 + y) (by omega), h (320 + y) (by omega), h (360 + y) (by omega), h (400 + y) (by omega), h (440 + y) (by omega)]
    exact h3 y hy
theorem sYr_s {s s' : Nat → Int} {y : Nat} (hy : y < 40) (h : ∀ k, k < 480 → s' k = s k) (hB : sYr s y) : sYr s' y := by
  unfold sYr
  rw [h y (by omega), h (40 + y) (by omega), h (80 + y) (by omega), h (120 + y) (by omega), h (160 + y) (by omega), h (200 + y) (by omega), h (240 + y) (by omega), h (280 + y) (by omega), h (320 + y) (by omega), h (360 + y) (by omega), h (400 + y) (by omega), h (440 + y) (by omega)]
  exact hB
theorem sOK_s {s s' : Nat → Int} (h : ∀ k, k < 1131 → s' k = s k) (hB : sOK s) : sOK s' := by
  obtain ⟨h1, h2, h3, h4, h5⟩ := hB
  refine ⟨fun y hy => sYr_s hy (fun k hk => h k (by omega)) (h1 y hy), fun k hk => by rw [h (480 + k) (by omega)]; exact h2 k hk, fun p hp => by rw [h (1120 + p) (by omega), h 1128 (by omega)]; exact h3 p hp, by rw [h 1128 (by omega)]; exact h4, by rw [h 1130 (by omega)]; exact h5⟩
section SOK
variable {s : Nat → Int} {y : Nat}
theorem sOK.yr (h : sOK s) (hy : y < 40) : sYr s y := h.1 y hy
theorem sOK.there (h : sOK s) : ∀ y, y < 40 → s (440 + y) = 0 ∨ s (440 + y) = 1 := fun y hy => (h.1 y hy).1
theorem sOK.deed (h : sOK s) : ∀ y, y < 40 → s (160 + y) = 0 ∨ s (160 + y) = 1 := fun y hy => (h.1 y hy).2.1
theorem sOK.skl (h : sOK s) : ∀ y, y < 40 → 0 ≤ s (80 + y) ∧ s (80 + y) ≤ 4095 := fun y hy => (h.1 y hy).2.2.2.2.1
theorem sOK.met (h : sOK s) : ∀ y, y < 40 → 0 ≤ s (120 + y) ∧ s (120 + y) ≤ 255 := fun y hy => (h.1 y hy).2.2.2.2.2.1
theorem sOK.own (h : sOK s) : ∀ y, y < 40 → 0 ≤ s (240 + y) ∧ s (240 + y) ≤ 7 := fun y hy => (h.1 y hy).2.2.2.2.2.2.2.1
theorem sOK.hold (h : sOK s) : ∀ y, y < 40 → s (280 + y) = -2 ∨ (0 ≤ s (280 + y) ∧ s (280 + y) ≤ 7) := fun y hy => (h.1 y hy).2.2.2.2.2.2.2.2.1
theorem sOK.lent (h : sOK s) : ∀ y, y < 40 → 0 ≤ s (320 + y) ∧ s (320 + y) ≤ 99999 := fun y hy => (h.1 y hy).2.2.2.2.2.2.2.2.2.1
theorem sOK.due (h : sOK s) : ∀ y, y < 40 → 0 ≤ s (360 + y) ∧ s (360 + y) ≤ 99999 := fun y hy => (h.1 y hy).2.2.2.2.2.2.2.2.2.2.1
theorem sOK.many (h : sOK s) : ∀ y, y < 40 → 0 ≤ s (400 + y) ∧ s (400 + y) ≤ 16 := fun y hy => (h.1 y hy).2.2.2.2.2.2.2.2.2.2.2
theorem sOK.hand (h : sOK s) : ∀ k, k < 640 → 0 ≤ s (480 + k) ∧ s (480 + k) ≤ 7 := h.2.1
theorem sOK.coin (h : sOK s) : ∀ p, p < 8 → 0 ≤ s (1120 + p) ∧ s (1120 + p) ≤ 99999 := fun p hp => (h.2.2.1 p hp).1
end SOK
def fctP (s : Nat → Int) (p : Int) (k : Nat) : Int := if k = 0 then s 1129 else if k = 9 then p else if k = 10 then ((hcnt (aOwn s p) 40 : Nat) : Int) else if k = 11 then s (1120 + p.toNat) else 0
def env1 (s : Nat → Int) (y : Nat) (p z : Int) (c : Int) : Int := fct s y p z (lfa c).toNat
def env0 (s : Nat → Int) (p : Int) (c : Int) : Int := fctP s p (lfa c).toNat
theorem aKn_eq (s : Nat → Int) (p : Int) (y : Nat) (j : Nat) : aKn s p (y : Int) j = (aOwn s p j && !(decide (j = y))) := by
  unfold aKn
  congr 2
  exact decide_eq_decide.mpr ⟨fun e => by omega, fun e => by omega⟩
section SB5
variable {s : Nat → Int} {m : gx_M}
theorem sB5_ppl (h : sBk 5 s m) : m 5 0 = s 1128 := h.1.1
theorem sB5_yrs (h : sBk 5 s m) : m 5 1 = ((hmask (fun y => decide (s (440 + y) = 1)) 40 : Nat) : Int) := h.1.2.1
theorem sB5_dds (h : sBk 5 s m) : m 5 2 = ((hmask (fun y => decide (s (160 + y) = 1)) 40 : Nat) : Int) := h.1.2.2.1
theorem sB5_day (h : sBk 5 s m) : m 5 3 = s 1129 := h.1.2.2.2.1
theorem sB5_lot (h : sBk 5 s m) : m 5 4 = s 1130 := h.1.2.2.2.2
theorem sB5_coin (h : sBk 5 s m) : ∀ p, p < 8 → m 6 p = s (1120 + p) := h.2.1
theorem sB5_date (h : sBk 5 s m) : ∀ y, y < 40 → m 7 y = s y := fun y hy => (h.2.2.1 y hy).1.1
theorem sB5_livr (h : sBk 5 s m) : ∀ y, y < 40 → m 8 y = s (40 + y) := fun y hy => (h.2.2.1 y hy).1.2.1
theorem sB5_skl (h : sBk 5 s m) : ∀ y, y < 40 → m 9 y = s (80 + y) := fun y hy => (h.2.2.1 y hy).1.2.2.1
theorem sB5_met (h : sBk 5 s m) : ∀ y, y < 40 → m 10 y = s (120 + y) := fun y hy => (h.2.2.1 y hy).1.2.2.2.1
theorem sB5_mark (h : sBk 5 s m) : ∀ y, y < 40 → m 11 y = s (200 + y) := fun y hy => (h.2.2.1 y hy).1.2.2.2.2
theorem sB5_own (h : sBk 5 s m) : ∀ y, y < 40 → m 12 y = s (240 + y) := fun y hy => (h.2.2.1 y hy).2.1
theorem sB5_lent (h : sBk 5 s m) : ∀ y, y < 40 → m 14 y = s (320 + y) := fun y hy => (h.2.2.1 y hy).2.2.2.1
theorem sB5_due (h : sBk 5 s m) : ∀ y, y < 40 → m 15 y = s (360 + y) := fun y hy => (h.2.2.1 y hy).2.2.2.2.1
theorem sB5_many (h : sBk 5 s m) : ∀ y, y < 40 → m 16 y = s (400 + y) := fun y hy => (h.2.2.1 y hy).2.2.2.2.2
theorem sB5_hold (h : sBk 5 s m) : ∀ y, y < 40 → s (440 + y) = 1 → m 13 y = s (280 + y) := fun y hy => (h.2.2.1 y hy).2.2.1
theorem sB5_hand (h : sBk 5 s m) : ∀ k, k < 640 → m 17 k = s (480 + k) := h.2.2.2
end SB5
section SB18
variable {s : Nat → Int} {m : gx_M}
theorem sB18_ppl (h : sBk 18 s m) : m 18 0 = s 1128 := h.1.1
theorem sB18_yrs (h : sBk 18 s m) : m 18 1 = ((hmask (fun y => decide (s (440 + y) = 1)) 40 : Nat) : Int) := h.1.2.1
theorem sB18_dds (h : sBk 18 s m) : m 18 2 = ((hmask (fun y => decide (s (160 + y) = 1)) 40 : Nat) : Int) := h.1.2.2.1
theorem sB18_day (h : sBk 18 s m) : m 18 3 = s 1129 := h.1.2.2.2.1
theorem sB18_lot (h : sBk 18 s m) : m 18 4 = s 1130 := h.1.2.2.2.2
theorem sB18_coin (h : sBk 18 s m) : ∀ p, p < 8 → m 19 p = s (1120 + p) := h.2.1
theorem sB18_date (h : sBk 18 s m) : ∀ y, y < 40 → m 20 y = s y := fun y hy => (h.2.2.1 y hy).1.1
theorem sB18_livr (h : sBk 18 s m) : ∀ y, y < 40 → m 21 y = s (40 + y) := fun y hy => (h.2.2.1 y hy).1.2.1
theorem sB18_skl (h : sBk 18 s m) : ∀ y, y < 40 → m 22 y = s (80 + y) := fun y hy => (h.2.2.1 y hy).1.2.2.1
theorem sB18_met (h : sBk 18 s m) : ∀ y, y < 40 → m 23 y = s (120 + y) := fun y hy => (h.2.2.1 y hy).1.2.2.2.1
theorem sB18_mark (h : sBk 18 s m) : ∀ y, y < 40 → m 24 y = s (200 + y) := fun y hy => (h.2.2.1 y hy).1.2.2.2.2
theorem sB18_own (h : sBk 18 s m) : ∀ y, y < 40 → m 25 y = s (240 + y) := fun y hy => (h.2.2.1 y hy).2.1
theorem sB18_lent (h : sBk 18 s m) : ∀ y, y < 40 → m 27 y = s (320 + y) := fun y hy => (h.2.2.1 y hy).2.2.2.1
theorem sB18_due (h : sBk 18 s m) : ∀ y, y < 40 → m 28 y = s (360 + y) := fun y hy => (h.2.2.1 y hy).2.2.2.2.1
theorem sB18_many (h : sBk 18 s m) : ∀ y, y < 40 → m 29 y = s (400 + y) := fun y hy => (h.2.2.1 y hy).2.2.2.2.2
theorem sB18_hold (h : sBk 18 s m) : ∀ y, y < 40 → s (440 + y) = 1 → m 26 y = s (280 + y) := fun y hy => (h.2.2.1 y hy).2.2.1
theorem sB18_hand (h : sBk 18 s m) : ∀ k, k < 640 → m 30 k = s (480 + k) := h.2.2.2
end SB18
section SB31
variable {s : Nat → Int} {m : gx_M}
theorem sB31_ppl (h : sBk 31 s m) : m 31 0 = s 1128 := h.1.1
theorem sB31_yrs (h : sBk 31 s m) : m 31 1 = ((hmask (fun y => decide (s (440 + y) = 1)) 40 : Nat) : Int) := h.1.2.1
theorem sB31_dds (h : sBk 31 s m) : m 31 2 = ((hmask (fun y => decide (s (160 + y) = 1)) 40 : Nat) : Int) := h.1.2.2.1
theorem sB31_day (h : sBk 31 s m) : m 31 3 = s 1129 := h.1.2.2.2.1
theorem sB31_lot (h : sBk 31 s m) : m 31 4 = s 1130 := h.1.2.2.2.2
theorem sB31_coin (h : sBk 31 s m) : ∀ p, p < 8 → m 32 p = s (1120 + p) := h.2.1
theorem sB31_date (h : sBk 31 s m) : ∀ y, y < 40 → m 33 y = s y := fun y hy => (h.2.2.1 y hy).1.1
theorem sB31_livr (h : sBk 31 s m) : ∀ y, y < 40 → m 34 y = s (40 + y) := fun y hy => (h.2.2.1 y hy).1.2.1
theorem sB31_skl (h : sBk 31 s m) : ∀ y, y < 40 → m 35 y = s (80 + y) := fun y hy => (h.2.2.1 y hy).1.2.2.1
theorem sB31_met (h : sBk 31 s m) : ∀ y, y < 40 → m 36 y = s (120 + y) := fun y hy => (h.2.2.1 y hy).1.2.2.2.1
theorem sB31_mark (h : sBk 31 s m) : ∀ y, y < 40 → m 37 y = s (200 + y) := fun y hy => (h.2.2.1 y hy).1.2.2.2.2
theorem sB31_own (h : sBk 31 s m) : ∀ y, y < 40 → m 38 y = s (240 + y) := fun y hy => (h.2.2.1 y hy).2.1
theorem sB31_lent (h : sBk 31 s m) : ∀ y, y < 40 → m 40 y = s (320 + y) := fun y hy => (h.2.2.1 y hy).2.2.2.1
theorem sB31_due (h : sBk 31 s m) : ∀ y, y < 40 → m 41 y = s (360 + y) := fun y hy => (h.2.2.1 y hy).2.2.2.2.1
theorem sB31_many (h : sBk 31 s m) : ∀ y, y < 40 → m 42 y = s (400 + y) := fun y hy => (h.2.2.1 y hy).2.2.2.2.2
theorem sB31_hold (h : sBk 31 s m) : ∀ y, y < 40 → s (440 + y) = 1 → m 39 y = s (280 + y) := fun y hy => (h.2.2.1 y hy).2.2.1
theorem sB31_hand (h : sBk 31 s m) : ∀ k, k < 640 → m 43 k = s (480 + k) := h.2.2.2
end SB31
section LT5
variable {xs : List Int32} {s : Nat → Int} {m0 : gx_M} {y : Nat} {p z : Int}
theorem hs62 {n : Nat} {Q : hQ} {m : gx_M} (hs : sOK s) (hB : sBk 5 s m) (hp : 0 ≤ p ∧ p < 8) (h : Q (some (.inl (s (1120 + p.toNat)))) m) : hxn xs n yp_m62 0 [(0, .inr (.inl 5)), (1, .inl p)] [] m Q := by
  obtain ⟨P, rfl⟩ : ∃ P : Nat, p = (P : Int) := ⟨p.toNat, by omega⟩
  rw [Int.toNat_natCast] at h
  refine hx_dn (hr62_0 (fun c => absurd c (by omega)) (fun _ c => absurd c (by omega)) (fun _ _ c => ?_) (fun _ _ _ => ?_))
  · rw [sB5_ppl hB] at c
    rw [(hs.2.2.1 P (by omega)).2 c] at h
    exact h
  · rw [Int.toNat_natCast, sB5_coin hB P (by omega)]
    exact h
theorem lE5_1 (hs : sOK s) (hB : sBk 5 s m0) (hy : y < 40) (hp : 0 ≤ p ∧ p < 8) (h9 : m0 44 9 = (y : Int)) (h10 : m0 44 10 = p) (h11 : m0 44 11 = z) : lEnvC 5 xs m0 (env1 s y p z) := by
  intro c hc n m Q hm hQ
  have hB' : sBk 5 s m := sBk_c (fun c h1 h2 => hm c (by omega)) hB
  have k9 : m 44 9 = (y : Int) := by rw [hm 44 (by decide)]; exact h9
  have k10 : m 44 10 = p := by rw [hm 44 (by decide)]; exact h10
  have k11 : m 44 11 = z := by rw [hm 44 (by decide)]; exact h11
  have hown : ∀ n Q, Q (some (.inr (.inr ((hmask (aOwn s p) 40 : Nat) : Int)))) m → hxn xs n yp_m60 0 [(0, .inr (.inl 5)), (1, .inl p)] [] m Q := fun n Q h => hs60 (sB5_yrs hB') (sB5_own hB') h
  have hbc : ∀ (X : Int) n Q, 0 ≤ X → X < 65536 → Q (some (.inl ((hpop 20 X.toNat : Nat) : Int))) m → hxn xs n yp_m63 0 [(0, .inl X)] [] m Q := fun X n Q h1 h2 h => by
    obtain ⟨Y, rfl⟩ : ∃ Y : Nat, X = (Y : Int) := ⟨X.toNat, by omega⟩
    exact hs63 (by omega) h
  refine hx_dn (hr59_0 (fun c => ?_) (fun _ c => ?_) (fun _ _ c => ?_) (fun _ _ _ c => ?_) (fun _ _ _ _ c => absurd c (by omega)) (fun _ _ _ _ _ _ c => ?_) (fun _ _ _ _ _ _ _ c => ?_) (fun _ _ _ _ _ _ _ _ c => absurd hc (by rw [c]; unfold isLt; omega)) (fun _ _ _ _ _ _ _ _ _ c => absurd hc (by rw [c]; unfold isLt; omega)) (fun _ _ _ _ _ _ _ _ _ _ c => ?_) (fun _ _ _ _ _ _ _ _ _ _ _ c => absurd hc (by rw [c]; unfold isLt; omega)) (fun _ _ _ _ _ _ _ _ _ _ _ _ c => absurd hc (by rw [c]; unfold isLt; omega)) (fun _ _ _ _ _ _ _ _ _ _ _ _ _ c => ?_) (fun _ _ _ _ _ _ _ _ _ _ _ _ _ _ c => ?_) (fun _ _ _ _ _ _ _ _ _ _ _ _ _ _ _ c => ?_) (fun _ _ _ _ _ _ _ _ _ _ _ _ _ _ _ _ c => absurd hc (by rw [c]; unfold isLt; omega)) (fun _ _ _ _ _ _ _ _ _ _ _ _ _ _ _ _ _ c => ?_) (fun _ _ _ _ _ _ _ _ _ _ _ _ _ _ _ _ _ _ c => absurd hc (by rw [c]; unfold isLt; omega)) (fun _ _ _ _ _ _ _ _ _ _ _ _ _ _ _ _ _ _ _ c => absurd hc (by rw [c]; unfold isLt; omega)) (fun _ _ _ _ _ _ _ _ _ _ _ _ _ _ _ _ _ _ _ _ c => absurd hc (by rw [c]; unfold isLt; omega)) (fun _ _ _ _ _ _ _ _ _ _ _ _ _ _ _ _ _ _ _ _ _ c => ?_) (fun _ _ _ _ _ _ _ _ _ _ _ _ _ _ _ _ _ _ _ _ _ _ c => absurd hc (by rw [c]; unfold isLt; omega)) (fun _ _ _ _ _ _ _ _ _ _ _ _ _ _ _ _ _ _ _ _ _ _ _ c => absurd hc (by rw [c]; unfold isLt; omega)) (fun _ _ _ _ _ _ _ _ _ _ _ _ _ _ _ _ _ _ _ _ _ _ _ _ c => absurd hc (by rw [c]; unfold isLt; omega)) (fun _ _ _ _ _ _ _ _ _ _ _ _ _ _ _ _ _ _ _ _ _ _ _ _ _ c => absurd hc (by rw [c]; unfold isLt; omega)) (fun _ _ _ _ _ _ _ _ _ _ _ _ _ _ _ _ _ _ _ _ _ _ _ _ _ _ c => absurd hc (by rw [c]; unfold isLt; omega)) (fun _ _ _ _ _ _ _ _ _ _ _ _ _ _ _ _ _ _ _ _ _ _ _ _ _ _ _ c => ?_) (fun c0 c1 c2 c3 c4 c5 c6 c7 c8 c9 c10 c11 c12 c13 c14 c15 c16 c17 c18 c19 c20 c21 c22 c23 c24 c25 c26 c27 => ?_) (fun _ _ _ _ _ c => absurd c (by omega)))
  · rw [c] at hQ
    rw [k10]
    refine hown _ _ ?_
    refine hx_dn (hr59_62 (hs61 (Nat.lt_of_lt_of_le (hmask_lt _ 40) (by decide)) ?_))
    rw [hpop_hmask]
    exact hx_dn (hr59_65 hQ)
  · rw [c] at hQ
    rw [k10]
    refine hs62 hs hB' hp ?_
    exact hx_dn (hr59_74 hQ)
  · rw [c] at hQ
    rw [k10]
    exact hQ
  · rw [c] at hQ
    rw [sB5_day hB']
    exact hQ
  · rw [c] at hQ
    rw [k9, Int.toNat_natCast, sB5_date hB' y hy]
    exact hQ
  · rw [c] at hQ
    rw [k9, k10, Int.toNat_natCast, sB5_skl hB' y hy]
    refine hown _ _ ?_
    refine hx_dn (hr59_298 ?_)
    rw [k9, hmask_del hy]
    refine hs64 (v := fun j => s (80 + j)) (sB5_skl hB') ?_
    refine hx_dn (hr59_312 ?_)
    have hx : hOr (fun j => aOwn s p j && !(decide (j = y))) (fun j => s (80 + j)) 40 = hOr (aKn s p y) (fun j => s (80 + j)) 40 := hOr_ext 40 (fun j _ => (aKn_eq s p y j).symm) (fun _ _ => rfl)
    rw [hx]
    obtain ⟨O, hO, hO2⟩ := hOr_bd (f := aKn s p y) (v := fun j => s (80 + j)) 40 hs.skl
    have hsk := hs.skl y hy
    have hb : 0 ≤ gx_and (s (80 + y)) (hOr (aKn s p y) (fun j => s (80 + j)) 40) ∧ gx_and (s (80 + y)) (hOr (aKn s p y) (fun j => s (80 + j)) 40) < 65536 := by
      rw [hO]
      obtain ⟨Y, hY⟩ : ∃ Y : Nat, s (80 + y) = (Y : Int) := ⟨(s (80 + y)).toNat, by omega⟩
      rw [hY, hand_nat (by omega) (by omega)]
      have : Y &&& O ≤ Y := Nat.and_le_left
      omega
    refine hbc _ _ _ hb.1 hb.2 ?_
    exact hx_dn (hr59_316 hQ)
  · rw [c] at hQ
    rw [k9, Int.toNat_natCast, sB5_many hB' y hy]
    exact hQ
  · rw [c] at hQ
    rw [k9, sB5_dds hB', hlushr_nat (hmask_40 _) (by omega)]
    have e2 : hland (((hmask (fun y => decide (s (160 + y) = 1)) 40 / 2 ^ y : Nat)) : Int) 1 = s (160 + y) := by
      have e3 := hland_nat (X := hmask (fun y => decide (s (160 + y) = 1)) 40 / 2 ^ y) (Z := 1) (Nat.lt_of_le_of_lt (Nat.div_le_self _ _) (hmask_40 _)) (by decide)
      have e4 : (((1 : Nat) : Nat) : Int) = 1 := rfl
      rw [e4] at e3
      rw [e3, Nat.and_one_is_mod, hbit_eq, hmask_bit, decide_eq_true hy, Bool.true_and]
      have := hs.deed y hy
      split
      · rename_i q
        rw [decide_eq_true_eq] at q
        exact q.symm
      · rename_i q
        rw [decide_eq_true_eq] at q
        omega
    have := hs.deed y hy
    rw [e2, gx_w_id (by omega) (by omega)]
    exact hQ
  · rw [c] at hQ
    rw [k9, Int.toNat_natCast, sB5_livr hB' y hy]
    exact hQ
  · rw [c] at hQ
    rw [k9, Int.toNat_natCast, sB5_met hB' y hy]
    have := hs.met y hy
    refine hbc _ _ _ (by omega) (by omega) ?_
    exact hx_dn (hr59_256 hQ)
  · rw [c] at hQ
    rw [k9, Int.toNat_natCast, sB5_own hB' y hy]
    exact hQ
  · rw [c] at hQ
    rw [k9, Int.toNat_natCast, sB5_skl hB' y hy]
    have := hs.skl y hy
    refine hbc _ _ _ (by omega) (by omega) ?_
    exact hx_dn (hr59_243 hQ)
  · rw [c] at hQ
    rw [k9]
    exact hQ
  · have e : c = 122 := by
      unfold isLt at hc
      omega
    rw [e] at hQ
    rw [k11]
    exact hQ
theorem lE5_0 (hs : sOK s) (hB : sBk 5 s m0) (hp : 0 ≤ p ∧ p < 8) (h9 : m0 44 9 = -1) (h10 : m0 44 10 = p) : lEnvC 5 xs m0 (env0 s p) := by
  intro c hc n m Q hm hQ
  have hB' : sBk 5 s m := sBk_c (fun c h1 h2 => hm c (by omega)) hB
  have k9 : m 44 9 = -1 := by rw [hm 44 (by decide)]; exact h9
  have k10 : m 44 10 = p := by rw [hm 44 (by decide)]; exact h10
  refine hx_dn (hr59_0 (fun c => ?_) (fun _ c => ?_) (fun _ _ c => ?_) (fun _ _ _ c => ?_) (fun c0 c1 c2 c3 _ => ?_) (fun _ _ _ _ c _ _ => absurd c (by omega)) (fun _ _ _ _ c _ _ _ => absurd c (by omega)) (fun _ _ _ _ c _ _ _ _ => absurd c (by omega)) (fun _ _ _ _ c _ _ _ _ _ => absurd c (by omega)) (fun _ _ _ _ c _ _ _ _ _ _ => absurd c (by omega)) (fun _ _ _ _ c _ _ _ _ _ _ _ => absurd c (by omega)) (fun _ _ _ _ c _ _ _ _ _ _ _ _ => absurd c (by omega)) (fun _ _ _ _ c _ _ _ _ _ _ _ _ _ => absurd c (by omega)) (fun _ _ _ _ c _ _ _ _ _ _ _ _ _ _ => absurd c (by omega)) (fun _ _ _ _ c _ _ _ _ _ _ _ _ _ _ _ => absurd c (by omega)) (fun _ _ _ _ c _ _ _ _ _ _ _ _ _ _ _ _ => absurd c (by omega)) (fun _ _ _ _ c _ _ _ _ _ _ _ _ _ _ _ _ _ => absurd c (by omega)) (fun _ _ _ _ c _ _ _ _ _ _ _ _ _ _ _ _ _ _ => absurd c (by omega)) (fun _ _ _ _ c _ _ _ _ _ _ _ _ _ _ _ _ _ _ _ => absurd c (by omega)) (fun _ _ _ _ c _ _ _ _ _ _ _ _ _ _ _ _ _ _ _ _ => absurd c (by omega)) (fun _ _ _ _ c _ _ _ _ _ _ _ _ _ _ _ _ _ _ _ _ _ => absurd c (by omega)) (fun _ _ _ _ c _ _ _ _ _ _ _ _ _ _ _ _ _ _ _ _ _ _ => absurd c (by omega)) (fun _ _ _ _ c _ _ _ _ _ _ _ _ _ _ _ _ _ _ _ _ _ _ _ => absurd c (by omega)) (fun _ _ _ _ c _ _ _ _ _ _ _ _ _ _ _ _ _ _ _ _ _ _ _ _ => absurd c (by omega)) (fun _ _ _ _ c _ _ _ _ _ _ _ _ _ _ _ _ _ _ _ _ _ _ _ _ _ => absurd c (by omega)) (fun _ _ _ _ c _ _ _ _ _ _ _ _ _ _ _ _ _ _ _ _ _ _ _ _ _ _ => absurd c (by omega)) (fun _ _ _ _ c _ _ _ _ _ _ _ _ _ _ _ _ _ _ _ _ _ _ _ _ _ _ _ => absurd c (by omega)) (fun _ _ _ _ c _ _ _ _ _ _ _ _ _ _ _ _ _ _ _ _ _ _ _ _ _ _ _ => absurd c (by omega)) (fun _ _ _ _ _ c => absurd c (by omega)))
  · rw [c] at hQ
    rw [k10]
    refine hs60 (sB5_yrs hB') (sB5_own hB') ?_
    refine hx_dn (hr59_62 (hs61 (Nat.lt_of_lt_of_le (hmask_lt _ 40) (by decide)) ?_))
    rw [hpop_hmask]
    exact hx_dn (hr59_65 hQ)
  · rw [c] at hQ
    rw [k10]
    refine hs62 hs hB' hp ?_
    exact hx_dn (hr59_74 hQ)
  · rw [c] at hQ
    rw [k10]
    exact hQ
  · rw [c] at hQ
    rw [sB5_day hB']
    exact hQ
  · have e : env0 s p c = 0 := by
      unfold env0 fctP
      unfold isLt at hc
      rcases hc with e | e | e | e | e | e | e | e | e | e | e | e | e | e <;> first | exact absurd e (by assumption) | (rw [e]; rfl)
    rw [e] at hQ
    exact hQ
end LT5
section LT31
variable {xs : List Int32} {s : Nat → Int} {m0 : gx_M} {y : Nat} {p z : Int}
theorem hs31_62 {n : Nat} {Q : hQ} {m : gx_M} (hs : sOK s) (hB : sBk 31 s m) (hp : 0 ≤ p ∧ p < 8) (h : Q (some (.inl (s (1120 + p.toNat)))) m) : hxn xs n yp_m62 0 [(0, .inr (.inl 31)), (1, .inl p)] [] m Q := by
  obtain ⟨P, rfl⟩ : ∃ P : Nat, p = (P : Int) := ⟨p.toNat, by omega⟩
  rw [Int.toNat_natCast] at h
  refine hx_dn (hr31_62_0 (fun c => absurd c (by omega)) (fun _ c => absurd c (by omega)) (fun _ _ c => ?_) (fun _ _ _ => ?_))
  · rw [sB31_ppl hB] at c
    rw [(hs.2.2.1 P (by omega)).2 c] at h
    exact h
  · rw [Int.toNat_natCast, sB31_coin hB P (by omega)]
    exact h
theorem lE31_1 (hs : sOK s) (hB : sBk 31 s m0) (hy : y < 40) (hp : 0 ≤ p ∧ p < 8) (h9 : m0 44 9 = (y : Int)) (h10 : m0 44 10 = p) (h11 : m0 44 11 = z) : lEnvC 31 xs m0 (env1 s y p z) := by
  intro c hc n m Q hm hQ
  have hB' : sBk 31 s m := sBk_c (fun c h1 h2 => hm c (by omega)) hB
  have k9 : m 44 9 = (y : Int) := by rw [hm 44 (by decide)]; exact h9
  have k10 : m 44 10 = p := by rw [hm 44 (by decide)]; exact h10
  have k11 : m 44 11 = z := by rw [hm 44 (by decide)]; exact h11
  have hown : ∀ n Q, Q (some (.inr (.inr ((hmask (aOwn s p) 40 : Nat) : Int)))) m → hxn xs n yp_m60 0 [(0, .inr (.inl 31)), (1, .inl p)] [] m Q := fun n Q h => hs31_60 (sB31_yrs hB') (sB31_own hB') h
  have hbc : ∀ (X : Int) n Q, 0 ≤ X → X < 65536 → Q (some (.inl ((hpop 20 X.toNat : Nat) : Int))) m → hxn xs n yp_m63 0 [(0, .inl X)] [] m Q := fun X n Q h1 h2 h => by
    obtain ⟨Y, rfl⟩ : ∃ Y : Nat, X = (Y : Int) := ⟨X.toNat, by omega⟩
    exact hs63 (by omega) h
  refine hx_dn (hr31_59_0 (fun c => ?_) (fun _ c => ?_) (fun _ _ c => ?_) (fun _ _ _ c => ?_) (fun _ _ _ _ c => absurd c (by omega)) (fun _ _ _ _ _ _ c => ?_) (fun _ _ _ _ _ _ _ c => ?_) (fun _ _ _ _ _ _ _ _ c => absurd hc (by rw [c]; unfold isLt; omega)) (fun _ _ _ _ _ _ _ _ _ c => absurd hc (by rw [c]; unfold isLt; omega)) (fun _ _ _ _ _ _ _ _ _ _ c => ?_) (fun _ _ _ _ _ _ _ _ _ _ _ c => absurd hc (by rw [c]; unfold isLt; omega)) (fun _ _ _ _ _ _ _ _ _ _ _ _ c => absurd hc (by rw [c]; unfold isLt; omega)) (fun _ _ _ _ _ _ _ _ _ _ _ _ _ c => ?_) (fun _ _ _ _ _ _ _ _ _ _ _ _ _ _ c => ?_) (fun _ _ _ _ _ _ _ _ _ _ _ _ _ _ _ c => ?_) (fun _ _ _ _ _ _ _ _ _ _ _ _ _ _ _ _ c => absurd hc (by rw [c]; unfold isLt; omega)) (fun _ _ _ _ _ _ _ _ _ _ _ _ _ _ _ _ _ c => ?_) (fun _ _ _ _ _ _ _ _ _ _ _ _ _ _ _ _ _ _ c => absurd hc (by rw [c]; unfold isLt; omega)) (fun _ _ _ _ _ _ _ _ _ _ _ _ _ _ _ _ _ _ _ c => absurd hc (by rw [c]; unfold isLt; omega)) (fun _ _ _ _ _ _ _ _ _ _ _ _ _ _ _ _ _ _ _ _ c => absurd hc (by rw [c]; unfold isLt; omega)) (fun _ _ _ _ _ _ _ _ _ _ _ _ _ _ _ _ _ _ _ _ _ c => ?_) (fun _ _ _ _ _ _ _ _ _ _ _ _ _ _ _ _ _ _ _ _ _ _ c => absurd hc (by rw [c]; unfold isLt; omega)) (fun _ _ _ _ _ _ _ _ _ _ _ _ _ _ _ _ _ _ _ _ _ _ _ c => absurd hc (by rw [c]; unfold isLt; omega)) (fun _ _ _ _ _ _ _ _ _ _ _ _ _ _ _ _ _ _ _ _ _ _ _ _ c => absurd hc (by rw [c]; unfold isLt; omega)) (fun _ _ _ _ _ _ _ _ _ _ _ _ _ _ _ _ _ _ _ _ _ _ _ _ _ c => absurd hc (by rw [c]; unfold isLt; omega)) (fun _ _ _ _ _ _ _ _ _ _ _ _ _ _ _ _ _ _ _ _ _ _ _ _ _ _ c => absurd hc (by rw [c]; unfold isLt; omega)) (fun _ _ _ _ _ _ _ _ _ _ _ _ _ _ _ _ _ _ _ _ _ _ _ _ _ _ _ c => ?_) (fun c0 c1 c2 c3 c4 c5 c6 c7 c8 c9 c10 c11 c12 c13 c14 c15 c16 c17 c18 c19 c20 c21 c22 c23 c24 c25 c26 c27 => ?_) (fun _ _ _ _ _ c => absurd c (by omega)))
  · rw [c] at hQ
    rw [k10]
    refine hown _ _ ?_
    refine hx_dn (hr31_59_62 (hs61 (Nat.lt_of_lt_of_le (hmask_lt _ 40) (by decide)) ?_))
    rw [hpop_hmask]
    exact hx_dn (hr31_59_65 hQ)
  · rw [c] at hQ
    rw [k10]
    refine hs31_62 hs hB' hp ?_
    exact hx_dn (hr31_59_74 hQ)
  · rw [c] at hQ
    rw [k10]
    exact hQ
  · rw [c] at hQ
    rw [sB31_day hB']
    exact hQ
  · rw [c] at hQ
    rw [k9, Int.toNat_natCast, sB31_date hB' y hy]
    exact hQ
  · rw [c] at hQ
    rw [k9, k10, Int.toNat_natCast, sB31_skl hB' y hy]
    refine hown _ _ ?_
    refine hx_dn (hr31_59_298 ?_)
    rw [k9, hmask_del hy]
    refine hs31_64 (v := fun j => s (80 + j)) (sB31_skl hB') ?_
    refine hx_dn (hr31_59_312 ?_)
    have hx : hOr (fun j => aOwn s p j && !(decide (j = y))) (fun j => s (80 + j)) 40 = hOr (aKn s p y) (fun j => s (80 + j)) 40 := hOr_ext 40 (fun j _ => (aKn_eq s p y j).symm) (fun _ _ => rfl)
    rw [hx]
    obtain ⟨O, hO, hO2⟩ := hOr_bd (f := aKn s p y) (v := fun j => s (80 + j)) 40 hs.skl
    have hsk := hs.skl y hy
    have hb : 0 ≤ gx_and (s (80 + y)) (hOr (aKn s p y) (fun j => s (80 + j)) 40) ∧ gx_and (s (80 + y)) (hOr (aKn s p y) (fun j => s (80 + j)) 40) < 65536 := by
      rw [hO]
      obtain ⟨Y, hY⟩ : ∃ Y : Nat, s (80 + y) = (Y : Int) := ⟨(s (80 + y)).toNat, by omega⟩
      rw [hY, hand_nat (by omega) (by omega)]
      have : Y &&& O ≤ Y := Nat.and_le_left
      omega
    refine hbc _ _ _ hb.1 hb.2 ?_
    exact hx_dn (hr31_59_316 hQ)
  · rw [c] at hQ
    rw [k9, Int.toNat_natCast, sB31_many hB' y hy]
    exact hQ
  · rw [c] at hQ
    rw [k9, sB31_dds hB', hlushr_nat (hmask_40 _) (by omega)]
    have e2 : hland (((hmask (fun y => decide (s (160 + y) = 1)) 40 / 2 ^ y : Nat)) : Int) 1 = s (160 + y) := by
      have e3 := hland_nat (X := hmask (fun y => decide (s (160 + y) = 1)) 40 / 2 ^ y) (Z := 1) (Nat.lt_of_le_of_lt (Nat.div_le_self _ _) (hmask_40 _)) (by decide)
      have e4 : (((1 : Nat) : Nat) : Int) = 1 := rfl
      rw [e4] at e3
      rw [e3, Nat.and_one_is_mod, hbit_eq, hmask_bit, decide_eq_true hy, Bool.true_and]
      have := hs.deed y hy
      split
      · rename_i q
        rw [decide_eq_true_eq] at q
        exact q.symm
      · rename_i q
        rw [decide_eq_true_eq] at q
        omega
    have := hs.deed y hy
    rw [e2, gx_w_id (by omega) (by omega)]
    exact hQ
  · rw [c] at hQ
    rw [k9, Int.toNat_natCast, sB31_livr hB' y hy]
    exact hQ
  · rw [c] at hQ
    rw [k9, Int.toNat_natCast, sB31_met hB' y hy]
    have := hs.met y hy
    refine hbc _ _ _ (by omega) (by omega) ?_
    exact hx_dn (hr31_59_256 hQ)
  · rw [c] at hQ
    rw [k9, Int.toNat_natCast, sB31_own hB' y hy]
    exact hQ
  · rw [c] at hQ
    rw [k9, Int.toNat_natCast, sB31_skl hB' y hy]
    have := hs.skl y hy
    refine hbc _ _ _ (by omega) (by omega) ?_
    exact hx_dn (hr31_59_243 hQ)
  · rw [c] at hQ
    rw [k9]
    exact hQ
  · have e : c = 122 := by
      unfold isLt at hc
      omega
    rw [e] at hQ
    rw [k11]
    exact hQ
theorem lE31_0 (hs : sOK s) (hB : sBk 31 s m0) (hp : 0 ≤ p ∧ p < 8) (h9 : m0 44 9 = -1) (h10 : m0 44 10 = p) : lEnvC 31 xs m0 (env0 s p) := by
  intro c hc n m Q hm hQ
  have hB' : sBk 31 s m := sBk_c (fun c h1 h2 => hm c (by omega)) hB
  have k9 : m 44 9 = -1 := by rw [hm 44 (by decide)]; exact h9
  have k10 : m 44 10 = p := by rw [hm 44 (by decide)]; exact h10
  refine hx_dn (hr31_59_0 (fun c => ?_) (fun _ c => ?_) (fun _ _ c => ?_) (fun _ _ _ c => ?_) (fun c0 c1 c2 c3 _ => ?_) (fun _ _ _ _ c _ _ => absurd c (by omega)) (fun _ _ _ _ c _ _ _ => absurd c (by omega)) (fun _ _ _ _ c _ _ _ _ => absurd c (by omega)) (fun _ _ _ _ c _ _ _ _ _ => absurd c (by omega)) (fun _ _ _ _ c _ _ _ _ _ _ => absurd c (by omega)) (fun _ _ _ _ c _ _ _ _ _ _ _ => absurd c (by omega)) (fun _ _ _ _ c _ _ _ _ _ _ _ _ => absurd c (by omega)) (fun _ _ _ _ c _ _ _ _ _ _ _ _ _ => absurd c (by omega)) (fun _ _ _ _ c _ _ _ _ _ _ _ _ _ _ => absurd c (by omega)) (fun _ _ _ _ c _ _ _ _ _ _ _ _ _ _ _ => absurd c (by omega)) (fun _ _ _ _ c _ _ _ _ _ _ _ _ _ _ _ _ => absurd c (by omega)) (fun _ _ _ _ c _ _ _ _ _ _ _ _ _ _ _ _ _ => absurd c (by omega)) (fun _ _ _ _ c _ _ _ _ _ _ _ _ _ _ _ _ _ _ => absurd c (by omega)) (fun _ _ _ _ c _ _ _ _ _ _ _ _ _ _ _ _ _ _ _ => absurd c (by omega)) (fun _ _ _ _ c _ _ _ _ _ _ _ _ _ _ _ _ _ _ _ _ => absurd c (by omega)) (fun _ _ _ _ c _ _ _ _ _ _ _ _ _ _ _ _ _ _ _ _ _ => absurd c (by omega)) (fun _ _ _ _ c _ _ _ _ _ _ _ _ _ _ _ _ _ _ _ _ _ _ => absurd c (by omega)) (fun _ _ _ _ c _ _ _ _ _ _ _ _ _ _ _ _ _ _ _ _ _ _ _ => absurd c (by omega)) (fun _ _ _ _ c _ _ _ _ _ _ _ _ _ _ _ _ _ _ _ _ _ _ _ _ => absurd c (by omega)) (fun _ _ _ _ c _ _ _ _ _ _ _ _ _ _ _ _ _ _ _ _ _ _ _ _ _ => absurd c (by omega)) (fun _ _ _ _ c _ _ _ _ _ _ _ _ _ _ _ _ _ _ _ _ _ _ _ _ _ _ => absurd c (by omega)) (fun _ _ _ _ c _ _ _ _ _ _ _ _ _ _ _ _ _ _ _ _ _ _ _ _ _ _ _ => absurd c (by omega)) (fun _ _ _ _ c _ _ _ _ _ _ _ _ _ _ _ _ _ _ _ _ _ _ _ _ _ _ _ => absurd c (by omega)) (fun _ _ _ _ _ c => absurd c (by omega)))
  · rw [c] at hQ
    rw [k10]
    refine hs31_60 (sB31_yrs hB') (sB31_own hB') ?_
    refine hx_dn (hr31_59_62 (hs61 (Nat.lt_of_lt_of_le (hmask_lt _ 40) (by decide)) ?_))
    rw [hpop_hmask]
    exact hx_dn (hr31_59_65 hQ)
  · rw [c] at hQ
    rw [k10]
    refine hs31_62 hs hB' hp ?_
    exact hx_dn (hr31_59_74 hQ)
  · rw [c] at hQ
    rw [k10]
    exact hQ
  · rw [c] at hQ
    rw [sB31_day hB']
    exact hQ
  · have e : env0 s p c = 0 := by
      unfold env0 fctP
      unfold isLt at hc
      rcases hc with e | e | e | e | e | e | e | e | e | e | e | e | e | e <;> first | exact absurd e (by assumption) | (rw [e]; rfl)
    rw [e] at hQ
    exact hQ
end LT31
