/-! personIs, years: by both -/
def qP (s : Nat → Int) (x w : Int) : Int := if w = 0 then s (1120 + x.toNat) else if w = 1 then ((hcnt (aOwn s x) 40 : Nat) : Int) else if w = 2 then hOr (aOwn s x) (fun j => s (80 + j)) 40 else if w = 3 then ((hcnt (aHad s x) 40 : Nat) : Int) else if w = 4 then ((hcnt (aHeld s x) 40 : Nat) : Int) else -1
def qPers (s : Nat → Int) (x w : Int) : Int := if 0 ≤ x ∧ x < 8 ∧ gx_and (gx_shr (s 1128) x) 1 = 1 then qP s x w else -1
def qYf (s : Nat → Int) (x w : Int) (y : Nat) : Bool := if w < 2 then aOwn s x y else aHad s x y
def qYrs (s : Nat → Int) (x w : Int) : Int := if 0 ≤ x ∧ x < 8 ∧ gx_and (gx_shr (s 1128) x) 1 = 1 then (if 0 ≤ w ∧ w ≤ 3 then ((hmask (fun k => qYf s x w (20 * (w % 2).toNat + k)) 20 : Nat) : Int) else -1) else -1
section QP
variable {xs : List Int32} {n : Nat} {m : gx_M} {a1 a2 : Int}
theorem qPers_no {s : Nat → Int} {x w : Int} (h : ¬ aPers s x) : qPers s x w = -1 := if_neg h
theorem qPers_yes {s : Nat → Int} {x w : Int} (h : aPers s x) : qPers s x w = qP s x w := if_pos h
theorem q75 (hR : hWr xs m) : hxn xs n yp_m75 0 [(0, .inr (.inl 0)), (1, .inl a1), (2, .inl a2)] [] m (fun r _ => r = some (.inl (qPers (m 87) a1 a2))) := by
  obtain ⟨hs, hB, -⟩ := hR
  by_cases hy : aPers (m 87) a1
  case neg =>
    rw [qPers_no hy]
    have hn : ¬ cPers 5 m a1 := fun q => hy ((cP_iff hB).mp q)
    refine hx_dn (hr75_0 ?_ ?_ ?_ ?_ ?_ ?_ (fun _ => rfl))
    all_goals exact fun q => absurd q hn
  rw [qPers_yes hy]
  have hc := (cP_iff hB).mpr hy
  obtain ⟨P, rfl, hP, -⟩ := aPers_nat hy
  refine hx_dn (hr75_0 (fun _ c => ?_) (fun _ _ c => ?_) (fun _ _ _ c => ?_) (fun _ _ _ _ c => ?_) (fun _ _ _ _ _ c => ?_) (fun _ d0 d1 d2 d3 d4 => ?_) (fun c => absurd hc c))
  · rw [Int.toNat_natCast, sB5_coin hB P hP, c]
    show (some (.inl (m 87 (1120 + P))) : Option hV) = some (.inl (m 87 (1120 + ((P : Int)).toNat)))
    rw [Int.toNat_natCast]
  · rw [c]
    exact c60 hB (hx_dn (hr75_66 (c61 (hx_dn (hr75_69 rfl)))))
  · rw [c]
    exact c60 hB (hx_dn (hr75_82 (c64 hB (hx_dn (hr75_85 rfl)))))
  · rw [c]
    exact c76 hP hs hB (hx_dn (hr75_94 (c61 (hx_dn (hr75_97 rfl)))))
  · rw [c]
    exact c78 hs hB (hx_dn (hr75_106 (c61 (hx_dn (hr75_109 rfl)))))
  · unfold qP
    rw [if_neg d0, if_neg d1, if_neg d2, if_neg d3, if_neg d4]
theorem q218 (hR : hWr xs m) : hxn xs n yp_m218 0 [(0, .inr (.inl 86)), (1, .inl a1), (2, .inl a2)] [] m (fun r _ => r = some (.inl (qPers (m 87) a1 a2))) := by
  obtain ⟨hs, -⟩ := hR
  by_cases hy : aPers (m 87) a1
  case neg =>
    rw [qPers_no hy]
    refine hx_dn (hr218_0 ?_ ?_ ?_ ?_ ?_ ?_ (fun _ => rfl))
    all_goals exact fun q => absurd q hy
  rw [qPers_yes hy]
  have hy' := hy
  obtain ⟨P, rfl, hP, -⟩ := aPers_nat hy
  refine hx_dn (hr218_0 (fun _ c => ?_) (fun _ _ c => ?_) (fun _ _ _ c => ?_) (fun _ _ _ _ c => ?_) (fun _ _ _ _ _ c => ?_) (fun _ d0 d1 d2 d3 d4 => ?_) (fun c => absurd hy' c))
  · rw [w1120 hP, c]
    show (some (.inl (m 87 (1120 + P))) : Option hV) = some (.inl (m 87 (1120 + ((P : Int)).toNat)))
    rw [Int.toNat_natCast]
  · rw [c]
    exact hs204 hs.there (hx_dn (hr218_60 rfl))
  · rw [c]
    exact r207 hs (hx_dn (hr218_67 rfl))
  · rw [c]
    exact r219 hs (hx_dn (hr218_73 rfl))
  · rw [c]
    exact r221 hs (hx_dn (hr218_79 rfl))
  · unfold qP
    rw [if_neg d0, if_neg d1, if_neg d2, if_neg d3, if_neg d4]
theorem hmask_half {f : Nat → Bool} {b : Nat} (hb : b < 2) : hmask f 40 / 2 ^ (20 * b) &&& 1048575 = hmask (fun k => f (20 * b + k)) 20 := by
  have e : (1048575 : Nat) = 2 ^ 20 - 1 := rfl
  rw [e, Nat.and_two_pow_sub_one_eq_mod]
  apply Nat.eq_of_testBit_eq
  intro j
  rw [Nat.testBit_mod_two_pow, ← Nat.shiftRight_eq_div_pow, Nat.testBit_shiftRight, hmask_bit, hmask_bit]
  by_cases hj : j < 20
  · rw [decide_eq_true hj, decide_eq_true (show 20 * b + j < 40 by omega), Bool.true_and]
  · rw [decide_eq_false hj, Bool.false_and, Bool.false_and]
theorem hand_low {X : Nat} : gx_and (gx_w (X : Int)) 1048575 = ((X &&& 1048575 : Nat) : Int) := by
  have e0 : X &&& 1048575 = X % 4294967296 &&& 1048575 := by
    have e : (1048575 : Nat) = 2 ^ 20 - 1 := rfl
    rw [e, Nat.and_two_pow_sub_one_eq_mod, Nat.and_two_pow_sub_one_eq_mod]
    omega
  have e1 : (Int32.ofInt (gx_w (X : Int))).toBitVec.toNat = X % 4294967296 := by
    rw [Int32.toBitVec_ofInt, BitVec.toNat_ofInt]
    unfold gx_w
    omega
  have e2 : (Int32.ofInt (gx_w (X : Int)) &&& Int32.ofInt 1048575).toBitVec.toNat = X &&& 1048575 := by
    show ((Int32.ofInt (gx_w (X : Int))).toBitVec &&& (Int32.ofInt ((1048575 : Nat) : Int)).toBitVec).toNat = _
    rw [BitVec.toNat_and, e1, hiv_nat (by decide), e0]
  unfold gx_and
  rw [hiv_to (by rw [e2]; exact Nat.lt_of_le_of_lt Nat.and_le_right (by decide)), e2]
theorem half_c {f : Nat → Bool} {w : Int} (hw : 0 ≤ w ∧ w ≤ 3) : gx_and (gx_w (hlushr ((hmask f 40 : Nat) : Int) (20 * (gx_and w 1)))) 1048575 = ((hmask (fun k => f (20 * (w % 2).toNat + k)) 20 : Nat) : Int) := by
  obtain ⟨b, hb, e1, e2⟩ : ∃ b : Nat, b < 2 ∧ gx_and w 1 = (b : Int) ∧ (w % 2).toNat = b := by
    have : w = 0 ∨ w = 1 ∨ w = 2 ∨ w = 3 := by omega
    rcases this with rfl | rfl | rfl | rfl
    · exact ⟨0, by decide, by decide +kernel, rfl⟩
    · exact ⟨1, by decide, by decide +kernel, rfl⟩
    · exact ⟨0, by decide, by decide +kernel, rfl⟩
    · exact ⟨1, by decide, by decide +kernel, rfl⟩
  have e3 : (20 * (b : Int)) = ((20 * b : Nat) : Int) := by omega
  rw [e1, e2, e3, hlushr_nat (hmask_40 _) (by omega), hand_low, hmask_half hb]
theorem qYrs_no {s : Nat → Int} {x w : Int} (h : ¬ (aPers s x ∧ 0 ≤ w ∧ w ≤ 3)) : qYrs s x w = -1 := by
  unfold qYrs
  by_cases c : 0 ≤ x ∧ x < 8 ∧ gx_and (gx_shr (s 1128) x) 1 = 1
  · rw [if_pos c, if_neg (fun q => h ⟨c, q⟩)]
  · rw [if_neg c]
theorem qYrs_yes {s : Nat → Int} {x w : Int} (h : aPers s x) (hw : 0 ≤ w ∧ w ≤ 3) : qYrs s x w = ((hmask (fun k => qYf s x w (20 * (w % 2).toNat + k)) 20 : Nat) : Int) := by
  have h' : 0 ≤ x ∧ x < 8 ∧ gx_and (gx_shr (s 1128) x) 1 = 1 := h
  unfold qYrs
  rw [if_pos h', if_pos hw]
theorem q80 (hR : hWr xs m) : hxn xs n yp_m80 0 [(0, .inr (.inl 0)), (1, .inl a1), (2, .inl a2)] [] m (fun r _ => r = some (.inl (qYrs (m 87) a1 a2))) := by
  obtain ⟨hs, hB, -⟩ := hR
  have no : ¬ (aPers (m 87) a1 ∧ 0 ≤ a2 ∧ a2 ≤ 3) → (some (.inl (-1)) : Option hV) = some (.inl (qYrs (m 87) a1 a2)) := fun h => by rw [qYrs_no h]
  refine hx_dn (hr80_0 (fun _ c => no (by omega)) (fun c c1 c2 c3 => ?_) (fun c c1 c2 c3 => ?_) (fun _ _ c => no (by omega)) (fun c => no (fun q => c ((cP_iff hB).mpr q.1))))
  · have hp := (cP_iff hB).mp c
    rw [qYrs_yes hp ⟨c1, c2⟩]
    obtain ⟨P, rfl, hP, -⟩ := aPers_nat hp
    refine c76 hP hs hB (hx_dn (hr80_46 ?_))
    rw [half_c ⟨c1, c2⟩]
    have e : (fun k => aHad (m 87) (P : Int) (20 * (a2 % 2).toNat + k)) = (fun k => qYf (m 87) (P : Int) a2 (20 * (a2 % 2).toNat + k)) := funext (fun k => (if_neg (by omega)).symm)
    rw [e]
  · have hp := (cP_iff hB).mp c
    rw [qYrs_yes hp ⟨c1, c2⟩]
    refine c60 hB (hx_dn (hr80_35 ?_))
    rw [half_c ⟨c1, c2⟩]
    have e : (fun k => aOwn (m 87) a1 (20 * (a2 % 2).toNat + k)) = (fun k => qYf (m 87) a1 a2 (20 * (a2 % 2).toNat + k)) := funext (fun k => (if_pos c3).symm)
    rw [e]
theorem hmask_lor {f : Nat → Bool} {k : Nat} (hk : k < 20) (h : f k = true) : gx_or ((hmask f k : Nat) : Int) (gx_shl 1 (k : Int)) = ((hmask f (k + 1) : Nat) : Int) := by
  have h1 := hmask_lt f k
  have h2 : 2 ^ k < 2 ^ 20 := Nat.pow_lt_pow_right (by decide) hk
  have h3 : (2 : Nat) ^ 20 < 2 ^ 31 := by decide
  rw [hshl_one k (by omega), hor_nat (by omega) (by omega), hmask_t h]
  congr 1
  have h4 := Nat.two_pow_add_eq_or_of_lt h1 1
  rw [Nat.mul_one] at h4
  rw [Nat.or_comm, ← h4, Nat.add_comm]
theorem q222 (hR : hWr xs m) : hxn xs n yp_m222 0 [(0, .inr (.inl 86)), (1, .inl a1), (2, .inl a2)] [] m (fun r _ => r = some (.inl (qYrs (m 87) a1 a2))) := by
  obtain ⟨hs, -⟩ := hR
  have no : ¬ (aPers (m 87) a1 ∧ 0 ≤ a2 ∧ a2 ≤ 3) → (some (.inl (-1)) : Option hV) = some (.inl (qYrs (m 87) a1 a2)) := fun h => by rw [qYrs_no h]
  refine hx_dn (hr222_0 (fun hp hw => ?_) (fun _ c => no (fun q => c q.2)) (fun c => no (fun q => c q.1)))
  rw [qYrs_yes hp hw]
  have ht : Int.tmod a2 2 = a2 % 2 := Int.tmod_eq_emod_of_nonneg hw.1
  obtain ⟨b, hb⟩ : ∃ b : Nat, a2 % 2 = (b : Int) := ⟨(a2 % 2).toNat, by omega⟩
  have hb2 : b < 2 := by omega
  rw [hb, Int.toNat_natCast]
  refine hloop (N := 20) (P := fun k => hxn xs n yp_m222 24 [(0, .inr (.inl 86)), (1, .inl a1), (2, .inl a2), (3, .inl ((hmask (fun k => qYf (m 87) a1 a2 (20 * b + k)) k : Nat) : Int)), (4, .inl (k : Int))] [] m _) (hx_dn (hr222_24 (fun _ => rfl) (fun c => absurd c (by decide)) (fun c => absurd c (by decide)))) (fun k hk ih => ?_) 0 (Nat.zero_le _)
  have ey : gx_w ((gx_w (20 * (Int.tmod a2 2))) + (k : Int)) = ((20 * b + k : Nat) : Int) := by
    rw [ht, hb, gx_w_id (x := 20 * (b : Int)) (by omega) (by omega), gx_w_id (by omega) (by omega)]
    omega
  have yes : qYf (m 87) a1 a2 (20 * b + k) = true → hxn xs n yp_m222 24 [(0, .inr (.inl 86)), (1, .inl a1), (2, .inl a2), (3, .inl (gx_or ((hmask (fun k => qYf (m 87) a1 a2 (20 * b + k)) k : Nat) : Int) (gx_shl 1 (k : Int)))), (4, .inl (gx_w ((k : Int) + 1)))] [] m _ := fun h => by
    rw [hmask_lor (f := fun k => qYf (m 87) a1 a2 (20 * b + k)) hk h, ew_u (by omega)]
    exact ih
  have nop : qYf (m 87) a1 a2 (20 * b + k) = false → hxn xs n yp_m222 24 [(0, .inr (.inl 86)), (1, .inl a1), (2, .inl a2), (3, .inl ((hmask (fun k => qYf (m 87) a1 a2 (20 * b + k)) k : Nat) : Int)), (4, .inl (gx_w ((k : Int) + 1)))] [] m _ := fun h => by
    rw [hmask_f (f := fun k => qYf (m 87) a1 a2 (20 * b + k)) h] at ih
    rw [ew_u (by omega)]
    exact ih
  refine hx_dn (hr222_24 (fun c => absurd c (by omega)) (fun _ c => ?_) (fun _ c => ?_))
  · rw [ey]
    have e : qYf (m 87) a1 a2 (20 * b + k) = aHad (m 87) a1 (20 * b + k) := if_neg (by omega)
    rw [e] at yes nop
    refine r220 hs (by omega) ?_
    by_cases h : aHad (m 87) a1 (20 * b + k) = true
    · rw [if_pos h]
      exact hx_dn (hr222_67 (fun c => absurd c (by decide)) (fun _ => yes h))
    · rw [if_neg h]
      exact hx_dn (hr222_67 (fun _ => nop (by simpa using h)) (fun c => absurd rfl c))
  · rw [ey]
    have e : qYf (m 87) a1 a2 (20 * b + k) = aOwn (m 87) a1 (20 * b + k) := if_pos c
    rw [e] at yes nop
    refine hs205 (by omega) (hs.there _ (by omega)) ?_
    by_cases h : aOwn (m 87) a1 (20 * b + k) = true
    · rw [if_pos h]
      exact hx_dn (hr222_54 (fun c => absurd c (by decide)) (fun _ => yes h))
    · rw [if_neg h]
      exact hx_dn (hr222_54 (fun _ => nop (by simpa using h)) (fun c => absurd rfl c))
end QP
