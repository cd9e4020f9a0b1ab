/-! yearIs, by both -/
section BQ
variable {s : Nat → Int} {m : gx_M}
theorem cYr_iff {b : Nat} (h : sBk b s m) {x : Int} : cYear b m x ↔ aYr s x := by
  by_cases hx : 0 ≤ x ∧ x < 40
  · obtain ⟨Y, rfl⟩ : ∃ Y : Nat, x = (Y : Int) := ⟨x.toNat, by omega⟩
    rw [cY_iff h (by omega), aYr_iff (by omega)]
  · exact ⟨fun q => absurd ⟨q.1, q.2.1⟩ hx, fun q => absurd ⟨q.1, q.2.1⟩ hx⟩
theorem aYr_nat {x : Int} (h : aYr s x) : ∃ Y : Nat, x = (Y : Int) ∧ Y < 40 ∧ s (440 + Y) = 1 := by
  obtain ⟨h1, h2, h3⟩ := h
  refine ⟨x.toNat, by omega, by omega, ?_⟩
  have e : (440 + x).toNat = 440 + x.toNat := by omega
  rw [e] at h3
  exact h3
theorem cDeed_iff (hs : sOK s) (h : sBk 5 s m) {Y : Nat} (hY : Y < 40) : cDeed 5 m (Y : Int) ↔ s (440 + Y) = 1 ∧ s (160 + Y) = 1 := by
  unfold cDeed
  rw [cY_iff h hY, h.1.2.2.1, hmask_test hY]
  constructor
  · rintro ⟨c1, c⟩
    split at c
    · rename_i q
      rw [decide_eq_true_eq] at q
      exact ⟨c1, q⟩
    · exact absurd rfl c
  · rintro ⟨c1, c⟩
    rw [if_pos (decide_eq_true c)]
    exact ⟨c1, by decide⟩
end BQ
def qYr (s : Nat → Int) (Y : Nat) (w : Int) : Int := if w = 0 then s Y else if w = 1 then s (40 + Y) else if w = 2 then s (80 + Y) else if w = 3 then s (120 + Y) else if w = 4 then s (160 + Y) else if w = 5 then s (200 + Y) else if w = 6 then s (240 + Y) else if w = 7 then s (280 + Y) else if w = 8 then s (360 + Y) else if w = 9 then s (400 + Y) else if 20 ≤ w ∧ w ≤ 19 + s (400 + Y) then s (480 + (16 * Y + (w - 20).toNat)) else -1
def qYear (s : Nat → Int) (x w : Int) : Int := if 0 ≤ x ∧ x < 40 ∧ s (440 + x).toNat = 1 then qYr s x.toNat w else -1
theorem qYear_no {s : Nat → Int} {x w : Int} (h : ¬ aYr s x) : qYear s x w = -1 := if_neg h
theorem qYear_yes {s : Nat → Int} {Y : Nat} {w : Int} (h : aYr s (Y : Int)) : qYear s (Y : Int) w = qYr s Y w := by
  have h' : 0 ≤ (Y : Int) ∧ (Y : Int) < 40 ∧ s (440 + (Y : Int)).toNat = 1 := h
  unfold qYear
  rw [if_pos h', Int.toNat_natCast]
section QY
variable {xs : List Int32} {n : Nat} {m : gx_M} {a1 a2 : Int}
theorem c74 {Q : hQ} {s : Nat → Int} {Y : Nat} {k : Int} (hB : sBk 5 s m) (hY : Y < 40) (ht : s (440 + Y) = 1) (hs : 0 ≤ s (400 + Y) ∧ s (400 + Y) ≤ 16) (h : Q (some (.inl (if 0 ≤ k ∧ k < s (400 + Y) then s (480 + (16 * Y + k.toNat)) else -1))) m) : hxn xs n yp_m74 0 [(0, .inr (.inl 5)), (1, .inl (Y : Int)), (2, .inl k)] [] m Q := by
  have no : ¬ (0 ≤ k ∧ k < s (400 + Y)) → Q (some (.inl (-1))) m := fun c => by
    rw [if_neg c] at h
    exact h
  refine hx_dn (hr74_0 (fun _ c => no (by omega)) (fun _ _ c => no (by omega)) (fun _ c1 c2 c3 => ?_) (fun _ _ _ c => no ?_) (fun c => absurd ((cY_iff hB hY).mpr ht) c))
  · rw [Int.toNat_natCast, sB5_many hB Y hY] at c3
    rw [if_pos ⟨c1, c3⟩] at h
    have e : (gx_w ((gx_w ((Y : Int) * 16)) + k)).toNat = 16 * Y + k.toNat := by
      rw [gx_w_id (x := (Y : Int) * 16) (by omega) (by omega), gx_w_id (by omega) (by omega)]
      omega
    rw [e, sB5_hand hB _ (by omega)]
    exact h
  · rw [Int.toNat_natCast, sB5_many hB Y hY] at c
    omega
theorem q72 (b2 : hB a2) (hR : hWr xs m) : hxn xs n yp_m72 0 [(0, .inr (.inl 0)), (1, .inl a1), (2, .inl a2)] [] m (fun r _ => r = some (.inl (qYear (m 87) a1 a2))) := by
  obtain ⟨hs, hB, -⟩ := hR
  by_cases hy : aYr (m 87) a1
  case neg =>
    rw [qYear_no hy]
    have hn : ¬ cYear 5 m a1 := fun q => hy ((cYr_iff hB).mp q)
    refine hx_dn (hr72_0 ?_ ?_ ?_ ?_ ?_ ?_ ?_ ?_ ?_ ?_ ?_ ?_ ?_ (fun _ => rfl))
    all_goals exact fun q => absurd q hn
  obtain ⟨Y, rfl, hY, ht⟩ := aYr_nat hy
  rw [qYear_yes hy]
  have hm := hs.many Y hY
  have b2' : -2147483648 ≤ a2 ∧ a2 ≤ 2147483647 := b2
  refine hx_dn (hr72_0 (fun _ c => ?_) (fun _ _ c => ?_) (fun _ _ _ c => ?_) (fun _ _ _ _ c => ?_) (fun _ _ _ _ _ c d => ?_) (fun _ _ _ _ _ c d => ?_) (fun _ _ _ _ _ _ c => ?_) (fun _ _ _ _ _ _ _ c => ?_) (fun _ _ _ _ _ _ _ _ c => ?_) (fun _ _ _ _ _ _ _ _ _ c => ?_) (fun _ _ _ _ _ _ _ _ _ _ c => ?_) (fun _ d0 d1 d2 d3 d4 d5 d6 d7 d8 d9 c => ?_) (fun _ d0 d1 d2 d3 d4 d5 d6 d7 d8 d9 c => ?_) (fun c => absurd ((cY_iff hB hY).mpr ht) c))
  · rw [Int.toNat_natCast, sB5_date hB Y hY, c]
    rfl
  · rw [Int.toNat_natCast, sB5_livr hB Y hY, c]
    rfl
  · rw [Int.toNat_natCast, sB5_skl hB Y hY, c]
    rfl
  · rw [Int.toNat_natCast, sB5_met hB Y hY, c]
    rfl
  · rw [c]
    show (some (.inl 1) : Option hV) = some (.inl (m 87 (160 + Y)))
    rw [((cDeed_iff hs hB hY).mp d).2]
  · rw [c]
    show (some (.inl 0) : Option hV) = some (.inl (m 87 (160 + Y)))
    have := hs.deed Y hY
    have h0 : m 87 (160 + Y) = 0 := by
      rcases this with e | e
      · exact e
      · exact absurd ((cDeed_iff hs hB hY).mpr ⟨ht, e⟩) d
    rw [h0]
  · rw [Int.toNat_natCast, sB5_mark hB Y hY, c]
    rfl
  · rw [Int.toNat_natCast, sB5_own hB Y hY, c]
    rfl
  · rw [Int.toNat_natCast, sB5_hold hB Y hY ht, c]
    rfl
  · rw [Int.toNat_natCast, sB5_due hB Y hY, c]
    rfl
  · rw [Int.toNat_natCast, sB5_many hB Y hY, c]
    rfl
  · rw [gx_w_id (by omega) (by omega)]
    refine c74 hB hY ht hm (hx_dn (hr72_197 ?_))
    unfold qYr
    rw [if_neg d0, if_neg d1, if_neg d2, if_neg d3, if_neg d4, if_neg d5, if_neg d6, if_neg d7, if_neg d8, if_neg d9]
    by_cases e : 20 ≤ a2 ∧ a2 ≤ 19 + m 87 (400 + Y)
    · rw [if_pos e, if_pos (by omega)]
    · rw [if_neg e, if_neg (by omega)]
  · refine c74 hB hY ht hm (hx_dn (hr72_197 ?_))
    unfold qYr
    rw [if_neg d0, if_neg d1, if_neg d2, if_neg d3, if_neg d4, if_neg d5, if_neg d6, if_neg d7, if_neg d8, if_neg d9, if_neg (by omega), if_neg (by omega)]
theorem q217 (b2 : hB a2) (hR : hWr xs m) : hxn xs n yp_m217 0 [(0, .inr (.inl 86)), (1, .inl a1), (2, .inl a2)] [] m (fun r _ => r = some (.inl (qYear (m 87) a1 a2))) := by
  obtain ⟨hs, -⟩ := hR
  by_cases hy : aYr (m 87) a1
  case neg =>
    rw [qYear_no hy]
    refine hx_dn (hr217_0 ?_ ?_ ?_ ?_ ?_ ?_ ?_ ?_ ?_ ?_ ?_ ?_ (fun _ => rfl))
    all_goals exact fun q => absurd q hy
  have hy' := hy
  obtain ⟨Y, rfl, hY, ht⟩ := aYr_nat hy
  rw [qYear_yes hy']
  have hm := hs.many Y hY
  have b2' : -2147483648 ≤ a2 ∧ a2 ≤ 2147483647 := b2
  have e0 : (gx_w (0 + (Y : Int))).toNat = Y := by
    rw [gx_w_id (by omega) (by omega)]
    omega
  have e40 : (gx_w (40 + (Y : Int))).toNat = 40 + Y := wz (by decide) (by omega)
  have e80 : (gx_w (80 + (Y : Int))).toNat = 80 + Y := wz (by decide) (by omega)
  have e120 : (gx_w (120 + (Y : Int))).toNat = 120 + Y := wz (by decide) (by omega)
  have e160 : (gx_w (160 + (Y : Int))).toNat = 160 + Y := wz (by decide) (by omega)
  have e200 : (gx_w (200 + (Y : Int))).toNat = 200 + Y := wz (by decide) (by omega)
  refine hx_dn (hr217_0 (fun _ c => ?_) (fun _ _ c => ?_) (fun _ _ _ c => ?_) (fun _ _ _ _ c => ?_) (fun _ _ _ _ _ c => ?_) (fun _ _ _ _ _ _ c => ?_) (fun _ _ _ _ _ _ _ c => ?_) (fun _ _ _ _ _ _ _ _ c => ?_) (fun _ _ _ _ _ _ _ _ _ c => ?_) (fun _ _ _ _ _ _ _ _ _ _ c => ?_) (fun _ d0 d1 d2 d3 d4 d5 d6 d7 d8 d9 c => ?_) (fun _ d0 d1 d2 d3 d4 d5 d6 d7 d8 d9 c => ?_) (fun c => absurd hy' c))
  · rw [e0, c]
    rfl
  · rw [e40, c]
    rfl
  · rw [e80, c]
    rfl
  · rw [e120, c]
    rfl
  · rw [e160, c]
    rfl
  · rw [e200, c]
    rfl
  · rw [w240 hY, c]
    rfl
  · rw [w280 hY, c]
    rfl
  · rw [w360 hY, c]
    rfl
  · rw [w400 hY, c]
    rfl
  · rw [w400 hY, gx_w_id (by omega) (by omega)] at c
    unfold qYr
    rw [if_neg d0, if_neg d1, if_neg d2, if_neg d3, if_neg d4, if_neg d5, if_neg d6, if_neg d7, if_neg d8, if_neg d9, if_pos c]
    have e : (gx_w ((gx_w ((gx_w (480 + (gx_w (16 * (Y : Int))))) + a2)) - 20)).toNat = 480 + (16 * Y + (a2 - 20).toNat) := by
      rw [gx_w_id (x := 16 * (Y : Int)) (by omega) (by omega), gx_w_id (x := 480 + 16 * (Y : Int)) (by omega) (by omega), gx_w_id (x := 480 + 16 * (Y : Int) + a2) (by omega) (by omega), gx_w_id (by omega) (by omega)]
      omega
    rw [e]
  · rw [w400 hY, gx_w_id (by omega) (by omega)] at c
    unfold qYr
    rw [if_neg d0, if_neg d1, if_neg d2, if_neg d3, if_neg d4, if_neg d5, if_neg d6, if_neg d7, if_neg d8, if_neg d9, if_neg c]
end QY
