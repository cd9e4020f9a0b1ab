/-! what a code comes to: one step at a time -/
def eC (m0 : gx_M) (c : Nat) (S : List Int) (m : gx_M) : Prop := (∀ c', c' ≠ c → m c' = m0 c') ∧ ∀ i v, S[i]? = some v → m c i = v
def eZ (m0 : gx_M) (c : Nat) (Q : hQ) : Prop := ∀ m, (∀ c', c' ≠ c → m c' = m0 c') → Q (some (.inl 0)) m
section EC
variable {m0 m : gx_M} {c : Nat} {S : List Int} {v w : Int}
theorem eC_low (h : eC m0 c (S ++ [v]) m) : eC m0 c S m := ⟨h.1, fun i x hx => h.2 i x (by
  have hi : i < S.length := (List.getElem?_eq_some_iff.mp hx).1
  rw [List.getElem?_append_left hi]
  exact hx)⟩
theorem eC_top (h : eC m0 c (S ++ [v]) m) : m c S.length = v := h.2 _ _ (by rw [List.getElem?_append_right (Nat.le_refl _), Nat.sub_self]; rfl)
theorem eC_push (h : eC m0 c S m) : eC m0 c (S ++ [v]) (gx_u m c S.length v) := by
  refine ⟨fun c' hc => ?_, fun i x hx => ?_⟩
  · rw [gx_u_off hc]
    exact h.1 c' hc
  · by_cases hi : i = S.length
    · subst hi
      rw [List.getElem?_append_right (Nat.le_refl _), Nat.sub_self] at hx
      cases hx
      exact gx_u_self
    · have h2 : i < (S ++ [v]).length := (List.getElem?_eq_some_iff.mp hx).1
      rw [List.length_append, List.length_singleton] at h2
      rw [List.getElem?_append_left (by omega)] at hx
      rw [gx_u_ne (by omega)]
      exact h.2 i x hx
theorem eC_len : ((S ++ [v]).length : Int) = (S.length : Int) + 1 := by
  rw [List.length_append, List.length_singleton]
  omega
theorem e_td {x a v : Int} (hx : x = 1048576 * a + v) (ha : 0 ≤ a ∧ a ≤ 14) (hv : 0 ≤ v ∧ v < 1048576) : gx_w (Int.tdiv x 1048576) = a ∧ Int.tmod x 1048576 = v := by
  rw [Int.tdiv_eq_ediv_of_nonneg (by omega), Int.tmod_eq_emod_of_nonneg (by omega)]
  exact ⟨by rw [gx_w_id (by omega) (by omega)]; omega, by omega⟩
theorem ew_u {k : Nat} (h : k < 1000) : gx_w ((k : Int) + 1) = ((k + 1 : Nat) : Int) := by
  rw [gx_w_id (by omega) (by omega)]
  omega
end EC
noncomputable def CE (bk : Nat) (xs : List Int32) (n : Nat) (m0 : gx_M) (to : Nat) (S : List Int) (p : Nat) (Q : hQ) : Prop := ∀ m, eC m0 51 S m → hxn xs n yp_m58 10 [(0, .inr (.inl 44)), (1, .inr (.inl bk)), (3, .inl (to : Int)), (4, .inl (S.length : Int)), (5, .inl (p : Int))] [] m Q
noncomputable def RE (xs : List Int32) (n : Nat) (m0 : gx_M) (to : Nat) (S : List Int) (p : Nat) (Q : hQ) : Prop := ∀ m, eC m0 102 S m → hxn xs n yp_m208 16 [(0, .inr (.inl 86)), (2, .inl (to : Int)), (3, .inl (S.length : Int)), (4, .inl 0), (5, .inl (p : Int))] [] m Q
section CEV
variable {bk : Nat} {xs : List Int32} {n : Nat} {Q : hQ} {m0 : gx_M} {to p : Nat} {S : List Int} {a b s v : Int}
theorem ce_eq {m : gx_M} {k k' p' p'' : Int} (ek : k = k') (ep : p' = p'') (h : hxn xs n yp_m58 10 [(0, .inr (.inl 44)), (1, .inr (.inl bk)), (3, .inl (to : Int)), (4, .inl k), (5, .inl p')] [] m Q) : hxn xs n yp_m58 10 [(0, .inr (.inl 44)), (1, .inr (.inl bk)), (3, .inl (to : Int)), (4, .inl k'), (5, .inl p'')] [] m Q := by
  subst ek
  subst ep
  exact h
theorem re_eq {m : gx_M} {k k' p' p'' : Int} (ek : k = k') (ep : p' = p'') (h : hxn xs n yp_m208 16 [(0, .inr (.inl 86)), (2, .inl (to : Int)), (3, .inl k), (4, .inl 0), (5, .inl p')] [] m Q) : hxn xs n yp_m208 16 [(0, .inr (.inl 86)), (2, .inl (to : Int)), (3, .inl k'), (4, .inl 0), (5, .inl p'')] [] m Q := by
  subst ek
  subst ep
  exact h
theorem ce_num (hk : m0 45 p = 0) (ha : m0 46 p = v) (hp : p < to) (ht : to ≤ 240) (hh : S.length + 2 ≤ 64) (h : CE bk xs n m0 to (S ++ [v]) (p + 1) Q) : CE bk xs n m0 to S p Q := by
  have hk : m0 45 p = (0 : Int) := hk
  intro m hm
  have hk1 : m 45 ((p : Int)).toNat = 0 := by
    rw [Int.toNat_natCast, hm.1 45 (by decide)]; exact hk
  have e2 : m 46 ((p : Int)).toNat = v := by
    rw [Int.toNat_natCast, hm.1 46 (by decide)]; exact ha
  refine hx_dn (hr58_10 (by intros; exfalso; omega) (by intros; exfalso; omega) (by intros; exfalso; omega) (by intros; exfalso; omega) (fun _ _ _ _ _ => ?_) (by intros; exfalso; omega) (by intros; exfalso; omega) (by intros; exfalso; omega) (by intros; exfalso; omega) (by intros; exfalso; omega) (by intros; exfalso; omega) (by intros; exfalso; omega) (by intros; exfalso; omega) (by intros; exfalso; omega) (by intros; exfalso; omega) (by intros; exfalso; omega) (by intros; exfalso; omega) (by intros; exfalso; omega) (by intros; exfalso; omega))
  rw [e2, Int.toNat_natCast]
  exact ce_eq (by rw [eC_len, gx_w_id (by omega) (by omega)]) (ew_u (by omega)).symm (h _ (eC_push hm))
theorem ce_let {c : Int} (hk : m0 45 p = 1) (ha : m0 46 p = c) (hp : p < to) (ht : to ≤ 240) (hh : S.length + 2 ≤ 64) (hE : ∀ n m Q, (∀ c', c' ≠ 51 → m c' = m0 c') → Q (some (.inl v)) m → hxn xs n yp_m59 0 [(0, .inr (.inl 44)), (1, .inr (.inl bk)), (2, .inl c)] [] m Q) (h : CE bk xs n m0 to (S ++ [v]) (p + 1) Q) : CE bk xs n m0 to S p Q := by
  intro m hm
  have hk1 : m 45 ((p : Int)).toNat = 1 := by
    rw [Int.toNat_natCast, hm.1 45 (by decide)]; exact hk
  have e2 : m 46 ((p : Int)).toNat = c := by
    rw [Int.toNat_natCast, hm.1 46 (by decide)]; exact ha
  refine hx_dn (hr58_10 (by intros; exfalso; omega) (by intros; exfalso; omega) (by intros; exfalso; omega) (by intros; exfalso; omega) (by intros; exfalso; omega) (by intros; exfalso; omega) (by intros; exfalso; omega) (by intros; exfalso; omega) (by intros; exfalso; omega) (by intros; exfalso; omega) (by intros; exfalso; omega) (by intros; exfalso; omega) (by intros; exfalso; omega) (by intros; exfalso; omega) (by intros; exfalso; omega) (by intros; exfalso; omega) (by intros; exfalso; omega) (fun _ _ _ _ _ _ => ?_) (by intros; exfalso; omega))
  rw [e2]
  refine hE _ _ _ hm.1 ?_
  show hxn xs n yp_m58 89 _ [.inl v, .inl (S.length : Int), .inr (.inl 51)] m Q
  refine hx_dn (hr58_89 ?_)
  rw [Int.toNat_natCast]
  exact ce_eq (by rw [eC_len, gx_w_id (by omega) (by omega)]) (ew_u (by omega)).symm (h _ (eC_push hm))
theorem ce_not (hk : m0 45 p = s) (hs : s = 33) (hv : v = 0 ∨ v = 1) (hp : p < to) (ht : to ≤ 240) (hh : S.length + 2 ≤ 64) (h : CE bk xs n m0 to (S ++ [1 - v]) (p + 1) Q) : CE bk xs n m0 to (S ++ [v]) p Q := by
  intro m hm
  have el : ((S ++ [v]).length : Int) = (S.length : Int) + 1 := eC_len
  rw [el]
  have w1 : gx_w ((S.length : Int) + 1 - 1) = (S.length : Int) := by
    rw [gx_w_id (by omega) (by omega)]; omega
  have w2 : gx_w ((S.length : Int) + 1 + (-1)) = (S.length : Int) := by
    rw [gx_w_id (by omega) (by omega)]; omega
  have hk1 : m 45 ((p : Int)).toNat = s := by
    rw [Int.toNat_natCast, hm.1 45 (by decide)]; exact hk
  have tv : m 51 (gx_w ((S.length : Int) + 1 - 1)).toNat = v := by
    rw [w1, Int.toNat_natCast]; exact eC_top hm
  refine hx_dn (hr58_10 (by intros; exfalso; omega) (by intros; exfalso; omega) (by intros; exfalso; omega) (by intros; exfalso; omega) (by intros; exfalso; omega) (by intros; exfalso; omega) (by intros; exfalso; omega) (by intros; exfalso; omega) (by intros; exfalso; omega) (by intros; exfalso; omega) (by intros; exfalso; omega) (by intros; exfalso; omega) (fun _ _ _ _ _ _ _ _ => ?_) (by intros; exfalso; omega) (by intros; exfalso; omega) (by intros; exfalso; omega) (by intros; exfalso; omega) (by intros; exfalso; omega) (by intros; exfalso; omega))
  rw [tv, w1, Int.toNat_natCast, gx_w_id (x := 1 - v) (by omega) (by omega)]
  exact ce_eq eC_len (ew_u (by omega)).symm (h _ (eC_push (eC_low hm)))
theorem ce_and0 {q : Nat} (hk : m0 45 p = s) (hs : s = 38) (hv : v = 0) (ha : m0 46 p = (q : Int)) (hq : p < q) (hq2 : q ≤ to) (hp : p < to) (ht : to ≤ 240) (hh : S.length + 2 ≤ 64) (h : CE bk xs n m0 to (S ++ [v]) q Q) : CE bk xs n m0 to (S ++ [v]) p Q := by
  intro m hm
  have el : ((S ++ [v]).length : Int) = (S.length : Int) + 1 := eC_len
  rw [el]
  have w1 : gx_w ((S.length : Int) + 1 - 1) = (S.length : Int) := by
    rw [gx_w_id (by omega) (by omega)]; omega
  have w2 : gx_w ((S.length : Int) + 1 + (-1)) = (S.length : Int) := by
    rw [gx_w_id (by omega) (by omega)]; omega
  have hk1 : m 45 ((p : Int)).toNat = s := by
    rw [Int.toNat_natCast, hm.1 45 (by decide)]; exact hk
  have tv : m 51 (gx_w ((S.length : Int) + 1 - 1)).toNat = v := by
    rw [w1, Int.toNat_natCast]; exact eC_top hm
  have e2 : m 46 ((p : Int)).toNat = (q : Int) := by
    rw [Int.toNat_natCast, hm.1 46 (by decide)]; exact ha
  refine hx_dn (hr58_10 (by intros; exfalso; omega) (by intros; exfalso; omega) (by intros; exfalso; omega) (by intros; exfalso; omega) (by intros; exfalso; omega) (by intros; exfalso; omega) (fun _ _ _ _ _ _ _ _ => ?_) (by intros; exfalso; omega) (by intros; exfalso; omega) (by intros; exfalso; omega) (by intros; exfalso; omega) (by intros; exfalso; omega) (by intros; exfalso; omega) (by intros; exfalso; omega) (by intros; exfalso; omega) (by intros; exfalso; omega) (by intros; exfalso; omega) (by intros; exfalso; omega) (by intros; exfalso; omega))
  rw [e2, gx_w_id (x := (q : Int) - 1) (by omega) (by omega)]
  refine ce_eq eC_len ?_ (h _ hm)
  split
  · rw [gx_w_id (by omega) (by omega)]; omega
  · rw [gx_w_id (by omega) (by omega)]; omega
theorem ce_and1 (hk : m0 45 p = s) (hs : s = 38) (hv : v ≠ 0) (hp : p < to) (ht : to ≤ 240) (hh : S.length + 2 ≤ 64) (h : CE bk xs n m0 to S (p + 1) Q) : CE bk xs n m0 to (S ++ [v]) p Q := by
  intro m hm
  have el : ((S ++ [v]).length : Int) = (S.length : Int) + 1 := eC_len
  rw [el]
  have w1 : gx_w ((S.length : Int) + 1 - 1) = (S.length : Int) := by
    rw [gx_w_id (by omega) (by omega)]; omega
  have w2 : gx_w ((S.length : Int) + 1 + (-1)) = (S.length : Int) := by
    rw [gx_w_id (by omega) (by omega)]; omega
  have hk1 : m 45 ((p : Int)).toNat = s := by
    rw [Int.toNat_natCast, hm.1 45 (by decide)]; exact hk
  have tv : m 51 (gx_w ((S.length : Int) + 1 - 1)).toNat = v := by
    rw [w1, Int.toNat_natCast]; exact eC_top hm
  refine hx_dn (hr58_10 (by intros; exfalso; omega) (by intros; exfalso; omega) (by intros; exfalso; omega) (by intros; exfalso; omega) (by intros; exfalso; omega) (by intros; exfalso; omega) (by intros; exfalso; omega) (fun _ _ _ _ _ _ _ _ => ?_) (by intros; exfalso; omega) (by intros; exfalso; omega) (by intros; exfalso; omega) (by intros; exfalso; omega) (by intros; exfalso; omega) (by intros; exfalso; omega) (by intros; exfalso; omega) (by intros; exfalso; omega) (by intros; exfalso; omega) (by intros; exfalso; omega) (by intros; exfalso; omega))
  rw [w2]
  exact ce_eq rfl (ew_u (by omega)).symm (h _ (eC_low hm))
theorem ce_or0 (hk : m0 45 p = s) (hs : s = 124) (hv : v = 0) (hp : p < to) (ht : to ≤ 240) (hh : S.length + 2 ≤ 64) (h : CE bk xs n m0 to S (p + 1) Q) : CE bk xs n m0 to (S ++ [v]) p Q := by
  intro m hm
  have el : ((S ++ [v]).length : Int) = (S.length : Int) + 1 := eC_len
  rw [el]
  have w1 : gx_w ((S.length : Int) + 1 - 1) = (S.length : Int) := by
    rw [gx_w_id (by omega) (by omega)]; omega
  have w2 : gx_w ((S.length : Int) + 1 + (-1)) = (S.length : Int) := by
    rw [gx_w_id (by omega) (by omega)]; omega
  have hk1 : m 45 ((p : Int)).toNat = s := by
    rw [Int.toNat_natCast, hm.1 45 (by decide)]; exact hk
  have tv : m 51 (gx_w ((S.length : Int) + 1 - 1)).toNat = v := by
    rw [w1, Int.toNat_natCast]; exact eC_top hm
  refine hx_dn (hr58_10 (by intros; exfalso; omega) (by intros; exfalso; omega) (by intros; exfalso; omega) (by intros; exfalso; omega) (by intros; exfalso; omega) (by intros; exfalso; omega) (by intros; exfalso; omega) (by intros; exfalso; omega) (by intros; exfalso; omega) (by intros; exfalso; omega) (by intros; exfalso; omega) (by intros; exfalso; omega) (by intros; exfalso; omega) (by intros; exfalso; omega) (fun _ _ _ _ _ _ _ _ _ => ?_) (by intros; exfalso; omega) (by intros; exfalso; omega) (by intros; exfalso; omega) (by intros; exfalso; omega))
  rw [w2]
  exact ce_eq rfl (ew_u (by omega)).symm (h _ (eC_low hm))
theorem ce_or1 {q : Nat} (hk : m0 45 p = s) (hs : s = 124) (hv : v ≠ 0) (ha : m0 46 p = (q : Int)) (hq : p < q) (hq2 : q ≤ to) (hp : p < to) (ht : to ≤ 240) (hh : S.length + 2 ≤ 64) (h : CE bk xs n m0 to (S ++ [v]) q Q) : CE bk xs n m0 to (S ++ [v]) p Q := by
  intro m hm
  have el : ((S ++ [v]).length : Int) = (S.length : Int) + 1 := eC_len
  rw [el]
  have w1 : gx_w ((S.length : Int) + 1 - 1) = (S.length : Int) := by
    rw [gx_w_id (by omega) (by omega)]; omega
  have w2 : gx_w ((S.length : Int) + 1 + (-1)) = (S.length : Int) := by
    rw [gx_w_id (by omega) (by omega)]; omega
  have hk1 : m 45 ((p : Int)).toNat = s := by
    rw [Int.toNat_natCast, hm.1 45 (by decide)]; exact hk
  have tv : m 51 (gx_w ((S.length : Int) + 1 - 1)).toNat = v := by
    rw [w1, Int.toNat_natCast]; exact eC_top hm
  have e2 : m 46 ((p : Int)).toNat = (q : Int) := by
    rw [Int.toNat_natCast, hm.1 46 (by decide)]; exact ha
  refine hx_dn (hr58_10 (by intros; exfalso; omega) (by intros; exfalso; omega) (by intros; exfalso; omega) (by intros; exfalso; omega) (by intros; exfalso; omega) (by intros; exfalso; omega) (by intros; exfalso; omega) (by intros; exfalso; omega) (by intros; exfalso; omega) (by intros; exfalso; omega) (by intros; exfalso; omega) (by intros; exfalso; omega) (by intros; exfalso; omega) (by intros; exfalso; omega) (by intros; exfalso; omega) (fun _ _ _ _ _ _ _ _ _ => ?_) (by intros; exfalso; omega) (by intros; exfalso; omega) (by intros; exfalso; omega))
  rw [e2, gx_w_id (x := (q : Int) - 1) (by omega) (by omega)]
  refine ce_eq eC_len ?_ (h _ hm)
  split
  · rw [gx_w_id (by omega) (by omega)]; omega
  · rw [gx_w_id (by omega) (by omega)]; omega
theorem ce_bin (hk : m0 45 p = s) (hs : s = 42 ∨ s = 47 ∨ s = 37 ∨ s = 43 ∨ s = 45 ∨ s = 60 ∨ s = 62 ∨ s = 61) (hp : p < to) (ht : to ≤ 240) (hh : S.length + 2 ≤ 64) (hz : rfd s b → eZ m0 51 Q) (h : ¬ rfd s b → CE bk xs n m0 to (S ++ [lre s a b]) (p + 1) Q) : CE bk xs n m0 to (S ++ [a] ++ [b]) p Q := by
  intro m hm
  have el : ((S ++ [a] ++ [b]).length : Int) = (S.length : Int) + 2 := by
    rw [eC_len, eC_len]; omega
  rw [el]
  have w1 : gx_w ((S.length : Int) + 2 - 1) = ((S.length + 1 : Nat) : Int) := by
    rw [gx_w_id (by omega) (by omega)]; omega
  have w2 : gx_w ((S.length : Int) + 2 + (-1)) = ((S.length + 1 : Nat) : Int) := by
    rw [gx_w_id (by omega) (by omega)]; omega
  have w3 : gx_w (((S.length + 1 : Nat) : Int) - 1) = (S.length : Int) := by
    rw [gx_w_id (by omega) (by omega)]; omega
  have tb := eC_top hm
  rw [List.length_append, List.length_singleton] at tb
  have ta := eC_top (eC_low hm)
  have hk1 : m 45 ((p : Int)).toNat = s := by
    rw [Int.toNat_natCast, hm.1 45 (by decide)]; exact hk
  refine hx_dn (hr58_10 (by intros; exfalso; omega) (by intros; exfalso; omega) (by intros; exfalso; omega) (by intros; exfalso; omega) (by intros; exfalso; omega) (by intros; exfalso; omega) (by intros; exfalso; omega) (by intros; exfalso; omega) (by intros; exfalso; omega) (by intros; exfalso; omega) (fun _ _ _ _ _ _ _ _ c => hz ?_ _ hm.1) (fun _ _ _ _ _ _ _ _ c => ?_) (by intros; exfalso; omega) (by intros; exfalso; omega) (by intros; exfalso; omega) (by intros; exfalso; omega) (by intros; exfalso; omega) (by intros; exfalso; omega) (by intros; exfalso; omega))
  · rw [hk1, w1, Int.toNat_natCast, tb] at c
    exact c
  · rw [hk1, w1, Int.toNat_natCast, tb] at c
    rw [hk1, w2, w3, Int.toNat_natCast, Int.toNat_natCast, ta, tb]
    exact ce_eq (by rw [eC_len]; omega) (ew_u (by omega)).symm (h c _ (eC_push (eC_low (eC_low hm))))
theorem ce_end (hp : to ≤ p) (h : ∀ m, (∀ c', c' ≠ 51 → m c' = m0 c') → Q (some (.inl v)) m) : CE bk xs n m0 to ([] ++ [v]) p Q := by
  intro m hm
  have el : (([] ++ [v] : List Int).length : Int) = 1 := rfl
  have w0 : gx_w ((([] ++ [v] : List Int).length : Int) - 1) = 0 := by
    rw [el, gx_w_id (by omega) (by omega)]
    rfl
  have tv : m 51 (gx_w ((([] ++ [v] : List Int).length : Int) - 1)).toNat = v := by
    rw [w0]
    exact eC_top (S := []) hm
  refine hx_dn (hr58_10 (by intros; exfalso; omega) (fun _ _ => ?_) (by intros; exfalso; omega) (fun _ _ _ => ?_) (by intros; exfalso; omega) (by intros; exfalso; omega) (by intros; exfalso; omega) (by intros; exfalso; omega) (by intros; exfalso; omega) (by intros; exfalso; omega) (by intros; exfalso; omega) (by intros; exfalso; omega) (by intros; exfalso; omega) (by intros; exfalso; omega) (by intros; exfalso; omega) (by intros; exfalso; omega) (by intros; exfalso; omega) (by intros; exfalso; omega) (by intros; exfalso; omega))
  · rw [tv]
    exact h m hm.1
  · rw [tv]
    exact h m hm.1
theorem re_num (hk : m0 97 p = 1048576 * 0 + v) (hv : 0 ≤ v ∧ v < 1048576) (hp : p < to) (ht : to ≤ 240) (hh : S.length + 2 ≤ 64) (h : RE xs n m0 to (S ++ [v]) (p + 1) Q) : RE xs n m0 to S p Q := by
  intro m hm
  have hb : m 97 ((p : Int)).toNat = 1048576 * 0 + v := by
    rw [Int.toNat_natCast, hm.1 97 (by decide)]; exact hk
  have k1 : gx_w (Int.tdiv (m 97 ((p : Int)).toNat) 1048576) = 0 := by
    exact (e_td hb (by omega) (by omega)).1
  have k2 : Int.tmod (m 97 ((p : Int)).toNat) 1048576 = v := by
    exact (e_td hb (by omega) (by omega)).2
  refine hx_dn (hr208_16 (by intros; exfalso; omega) (fun _ _ _ => ?_) (by intros; exfalso; omega) (by intros; exfalso; omega) (by intros; exfalso; omega) (by intros; exfalso; omega) (by intros; exfalso; omega) (by intros; exfalso; omega) (by intros; exfalso; omega) (by intros; exfalso; omega) (by intros; exfalso; omega) (by intros; exfalso; omega) (by intros; exfalso; omega))
  rw [k2, Int.toNat_natCast]
  exact re_eq (by rw [eC_len, gx_w_id (by omega) (by omega)]) (ew_u (by omega)).symm (h _ (eC_push hm))
theorem re_let {q : Nat} (hk : m0 97 p = 1048576 * 1 + (q : Int)) (hq : q < 1000) (hv : m0 103 q = v) (hp : p < to) (ht : to ≤ 240) (hh : S.length + 2 ≤ 64) (h : RE xs n m0 to (S ++ [v]) (p + 1) Q) : RE xs n m0 to S p Q := by
  intro m hm
  have hb : m 97 ((p : Int)).toNat = 1048576 * 1 + (q : Int) := by
    rw [Int.toNat_natCast, hm.1 97 (by decide)]; exact hk
  have k1 : gx_w (Int.tdiv (m 97 ((p : Int)).toNat) 1048576) = 1 := by
    exact (e_td hb (by omega) (by omega)).1
  have k2 : Int.tmod (m 97 ((p : Int)).toNat) 1048576 = (q : Int) := by
    exact (e_td hb (by omega) (by omega)).2
  refine hx_dn (hr208_16 (by intros; exfalso; omega) (by intros; exfalso; omega) (by intros; exfalso; omega) (by intros; exfalso; omega) (by intros; exfalso; omega) (by intros; exfalso; omega) (by intros; exfalso; omega) (by intros; exfalso; omega) (by intros; exfalso; omega) (by intros; exfalso; omega) (by intros; exfalso; omega) (by intros; exfalso; omega) (fun _ _ _ _ => ?_))
  rw [k2, Int.toNat_natCast, Int.toNat_natCast, hm.1 103 (by decide), hv]
  exact re_eq (by rw [eC_len, gx_w_id (by omega) (by omega)]) (ew_u (by omega)).symm (h _ (eC_push hm))
theorem re_not (hk : m0 97 p = 1048576 * 10 + 0) (hv : v = 0 ∨ v = 1) (hp : p < to) (ht : to ≤ 240) (hh : S.length + 2 ≤ 64) (h : RE xs n m0 to (S ++ [1 - v]) (p + 1) Q) : RE xs n m0 to (S ++ [v]) p Q := by
  intro m hm
  have el : ((S ++ [v]).length : Int) = (S.length : Int) + 1 := eC_len
  rw [el]
  have w1 : gx_w ((S.length : Int) + 1 - 1) = (S.length : Int) := by
    rw [gx_w_id (by omega) (by omega)]; omega
  have w2 : gx_w ((S.length : Int) + 1 - 1) = (S.length : Int) := by
    rw [gx_w_id (by omega) (by omega)]; omega
  have hb : m 97 ((p : Int)).toNat = 1048576 * 10 + 0 := by
    rw [Int.toNat_natCast, hm.1 97 (by decide)]; exact hk
  have k1 : gx_w (Int.tdiv (m 97 ((p : Int)).toNat) 1048576) = 10 := by
    exact (e_td hb (by omega) (by omega)).1
  have k2 : Int.tmod (m 97 ((p : Int)).toNat) 1048576 = 0 := by
    exact (e_td hb (by omega) (by omega)).2
  have tv : m 102 (gx_w ((S.length : Int) + 1 - 1)).toNat = v := by
    rw [w1, Int.toNat_natCast]; exact eC_top hm
  refine hx_dn (hr208_16 (by intros; exfalso; omega) (by intros; exfalso; omega) (by intros; exfalso; omega) (by intros; exfalso; omega) (by intros; exfalso; omega) (by intros; exfalso; omega) (by intros; exfalso; omega) (by intros; exfalso; omega) (by intros; exfalso; omega) (by intros; exfalso; omega) (by intros; exfalso; omega) (fun _ _ _ _ => ?_) (by intros; exfalso; omega))
  rw [tv, w1, Int.toNat_natCast, gx_w_id (x := 1 - v) (by omega) (by omega)]
  exact re_eq eC_len (ew_u (by omega)).symm (h _ (eC_push (eC_low hm)))
theorem re_and0 {q : Nat} (hk : m0 97 p = 1048576 * 11 + (q : Int)) (hv : v = 0) (hp : p < to) (ht : to ≤ 240) (hh : S.length + 2 ≤ 64) (hq : q ≤ 240) (h : RE xs n m0 to (S ++ [v]) q Q) : RE xs n m0 to (S ++ [v]) p Q := by
  intro m hm
  have el : ((S ++ [v]).length : Int) = (S.length : Int) + 1 := eC_len
  rw [el]
  have w1 : gx_w ((S.length : Int) + 1 - 1) = (S.length : Int) := by
    rw [gx_w_id (by omega) (by omega)]; omega
  have w2 : gx_w ((S.length : Int) + 1 - 1) = (S.length : Int) := by
    rw [gx_w_id (by omega) (by omega)]; omega
  have hb : m 97 ((p : Int)).toNat = 1048576 * 11 + (q : Int) := by
    rw [Int.toNat_natCast, hm.1 97 (by decide)]; exact hk
  have k1 : gx_w (Int.tdiv (m 97 ((p : Int)).toNat) 1048576) = 11 := by
    exact (e_td hb (by omega) (by omega)).1
  have k2 : Int.tmod (m 97 ((p : Int)).toNat) 1048576 = (q : Int) := by
    exact (e_td hb (by omega) (by omega)).2
  have tv : m 102 (gx_w ((S.length : Int) + 1 - 1)).toNat = v := by
    rw [w1, Int.toNat_natCast]; exact eC_top hm
  refine hx_dn (hr208_16 (by intros; exfalso; omega) (by intros; exfalso; omega) (by intros; exfalso; omega) (fun _ _ _ _ _ _ _ => ?_) (by intros; exfalso; omega) (by intros; exfalso; omega) (by intros; exfalso; omega) (by intros; exfalso; omega) (by intros; exfalso; omega) (by intros; exfalso; omega) (by intros; exfalso; omega) (by intros; exfalso; omega) (by intros; exfalso; omega))
  rw [k2]
  exact re_eq eC_len (by rw [gx_w_id (by omega) (by omega)]; omega) (h _ hm)
theorem re_and1 {q : Nat} (hk : m0 97 p = 1048576 * 11 + (q : Int)) (hv : v ≠ 0) (hp : p < to) (ht : to ≤ 240) (hh : S.length + 2 ≤ 64) (hq : q ≤ 240) (h : RE xs n m0 to S (p + 1) Q) : RE xs n m0 to (S ++ [v]) p Q := by
  intro m hm
  have el : ((S ++ [v]).length : Int) = (S.length : Int) + 1 := eC_len
  rw [el]
  have w1 : gx_w ((S.length : Int) + 1 - 1) = (S.length : Int) := by
    rw [gx_w_id (by omega) (by omega)]; omega
  have w2 : gx_w ((S.length : Int) + 1 - 1) = (S.length : Int) := by
    rw [gx_w_id (by omega) (by omega)]; omega
  have hb : m 97 ((p : Int)).toNat = 1048576 * 11 + (q : Int) := by
    rw [Int.toNat_natCast, hm.1 97 (by decide)]; exact hk
  have k1 : gx_w (Int.tdiv (m 97 ((p : Int)).toNat) 1048576) = 11 := by
    exact (e_td hb (by omega) (by omega)).1
  have k2 : Int.tmod (m 97 ((p : Int)).toNat) 1048576 = (q : Int) := by
    exact (e_td hb (by omega) (by omega)).2
  have tv : m 102 (gx_w ((S.length : Int) + 1 - 1)).toNat = v := by
    rw [w1, Int.toNat_natCast]; exact eC_top hm
  refine hx_dn (hr208_16 (by intros; exfalso; omega) (by intros; exfalso; omega) (fun _ _ _ _ _ _ _ => ?_) (by intros; exfalso; omega) (by intros; exfalso; omega) (by intros; exfalso; omega) (by intros; exfalso; omega) (by intros; exfalso; omega) (by intros; exfalso; omega) (by intros; exfalso; omega) (by intros; exfalso; omega) (by intros; exfalso; omega) (by intros; exfalso; omega))
  rw [w1]
  exact re_eq rfl (ew_u (by omega)).symm (h _ (eC_low hm))
theorem re_or0 {q : Nat} (hk : m0 97 p = 1048576 * 12 + (q : Int)) (hv : v ≠ 1) (hp : p < to) (ht : to ≤ 240) (hh : S.length + 2 ≤ 64) (hq : q ≤ 240) (h : RE xs n m0 to S (p + 1) Q) : RE xs n m0 to (S ++ [v]) p Q := by
  intro m hm
  have el : ((S ++ [v]).length : Int) = (S.length : Int) + 1 := eC_len
  rw [el]
  have w1 : gx_w ((S.length : Int) + 1 - 1) = (S.length : Int) := by
    rw [gx_w_id (by omega) (by omega)]; omega
  have w2 : gx_w ((S.length : Int) + 1 - 1) = (S.length : Int) := by
    rw [gx_w_id (by omega) (by omega)]; omega
  have hb : m 97 ((p : Int)).toNat = 1048576 * 12 + (q : Int) := by
    rw [Int.toNat_natCast, hm.1 97 (by decide)]; exact hk
  have k1 : gx_w (Int.tdiv (m 97 ((p : Int)).toNat) 1048576) = 12 := by
    exact (e_td hb (by omega) (by omega)).1
  have k2 : Int.tmod (m 97 ((p : Int)).toNat) 1048576 = (q : Int) := by
    exact (e_td hb (by omega) (by omega)).2
  have tv : m 102 (gx_w ((S.length : Int) + 1 - 1)).toNat = v := by
    rw [w1, Int.toNat_natCast]; exact eC_top hm
  refine hx_dn (hr208_16 (by intros; exfalso; omega) (by intros; exfalso; omega) (by intros; exfalso; omega) (by intros; exfalso; omega) (by intros; exfalso; omega) (by intros; exfalso; omega) (by intros; exfalso; omega) (by intros; exfalso; omega) (by intros; exfalso; omega) (fun _ _ _ _ _ _ _ _ => ?_) (by intros; exfalso; omega) (by intros; exfalso; omega) (by intros; exfalso; omega))
  rw [w1]
  exact re_eq rfl (ew_u (by omega)).symm (h _ (eC_low hm))
theorem re_or1 {q : Nat} (hk : m0 97 p = 1048576 * 12 + (q : Int)) (hv : v = 1) (hp : p < to) (ht : to ≤ 240) (hh : S.length + 2 ≤ 64) (hq : q ≤ 240) (h : RE xs n m0 to (S ++ [v]) q Q) : RE xs n m0 to (S ++ [v]) p Q := by
  intro m hm
  have el : ((S ++ [v]).length : Int) = (S.length : Int) + 1 := eC_len
  rw [el]
  have w1 : gx_w ((S.length : Int) + 1 - 1) = (S.length : Int) := by
    rw [gx_w_id (by omega) (by omega)]; omega
  have w2 : gx_w ((S.length : Int) + 1 - 1) = (S.length : Int) := by
    rw [gx_w_id (by omega) (by omega)]; omega
  have hb : m 97 ((p : Int)).toNat = 1048576 * 12 + (q : Int) := by
    rw [Int.toNat_natCast, hm.1 97 (by decide)]; exact hk
  have k1 : gx_w (Int.tdiv (m 97 ((p : Int)).toNat) 1048576) = 12 := by
    exact (e_td hb (by omega) (by omega)).1
  have k2 : Int.tmod (m 97 ((p : Int)).toNat) 1048576 = (q : Int) := by
    exact (e_td hb (by omega) (by omega)).2
  have tv : m 102 (gx_w ((S.length : Int) + 1 - 1)).toNat = v := by
    rw [w1, Int.toNat_natCast]; exact eC_top hm
  refine hx_dn (hr208_16 (by intros; exfalso; omega) (by intros; exfalso; omega) (by intros; exfalso; omega) (by intros; exfalso; omega) (by intros; exfalso; omega) (by intros; exfalso; omega) (by intros; exfalso; omega) (by intros; exfalso; omega) (by intros; exfalso; omega) (by intros; exfalso; omega) (fun _ _ _ _ _ _ _ _ => ?_) (by intros; exfalso; omega) (by intros; exfalso; omega))
  rw [k2]
  exact re_eq eC_len (by rw [gx_w_id (by omega) (by omega)]; omega) (h _ hm)
theorem lre_rr (s x y : Int) (hs : s = 42 ∨ s = 47 ∨ s = 37 ∨ s = 43 ∨ s = 45 ∨ s = 60 ∨ s = 62 ∨ s = 61) (h : ¬ rfd s y) : lrr (lop s) x y = lre s x y := by
  unfold rfd at h
  rcases hs with e | e | e | e | e | e | e | e <;> subst e <;> unfold lrr lre lop <;> simp <;> omega
theorem re_bin (hk : m0 97 p = 1048576 * lop s + 0) (hs : s = 42 ∨ s = 47 ∨ s = 37 ∨ s = 43 ∨ s = 45 ∨ s = 60 ∨ s = 62 ∨ s = 61) (hp : p < to) (ht : to ≤ 240) (hh : S.length + 2 ≤ 64) (hz : rfd s b → eZ m0 102 Q) (h : ¬ rfd s b → RE xs n m0 to (S ++ [lre s a b]) (p + 1) Q) : RE xs n m0 to (S ++ [a] ++ [b]) p Q := by
  have hl : (s = 47 ∧ lop s = 5) ∨ (s = 37 ∧ lop s = 6) ∨ (s ≠ 47 ∧ s ≠ 37 ∧ 2 ≤ lop s ∧ lop s ≤ 9 ∧ lop s ≠ 5 ∧ lop s ≠ 6) := by
    unfold lop
    omega
  have hlr := lre_rr s a b hs
  intro m hm
  have el : ((S ++ [a] ++ [b]).length : Int) = (S.length : Int) + 2 := by
    rw [eC_len, eC_len]; omega
  rw [el]
  have w1 : gx_w ((S.length : Int) + 2 - 1) = ((S.length + 1 : Nat) : Int) := by
    rw [gx_w_id (by omega) (by omega)]; omega
  have w2 : gx_w ((S.length : Int) + 2 - 1) = ((S.length + 1 : Nat) : Int) := by
    rw [gx_w_id (by omega) (by omega)]; omega
  have w3 : gx_w (((S.length + 1 : Nat) : Int) - 1) = (S.length : Int) := by
    rw [gx_w_id (by omega) (by omega)]; omega
  have tb := eC_top hm
  rw [List.length_append, List.length_singleton] at tb
  have ta := eC_top (eC_low hm)
  have hb : m 97 ((p : Int)).toNat = 1048576 * lop s + 0 := by
    rw [Int.toNat_natCast, hm.1 97 (by decide)]; exact hk
  have k1 : gx_w (Int.tdiv (m 97 ((p : Int)).toNat) 1048576) = lop s := by
    exact (e_td hb (by omega) (by omega)).1
  have k2 : Int.tmod (m 97 ((p : Int)).toNat) 1048576 = 0 := by
    exact (e_td hb (by omega) (by omega)).2
  have fin : ¬ rfd s b → hxn xs n yp_m208 16 [(0, .inr (.inl 86)), (2, .inl (to : Int)), (3, .inl (gx_w ((S.length : Int) + 2 - 1))), (4, .inl 0), (5, .inl (gx_w ((p : Int) + 1)))] [] (gx_u m 102 (gx_w ((gx_w ((S.length : Int) + 2 - 1)) - 1)).toNat (lrr (gx_w (Int.tdiv (m 97 ((p : Int)).toNat) 1048576)) (m 102 (gx_w ((gx_w ((S.length : Int) + 2 - 1)) - 1)).toNat) (m 102 (gx_w ((S.length : Int) + 2 - 1)).toNat))) Q := fun hr => by
    rw [k1, w1, w3, Int.toNat_natCast, Int.toNat_natCast, ta, tb, hlr hr]
    exact re_eq (by rw [eC_len]; omega) (ew_u (by omega)).symm (h hr _ (eC_push (eC_low (eC_low hm))))
  have tb2 : m 102 (gx_w ((S.length : Int) + 2 - 1)).toNat = b := by
    rw [w1, Int.toNat_natCast]; exact tb
  refine hx_dn (hr208_16 (by intros; exfalso; omega) (by intros; exfalso; omega) (by intros; exfalso; omega) (by intros; exfalso; omega) (fun _ _ _ _ _ _ c1 c => fin (by unfold rfd; omega)) (fun _ _ _ _ _ _ c1 c => hz (by unfold rfd; omega) _ hm.1) (fun _ _ _ _ _ _ c1 c => fin (by unfold rfd; omega)) (fun _ _ _ _ _ _ _ c1 c => fin (by unfold rfd; omega)) (fun _ _ _ _ _ _ _ c1 c => hz (by unfold rfd; omega) _ hm.1) (by intros; exfalso; omega) (by intros; exfalso; omega) (by intros; exfalso; omega) (by intros; exfalso; omega))
theorem re_end (hp : to ≤ p) (h : ∀ m, (∀ c', c' ≠ 102 → m c' = m0 c') → Q (some (.inl v)) m) : RE xs n m0 to ([] ++ [v]) p Q := by
  intro m hm
  have tv : m 102 0 = v := eC_top (S := []) hm
  refine hx_dn (hr208_16 (fun _ => ?_) (by intros; exfalso; omega) (by intros; exfalso; omega) (by intros; exfalso; omega) (by intros; exfalso; omega) (by intros; exfalso; omega) (by intros; exfalso; omega) (by intros; exfalso; omega) (by intros; exfalso; omega) (by intros; exfalso; omega) (by intros; exfalso; omega) (by intros; exfalso; omega) (by intros; exfalso; omega))
  rw [tv]
  exact h m hm.1
end CEV
