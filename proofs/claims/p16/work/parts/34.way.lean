/-! a call of the class and the same call of the reference, one behind the other -/
def hInt (v : hV) : Prop := ∃ x, v = .inl x
def hLng (v : hV) : Prop := ∃ x, v = .inr (.inr x)
def hDisj (mods : bx_M) (P : List (Nat × Nat × Nat)) : Bool := P.all (fun q => mods.all (fun x => decide (x.1 ≠ q.1) || decide (x.2.2 ≤ q.2.1) || decide (q.2.2 ≤ x.2.1)))
theorem hDisj_ok {mods : bx_M} {P : List (Nat × Nat × Nat)} {m m' : gx_M} (h : gx_fw mods m m') (hd : hDisj mods P = true) : hAg P m m' := by
  intro q hq k h1 h2
  refine h q.1 k (fun x hx hc => ?_)
  have h3 := List.all_eq_true.mp (List.all_eq_true.mp hd q hq) x hx
  rw [Bool.or_eq_true, Bool.or_eq_true, decide_eq_true_eq, decide_eq_true_eq, decide_eq_true_eq] at h3
  rcases h3 with (h3 | h3) | h3
  · exact h3 hc.1
  · omega
  · omega
noncomputable def hCon (gX : gx_M → Prop) (xs : List Int32) (M : sx_M) (L : hLs) (mods : bx_M) (T : hV → Prop) : Prop := ∀ (n : Nat) (m : gx_M), hJ gX m → hxn xs n M 0 L [] m (fun r m' => (∃ v, r = some v ∧ T v) ∧ hJ gX m' ∧ gx_fw mods m m')
theorem hCon_i {gX : gx_M → Prop} {xs : List Int32} {mi dk : Nat} {pre : ax_L} {exits : List bx_E} {mods : bx_M} {lm : List Nat} {ctr : Option (Nat × Bool)} {M : sx_M} {L : hLs} (hc : hXc gX) (hK : bx_Kok yp_P xs bw_INV (gx_XW gX) (mi, 0, pre, [], exits, mods, lm, dk, ctr)) (hM : yp_P.2.2.2.1[mi]? = some M) (hst : bx_star mods = false) (hall : exits.all (fun e => match e.1 with
    | some (some a) => decide (a.1 = 0)
    | _ => false) = true) (hp : hpre pre L) : hCon gX xs M L mods hInt := by
  intro n m hj
  refine hx_K hc hK hM hst ?_ hp hj (fun r m' he j f => ⟨?_, j, f⟩)
  · refine List.all_eq_true.mpr (fun e hm => ?_)
    have := List.all_eq_true.mp hall e hm
    split at this
    · rename_i a ha
      rw [ha]
      dsimp only
      rw [this, Bool.true_or]
    · cases this
  · obtain ⟨e, hm, he⟩ := he
    have := List.all_eq_true.mp hall e hm
    split at this
    · rename_i a ha
      rw [ha] at he
      have ha0 := of_decide_eq_true this
      cases r with
      | none => exact he.elim
      | some v =>
        rcases v with x | c | x
        · exact ⟨_, rfl, x, rfl⟩
        · exact he.elim
        · have he : a.1 = 1 := he
          omega
    · cases this
theorem hCon_l {gX : gx_M → Prop} {xs : List Int32} {mi dk : Nat} {pre : ax_L} {exits : List bx_E} {mods : bx_M} {lm : List Nat} {ctr : Option (Nat × Bool)} {M : sx_M} {L : hLs} (hc : hXc gX) (hK : bx_Kok yp_P xs bw_INV (gx_XW gX) (mi, 0, pre, [], exits, mods, lm, dk, ctr)) (hM : yp_P.2.2.2.1[mi]? = some M) (hst : bx_star mods = false) (hall : exits.all (fun e => match e.1 with
    | some (some a) => decide (a.1 = 1)
    | _ => false) = true) (hp : hpre pre L) : hCon gX xs M L mods hLng := by
  intro n m hj
  refine hx_K hc hK hM hst ?_ hp hj (fun r m' he j f => ⟨?_, j, f⟩)
  · refine List.all_eq_true.mpr (fun e hm => ?_)
    have := List.all_eq_true.mp hall e hm
    split at this
    · rename_i a ha
      rw [ha]
      dsimp only
      rw [this, Bool.or_true]
    · cases this
  · obtain ⟨e, hm, he⟩ := he
    have := List.all_eq_true.mp hall e hm
    split at this
    · rename_i a ha
      rw [ha] at he
      have ha0 := of_decide_eq_true this
      cases r with
      | none => exact he.elim
      | some v =>
        rcases v with x | c | x
        · have he : a.1 = 0 ∧ _ := he
          omega
        · exact he.elim
        · exact ⟨_, rfl, x, rfl⟩
    · cases this
def hCi (T : hV → Prop) (a b : hV) : Prop := T a ∧ T b
def hCe (T : hV → Prop) (a b : hV) : Prop := T a ∧ b = a
theorem hCe.i {T : hV → Prop} {a b : hV} (h : hCe T a b) : hCi T a b := ⟨h.1, by rw [h.2]; exact h.1⟩
noncomputable def hWay (gX R : gx_M → Prop) (xs : List Int32) (M1 M2 : sx_M) (L1 L2 : hLs) (C : hV → hV → Prop) : Prop := ∀ (n : Nat) (m : gx_M), hJ gX m → R m → hxn xs n M1 0 L1 [] m (fun r1 m1 => ∃ v1, r1 = some v1 ∧ hxn xs n M2 0 L2 [] m1 (fun r2 m2 => ∃ v2, r2 = some v2 ∧ hJ gX m2 ∧ R m2 ∧ C v1 v2))
theorem hWay.mono {gX R : gx_M → Prop} {xs : List Int32} {M1 M2 : sx_M} {L1 L2 : hLs} {C C' : hV → hV → Prop} (h : hWay gX R xs M1 M2 L1 L2 C) (hc : ∀ a b, C a b → C' a b) : hWay gX R xs M1 M2 L1 L2 C' := fun n m j r =>
  hx_mono (h n m j r) (fun r1 m1 ⟨v1, e1, h1⟩ => ⟨v1, e1, hx_mono h1 (fun r2 m2 ⟨v2, e2, j2, R2, c⟩ => ⟨v2, e2, j2, R2, hc _ _ c⟩)⟩)
/-- two calls that leave alone what the relation rests on -/
theorem hway_fr {gX R : gx_M → Prop} {xs : List Int32} {M1 M2 : sx_M} {L1 L2 : hLs} {mods1 mods2 : bx_M} {T : hV → Prop} {P : List (Nat × Nat × Nat)} (hRc : ∀ m m', hAg P m m' → R m → R m') (c1 : hCon gX xs M1 L1 mods1 T) (c2 : hCon gX xs M2 L2 mods2 T) (d1 : hDisj mods1 P = true) (d2 : hDisj mods2 P = true) : hWay gX R xs M1 M2 L1 L2 (hCi T) := fun n m j r =>
  hx_mono (c1 n m j) (fun r1 m1 ⟨⟨v1, e1, t1⟩, j1, f1⟩ => ⟨v1, e1, hx_mono (c2 n m1 j1) (fun r2 m2 ⟨⟨v2, e2, t2⟩, j2, f2⟩ => ⟨v2, e2, j2, hRc _ _ (hDisj_ok f2 d2) (hRc _ _ (hDisj_ok f1 d1) r), t1, t2⟩)⟩)
/-- the second one puts the row 87 back -/
theorem hway_bk {gX R : gx_M → Prop} {xs : List Int32} {M1 M2 : sx_M} {L1 L2 : hLs} {mods1 mods2 : bx_M} {T : hV → Prop} {P : List (Nat × Nat × Nat)} (hRc : ∀ m m', hAg P m m' → R m → R m') (c1 : hCon gX xs M1 L1 mods1 T) (c2 : hCon gX xs M2 L2 mods2 T) (b2 : ∀ n m, hxn xs n M2 0 L2 [] m (fun _ m' => ∀ k, k < 1131 → m' 87 k = m 87 k)) (d1 : hDisj mods1 P = true) (d2 : hDisj mods2 (P.filter (fun q => !(decide (q.1 = 87)))) = true) (d3 : P.all (fun q => decide (q.2.2 ≤ 1131)) = true) : hWay gX R xs M1 M2 L1 L2 (hCi T) := fun n m j r =>
  hx_mono (c1 n m j) (fun r1 m1 ⟨⟨v1, e1, t1⟩, j1, f1⟩ => ⟨v1, e1, hx_and (c2 n m1 j1) (b2 n m1) (fun r2 m2 ⟨⟨v2, e2, t2⟩, j2, f2⟩ hb => ⟨v2, e2, j2, hRc m1 m2 (fun q hq k h1 h2 => by
    by_cases h87 : q.1 = 87
    · rw [h87]
      exact hb k (Nat.lt_of_lt_of_le h2 (of_decide_eq_true (List.all_eq_true.mp d3 q hq)))
    · exact hDisj_ok f2 d2 q (List.mem_filter.mpr ⟨hq, by rw [decide_eq_false h87]; rfl⟩) k h1 h2) (hRc _ _ (hDisj_ok f1 d1) r), t1, t2⟩)⟩)
/-- two calls with what was shown of them -/
theorem hway_sp {gX R : gx_M → Prop} {xs : List Int32} {M1 M2 : sx_M} {L1 L2 : hLs} {mods1 mods2 : bx_M} {T T1 T2 : hV → Prop} (c1 : hCon gX xs M1 L1 mods1 T1) (c2 : hCon gX xs M2 L2 mods2 T2) (sp : ∀ n m, hJ gX m → R m → hxn xs n M1 0 L1 [] m (fun r1 m1 => ∃ v, (r1 = some v ∧ T v) ∧ hxn xs n M2 0 L2 [] m1 (fun r2 m2 => r2 = some v ∧ R m2))) : hWay gX R xs M1 M2 L1 L2 (hCe T) := fun n m j r =>
  hx_and (sp n m j r) (c1 n m j) (fun r1 m1 ⟨v, ⟨e1, t⟩, h1⟩ ⟨_, j1, _⟩ => ⟨v, e1, hx_and h1 (c2 n m1 j1) (fun r2 m2 ⟨e2, r2'⟩ ⟨_, j2, _⟩ => ⟨v, e2, j2, r2', t, rfl⟩)⟩)
