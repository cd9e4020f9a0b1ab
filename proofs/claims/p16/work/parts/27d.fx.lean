/-! blocks: so many instructions one behind another -/
noncomputable def fx_ex (P : sx_P) (M : sx_M) (S : ax_W) : Nat → Prop → Nat → sx_L → List Value → sx_W → Option fx_R
  | 0, C, pc, L, st, w => some (C, pc, L, st, w)
  | n + 1, C, pc, L, st, w => match sx_row M pc with
    | none => none
    | some E => if sx_isRet E.2.1 = true ∨ sx_isCall E = true then none else match fx_1 P S M.2.2.1 E C L st w with
      | some r => fx_ex P M S n r.1 r.2.1 r.2.2.1 r.2.2.2.1 r.2.2.2.2
      | none => none
section FXE0
variable {P : sx_P} {S : ax_W} {M : sx_M}
theorem fx_1_C {nL : Nat} {E : sx_E} {C : Prop} {L : sx_L} {st : List Value} {w : sx_W} {r : fx_R} (h : fx_1 P S nL E C L st w = some r) (hC : r.1) : C := by
  obtain ⟨pc, I, len, a, k, q, z⟩ := E
  unfold fx_1 at h
  dsimp only at h
  repeat' split at h
  all_goals first
    | (cases h; done)
    | (cases h; exact hC)
    | (cases h; exact hC.1)
theorem fx_ex_C : ∀ (n : Nat) (C : Prop) (pc : Nat) (L : sx_L) (st : List Value) (w : sx_W) (r : fx_R), fx_ex P M S n C pc L st w = some r → r.1 → C := by
  intro n
  induction n with
  | zero => intro C pc L st w r h hC; cases h; exact hC
  | succ n ih =>
    intro C pc L st w r h hC
    unfold fx_ex at h
    split at h
    · cases h
    · split at h
      · cases h
      · split at h
        · rename_i r1 hr1
          exact fx_1_C hr1 (ih _ _ _ _ _ _ h hC)
        · cases h
end FXE0
section FXE
variable {P : sx_P} {xs : List Int32} {S : ax_W} {M : sx_M}
theorem fx_ex_ok : ∀ (n : Nat) (C : Prop) (pc : Nat) (L : sx_L) (st : List Value) (w : sx_W) (r : fx_R) (lv : sx_L), fx_ex P M S n C pc L st w = some r → r.1 → fx_has lv L → bx_in S w → C ∧ ∃ lv', fx_has lv' r.2.2.1 ∧ bx_in S r.2.2.2.2 ∧ ∀ d o, sx_rn P xs d M r.2.1 lv' r.2.2.2.1 r.2.2.2.2 o → sx_rn P xs d M pc lv st w o := by
  intro n
  induction n with
  | zero =>
    intro C pc L st w r lv h hC hl hw
    cases h
    exact ⟨hC, lv, hl, hw, fun _ _ h => h⟩
  | succ n ih =>
    intro C pc L st w r lv h hC hl hw
    unfold fx_ex at h
    split at h
    · cases h
    · rename_i E hE
      split at h
      · cases h
      · rename_i hnc
        have hr : sx_isRet E.2.1 = false := by
          cases hb : sx_isRet E.2.1 with
          | false => rfl
          | true => exact absurd (Or.inl hb) hnc
        have hc : sx_isCall E = false := by
          cases hb : sx_isCall E with
          | false => rfl
          | true => exact absurd (Or.inr hb) hnc
        split at h
        · rename_i r1 hr1
          have hrest : r1.1 := fx_ex_C n _ _ _ _ _ _ h hC
          obtain ⟨h1, lv1, h2, h3, h4⟩ := fx_1_ok (xs := xs) hr1 hrest hl hw
          obtain ⟨-, lv', h5, h6, h7⟩ := ih _ _ _ _ _ _ lv1 h hC h3 h4
          exact ⟨h1, lv', h5, h6, fun d o ho => sx_rn_step hE hr hc h2 ⟨rfl, rfl⟩ (h7 d o ho)⟩
        · cases h
end FXE
