/-! a straight stretch of a road, so many steps of it -/
def ax_for (P : sx_P) : Nat → sx_M → Nat → Nat → ax_S → Option ax_S
  | 0, _, _, _, S => some S
  | n + 1, M, mc, ms, S => match S with
    | (env, pc, l, st, w, c, s) => match M.2.2.2.2.2.2.2.find? (fun E => E.1 == pc) with
      | none => none
      | some E => match ax_ret env M.2.2.2.1 E.2.1 st with
        | some _ => none
        | none => if sx_isCall E then none else (match ax_step P M.2.2.1 E (env, pc, l, st, w, c, s) with
          | some [S'] => if S'.2.2.2.2.2.1 ≤ mc ∧ S'.2.2.2.2.2.2 ≤ ms then ax_for P n M mc ms S' else none
          | _ => none)
theorem ax_all_1 {α : Type} (f : α → Option (List ax_O)) (a : α) : ax_all f [a] = f a := by
  unfold ax_all
  cases h : f a with
  | none => rfl
  | some x => simp [ax_all]
theorem ax_for_run {P : sx_P} {T : ax_T} {d : Nat} {M : sx_M} {mc ms m : Nat} {S1 : ax_S} : ∀ (n : Nat) (S : ax_S), ax_for P n M mc ms S = some S1 → ax_run P T (n + m) d M mc ms S = ax_run P T m d M mc ms S1 := by
  intro n
  induction n with
  | zero => intro S h; cases h; rw [Nat.zero_add]
  | succ n ih =>
    intro S h
    obtain ⟨env, pc, l, st, w, c, s⟩ := S
    rw [show n + 1 + m = (n + m) + 1 from by omega]
    generalize hR : ax_run P T m d M mc ms S1 = R
    unfold ax_for at h
    dsimp only at h
    unfold ax_run
    dsimp only
    split at h
    · cases h
    · rename_i E hE
      rw [hE]
      dsimp only
      split at h
      · cases h
      · rename_i hr
        rw [hr]
        dsimp only
        split at h
        · cases h
        · rename_i hc
          rw [if_neg hc]
          split at h
          · rename_i S' hS
            rw [hS]
            dsimp only
            rw [ax_all_1]
            split at h
            · rename_i hb
              rw [if_pos hb]
              exact (ih S' h).trans hR
            · cases h
          · cases h
def ax_eqS (o : Option ax_S) (S : ax_S) : Bool := match o with
  | none => false
  | some q => decide (q.1 = S.1) && decide (q.2.1 = S.2.1) && decide (q.2.2.1 = S.2.2.1) && decide (q.2.2.2.1 = S.2.2.2.1) && ax_eqW q.2.2.2.2.1 S.2.2.2.2.1 && decide (q.2.2.2.2.2.1 = S.2.2.2.2.2.1) && decide (q.2.2.2.2.2.2 = S.2.2.2.2.2.2)
theorem ax_eqS_ok {o : Option ax_S} {S : ax_S} (h : ax_eqS o S = true) : o = some S := by
  unfold ax_eqS at h
  split at h
  · cases h
  · rename_i q
    simp only [Bool.and_eq_true, decide_eq_true_eq] at h
    obtain ⟨⟨⟨⟨⟨⟨h1, h2⟩, h3⟩, h4⟩, h5⟩, h6⟩, h7⟩ := h
    obtain ⟨a1, a2, a3, a4, a5, a6, a7⟩ := q
    obtain ⟨b1, b2, b3, b4, b5, b6, b7⟩ := S
    dsimp only at h1 h2 h3 h4 h5 h6 h7
    rw [h1, h2, h3, h4, ax_eqW_ok _ _ h5, h6, h7]
