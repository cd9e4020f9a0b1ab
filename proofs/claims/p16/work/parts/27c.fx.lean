/-! steps of a block that look at the world, and blocks -/
section FXH
variable {P : sx_P} {xs : List Int32} {S : ax_W} {nL : Nat} {C : Prop} {L : sx_L} {st : List Value} {w : sx_W} {r : fx_R} {lv : sx_L}
theorem fx_p_set {w : sx_W} {c t k : Nat} {vs : List Value} {v : Int32} (h : w[c]? = some (t, vs)) : fx_p w c k v = w.set c (t, vs.set k (.int v)) := by
  unfold fx_p
  rw [h]
theorem fx_heap {E : sx_E} (hg : match E.2.1 with | .getfield _ => True | .putfield _ => True | .iaload => True | .iastore => True | _ => False) (h : fx_1 P S nL E C L st w = some r) (hC : r.1) (hl : fx_has lv L) (hw : bx_in S w) : fx_res P xs S nL E C st w lv r := by
  obtain ⟨pc, I, len, a, k, q, z⟩ := E
  cases I
  case getfield i =>
    dsimp only [fx_1] at h
    split at h
    · rename_i c r0
      split at h
      · rename_i q0 hq0
        have hS := fx_wr_ok hq0
        split at h
        · rename_i ha
          split at h
          · rename_i c' _ hn
            cases h
            obtain ⟨vs, v, h1, h2, h3, h4, h5⟩ := fx_cell hw hS hn
            have hv : v = .ref c'.toNat := h4
            subst hv
            refine ⟨hC, lv, ?_, hl, hw⟩
            dsimp only [sx_step]
            unfold sx_getf
            dsimp only
            rw [h1]
            dsimp only
            rw [if_pos ⟨rfl, ha⟩, h3]
          · rename_i hn
            cases h
            obtain ⟨vs, h1, h2, h3, h4, -, -⟩ := fx_int hw hS hn
            refine ⟨hC, lv, ?_, hl, hw⟩
            dsimp only [sx_step]
            unfold sx_getf
            dsimp only
            rw [h1]
            dsimp only
            rw [if_pos ⟨rfl, ha⟩, h3]
          · cases h
        · cases h
      · cases h
    · cases h
  case putfield i =>
    dsimp only [fx_1] at h
    split at h
    · rename_i v c r0
      split at h
      · rename_i q0 hq0
        have hS := fx_wr_ok hq0
        split at h
        · rename_i ha
          cases h
          obtain ⟨vs, h1, h2, h3, h4, -, -⟩ := fx_int hw hS ha.2
          obtain ⟨hC1, hC2⟩ := hC
          refine ⟨hC1, lv, ?_, hl, fx_p_in hw hS ha.2⟩
          dsimp only [sx_step]
          unfold sx_putf
          dsimp only
          rw [h1]
          dsimp only
          rw [if_pos ⟨rfl, ha.1, h4, hC2⟩, fx_p_set h1]
        · cases h
      · cases h
    · cases h
  case iaload =>
    dsimp only [fx_1] at h
    split at h
    · rename_i i c r0
      split at h
      · rename_i q0 hq0
        have hS := fx_wr_ok hq0
        split at h
        · rename_i ha
          cases h
          obtain ⟨hC1, hC2, hC3⟩ := hC
          obtain ⟨vs, h1, h2, h3, h4, -, -⟩ := fx_int hw hS (fx_all_nth q0 i.toInt.toNat ha (by omega))
          refine ⟨hC1, lv, ?_, hl, hw⟩
          dsimp only [sx_step]
          unfold sx_aget
          dsimp only
          rw [h1]
          dsimp only
          rw [if_pos rfl, ax_ix hC2 (by omega)]
          dsimp only
          rw [h3]
        · cases h
      · cases h
    · cases h
  case iastore =>
    dsimp only [fx_1] at h
    split at h
    · rename_i v i c r0
      split at h
      · rename_i q0 hq0
        have hS := fx_wr_ok hq0
        split at h
        · rename_i ha
          cases h
          obtain ⟨hC1, hC2, hC3⟩ := hC
          have hn := fx_all_nth q0 i.toInt.toNat ha (by omega)
          obtain ⟨vs, h1, h2, h3, h4, -, -⟩ := fx_int hw hS hn
          refine ⟨hC1, lv, ?_, hl, fx_p_in hw hS hn⟩
          dsimp only [sx_step]
          unfold sx_aput
          dsimp only
          rw [h1]
          dsimp only
          rw [if_pos rfl, ax_ix hC2 (by omega)]
          dsimp only
          rw [fx_p_set h1]
        · cases h
      · cases h
    · cases h
  all_goals exact hg.elim
theorem fx_1_ok {E : sx_E} (h : fx_1 P S nL E C L st w = some r) (hC : r.1) (hl : fx_has lv L) (hw : bx_in S w) : fx_res P xs S nL E C st w lv r := by
  by_cases hg : match E.2.1 with | .getfield _ => True | .putfield _ => True | .iaload => True | .iastore => True | _ => False
  · exact fx_heap hg h hC hl hw
  · refine fx_pure ?_ h hC hl hw
    split <;> rename_i he <;> (first | (exact hg (by rw [he]; trivial)) | trivial)
end FXH
