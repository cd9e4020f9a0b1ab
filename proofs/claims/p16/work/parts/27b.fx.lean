/-! an instruction of such a block is a step of the simple machine -/
theorem fx_get_ok {lv L : sx_L} {i : Nat} {v : Value} (hl : fx_has lv L) (h : fx_get L i = some v) : sx_get lv i = some v := (hl _ (fx_get_mem h)).1
section FXS
variable {P : sx_P} {xs : List Int32} {S : ax_W} {nL : Nat} {C : Prop} {L : sx_L} {st : List Value} {w : sx_W} {r : fx_R} {lv : sx_L}
def fx_res (P : sx_P) (xs : List Int32) (S : ax_W) (nL : Nat) (E : sx_E) (C : Prop) (st : List Value) (w : sx_W) (lv : sx_L) (r : fx_R) : Prop := C ∧ ∃ lv', sx_step P xs nL E lv st w = some (r.2.1, lv', r.2.2.2.1, r.2.2.2.2, 0, 0) ∧ fx_has lv' r.2.2.1 ∧ bx_in S r.2.2.2.2
/-- all but the steps that look at the world -/
theorem fx_pure {E : sx_E} (hg : match E.2.1 with | .getfield _ => False | .putfield _ => False | .iaload => False | .iastore => False | _ => True) (h : fx_1 P S nL E C L st w = some r) (hC : r.1) (hl : fx_has lv L) (hw : bx_in S w) : fx_res P xs S nL E C st w lv r := by
  obtain ⟨pc, I, len, a, k, q, z⟩ := E
  cases I
  case iconst n => cases h; exact ⟨hC, lv, rfl, hl, hw⟩
  case bipush n => cases h; exact ⟨hC, lv, rfl, hl, hw⟩
  case sipush n => cases h; exact ⟨hC, lv, rfl, hl, hw⟩
  case ldc i => cases h; exact ⟨hC, lv, rfl, hl, hw⟩
  case iload_n i =>
    dsimp only [fx_1] at h
    split at h
    · rename_i x hx
      cases h
      refine ⟨hC, lv, ?_, hl, hw⟩
      dsimp only [sx_step]
      unfold sx_ild
      rw [fx_get_ok hl hx]
    · cases h
  case iload i =>
    dsimp only [fx_1] at h
    split at h
    · rename_i x hx
      cases h
      refine ⟨hC, lv, ?_, hl, hw⟩
      dsimp only [sx_step]
      unfold sx_ild
      rw [fx_get_ok hl hx]
    · cases h
  case aload_n i =>
    dsimp only [fx_1] at h
    split at h
    · rename_i x hx
      cases h
      refine ⟨hC, lv, ?_, hl, hw⟩
      dsimp only [sx_step]
      unfold sx_ald
      rw [fx_get_ok hl hx]
    · cases h
  case istore_n i =>
    dsimp only [fx_1] at h
    split at h
    · split at h
      · rename_i hi
        cases h
        refine ⟨hC, _, ?_, fx_has_set hl rfl, hw⟩
        dsimp only [sx_step]
        unfold sx_ist
        dsimp only
        rw [if_pos hi]
      · cases h
    · cases h
  case istore i =>
    dsimp only [fx_1] at h
    split at h
    · split at h
      · rename_i hi
        cases h
        refine ⟨hC, _, ?_, fx_has_set hl rfl, hw⟩
        dsimp only [sx_step]
        unfold sx_ist
        dsimp only
        rw [if_pos hi]
      · cases h
    · cases h
  case iinc i n =>
    dsimp only [fx_1] at h
    split at h
    · rename_i x hx
      split at h
      · rename_i hi
        cases h
        refine ⟨hC, _, ?_, fx_has_set hl rfl, hw⟩
        dsimp only [sx_step]
        unfold sx_iinc
        rw [fx_get_ok hl hx]
        dsimp only
        rw [if_pos hi]
      · cases h
    · cases h
  case idiv =>
    dsimp only [fx_1] at h
    split at h
    · cases h
      obtain ⟨h1, h2⟩ := hC
      refine ⟨h1, lv, ?_, hl, hw⟩
      dsimp only [sx_step]
      unfold sx_b2
      dsimp only
      rw [if_neg h2]
      rfl
    · cases h
  case irem =>
    dsimp only [fx_1] at h
    split at h
    · cases h
      obtain ⟨h1, h2⟩ := hC
      refine ⟨h1, lv, ?_, hl, hw⟩
      dsimp only [sx_step]
      unfold sx_b2
      dsimp only
      rw [if_neg h2]
      rfl
    · cases h
  case dup =>
    dsimp only [fx_1] at h
    split at h
    · cases h; exact ⟨hC, lv, rfl, hl, hw⟩
    · cases h; exact ⟨hC, lv, rfl, hl, hw⟩
    · cases h
  case goto off =>
    dsimp only [fx_1] at h
    split at h
    · rename_i h0
      cases h
      refine ⟨hC, lv, ?_, hl, hw⟩
      dsimp only [sx_step]
      unfold sx_jmp
      rw [if_pos h0]
      rfl
    · cases h
  case getfield i => exact hg.elim
  case putfield i => exact hg.elim
  case iaload => exact hg.elim
  case iastore => exact hg.elim
  all_goals first
    | (cases h; done)
    | (dsimp only [fx_1] at h
       split at h
       · cases h; exact ⟨hC, lv, rfl, hl, hw⟩
       · cases h)
end FXS
