/-! branches between blocks -/
section FXB
variable {P : sx_P} {xs : List Int32} {M : sx_M}
theorem fx_if {d pc len a k q : Nat} {z off : Int} {c : ClassFile.Cond} {x : Int32} {lv : sx_L} {st : List Value} {w : sx_W} {o : sx_O} (hE : sx_row M pc = some (pc, .ifCond c off, len, a, k, q, z)) (h0 : 0 ≤ (pc : Int) + off) (h : sx_rn P xs d M (if sx_cond c x 0 = true then ((pc : Int) + off).toNat else pc + 3) lv st w o) : sx_rn P xs d M pc lv (.int x :: st) w o := by
  refine sx_rn_step hE rfl rfl (r := (if sx_cond c x 0 = true then ((pc : Int) + off).toNat else pc + 3, lv, st, w, 0, 0)) ?_ ⟨rfl, rfl⟩ h
  dsimp only [sx_step]
  unfold sx_jmp
  rw [if_pos h0]
theorem fx_cmp {d pc len a k q : Nat} {z off : Int} {c : ClassFile.Cond} {x y : Int32} {lv : sx_L} {st : List Value} {w : sx_W} {o : sx_O} (hE : sx_row M pc = some (pc, .if_icmp c off, len, a, k, q, z)) (h0 : 0 ≤ (pc : Int) + off) (h : sx_rn P xs d M (if sx_cond c x y = true then ((pc : Int) + off).toNat else pc + 3) lv st w o) : sx_rn P xs d M pc lv (.int y :: .int x :: st) w o := by
  refine sx_rn_step hE rfl rfl (r := (if sx_cond c x y = true then ((pc : Int) + off).toNat else pc + 3, lv, st, w, 0, 0)) ?_ ⟨rfl, rfl⟩ h
  dsimp only [sx_step]
  unfold sx_jmp
  rw [if_pos h0]
end FXB
