/-! a row of code by its place, quickly found -/
noncomputable def sx_fnd (pc : Nat) (l : List sx_E) : Option sx_E := List.rec (motive := fun _ => Option sx_E) none (fun E _ r => Bool.rec (motive := fun _ => Option sx_E) r (some E) (Nat.beq E.1 pc)) l
theorem sx_fnd_eq {pc : Nat} : ∀ {l : List sx_E}, sx_fnd pc l = l.find? (fun E => E.1 == pc)
  | [] => rfl
  | E :: t => by
    have e : (E.1 == pc) = Nat.beq E.1 pc := by
      by_cases c : E.1 = pc
      · rw [c, beq_self_eq_true, Nat.beq_refl]
      · rw [beq_eq_false_iff_ne.mpr c]
        exact (Bool.eq_false_iff.mpr (fun h => c (Nat.eq_of_beq_eq_true h))).symm
    rw [List.find?_cons, e, ← sx_fnd_eq (l := t)]
    show Bool.rec (motive := fun _ => Option sx_E) (sx_fnd pc t) (some E) (Nat.beq E.1 pc) = _
    cases Nat.beq E.1 pc <;> rfl
/-! a place of a list, quickly found -/
noncomputable def sx_nth {α : Type} (l : List α) (k : Nat) : Option α := List.rec (motive := fun _ => Nat → Option α) (fun _ => none) (fun a _ r k => Nat.rec (motive := fun _ => Option α) (some a) (fun j _ => r j) k) l k
theorem sx_nth_eq {α : Type} : ∀ (l : List α) (k : Nat), sx_nth l k = l[k]?
  | [], _ => rfl
  | _ :: _, 0 => rfl
  | _ :: t, k + 1 => sx_nth_eq t k
