/-! a place of the state put anew -/
def su (s : Nat → Int) (k : Nat) (v : Int) : Nat → Int := fun j => if j = k then v else s j
theorem su_self {s : Nat → Int} {k : Nat} {v : Int} : su s k v k = v := if_pos rfl
theorem su_ne {s : Nat → Int} {k j : Nat} {v : Int} (h : j ≠ k) : su s k v j = s j := if_neg h
theorem gx_su {m : gx_M} {c k : Nat} {v : Int} : gx_u m c k v c = su (m c) k v := by
  funext j
  unfold su
  by_cases h : j = k
  · subst h
    rw [if_pos rfl, gx_u_self]
  · rw [if_neg h, gx_u_ne (by omega)]
section SU
variable {b : Nat} {s : Nat → Int} {m : gx_M} {v : Int}
theorem sU_coin {P : Nat} (hP : P < 8) (h : sBk b s m) : sBk b (su s (1120 + P) v) (gx_u m (b + 1) P v) := by
  obtain ⟨⟨a1, a2, a3, a4, a5⟩, h2, h3, h4⟩ := h
  refine ⟨⟨?_, ?_, ?_, ?_, ?_⟩, fun p hp => ?_, fun y hy => ⟨⟨?_, ?_, ?_, ?_, ?_⟩, ?_, fun ht => ?_, ?_, ?_, ?_⟩, fun k hk => ?_⟩
  · rw [gx_u_ne (by omega), su_ne (by omega)]
    exact a1
  · rw [gx_u_ne (by omega), a2]
    exact congrArg (fun x : Nat => (x : Int)) (hmask_ext 40 (fun j hj => by rw [su_ne (by omega)]))
  · rw [gx_u_ne (by omega), a3]
    exact congrArg (fun x : Nat => (x : Int)) (hmask_ext 40 (fun j hj => by rw [su_ne (by omega)]))
  · rw [gx_u_ne (by omega), su_ne (by omega)]
    exact a4
  · rw [gx_u_ne (by omega), su_ne (by omega)]
    exact a5
  · by_cases e : p = P
    · subst e
      rw [gx_u_self, su_self]
    · rw [gx_u_ne (by omega), su_ne (by omega)]
      exact h2 p hp
  · rw [gx_u_ne (by omega), su_ne (by omega)]
    exact (h3 y hy).1.1
  · rw [gx_u_ne (by omega), su_ne (by omega)]
    exact (h3 y hy).1.2.1
  · rw [gx_u_ne (by omega), su_ne (by omega)]
    exact (h3 y hy).1.2.2.1
  · rw [gx_u_ne (by omega), su_ne (by omega)]
    exact (h3 y hy).1.2.2.2.1
  · rw [gx_u_ne (by omega), su_ne (by omega)]
    exact (h3 y hy).1.2.2.2.2
  · rw [gx_u_ne (by omega), su_ne (by omega)]
    exact (h3 y hy).2.1
  · rw [gx_u_ne (by omega), su_ne (by omega)]
    exact (h3 y hy).2.2.1 (by rw [su_ne (by omega)] at ht; exact ht)
  · rw [gx_u_ne (by omega), su_ne (by omega)]
    exact (h3 y hy).2.2.2.1
  · rw [gx_u_ne (by omega), su_ne (by omega)]
    exact (h3 y hy).2.2.2.2.1
  · rw [gx_u_ne (by omega), su_ne (by omega)]
    exact (h3 y hy).2.2.2.2.2
  · rw [gx_u_ne (by omega), su_ne (by omega)]
    exact h4 k hk
theorem sU_date {P : Nat} (hP : P < 40) (h : sBk b s m) : sBk b (su s P v) (gx_u m (b + 2) P v) := by
  obtain ⟨⟨a1, a2, a3, a4, a5⟩, h2, h3, h4⟩ := h
  refine ⟨⟨?_, ?_, ?_, ?_, ?_⟩, fun p hp => ?_, fun y hy => ⟨⟨?_, ?_, ?_, ?_, ?_⟩, ?_, fun ht => ?_, ?_, ?_, ?_⟩, fun k hk => ?_⟩
  · rw [gx_u_ne (by omega), su_ne (by omega)]
    exact a1
  · rw [gx_u_ne (by omega), a2]
    exact congrArg (fun x : Nat => (x : Int)) (hmask_ext 40 (fun j hj => by rw [su_ne (by omega)]))
  · rw [gx_u_ne (by omega), a3]
    exact congrArg (fun x : Nat => (x : Int)) (hmask_ext 40 (fun j hj => by rw [su_ne (by omega)]))
  · rw [gx_u_ne (by omega), su_ne (by omega)]
    exact a4
  · rw [gx_u_ne (by omega), su_ne (by omega)]
    exact a5
  · rw [gx_u_ne (by omega), su_ne (by omega)]
    exact h2 p hp
  · by_cases e : y = P
    · subst e
      rw [gx_u_self, su_self]
    · rw [gx_u_ne (by omega), su_ne (by omega)]
      exact (h3 y hy).1.1
  · rw [gx_u_ne (by omega), su_ne (by omega)]
    exact (h3 y hy).1.2.1
  · rw [gx_u_ne (by omega), su_ne (by omega)]
    exact (h3 y hy).1.2.2.1
  · rw [gx_u_ne (by omega), su_ne (by omega)]
    exact (h3 y hy).1.2.2.2.1
  · rw [gx_u_ne (by omega), su_ne (by omega)]
    exact (h3 y hy).1.2.2.2.2
  · rw [gx_u_ne (by omega), su_ne (by omega)]
    exact (h3 y hy).2.1
  · rw [gx_u_ne (by omega), su_ne (by omega)]
    exact (h3 y hy).2.2.1 (by rw [su_ne (by omega)] at ht; exact ht)
  · rw [gx_u_ne (by omega), su_ne (by omega)]
    exact (h3 y hy).2.2.2.1
  · rw [gx_u_ne (by omega), su_ne (by omega)]
    exact (h3 y hy).2.2.2.2.1
  · rw [gx_u_ne (by omega), su_ne (by omega)]
    exact (h3 y hy).2.2.2.2.2
  · rw [gx_u_ne (by omega), su_ne (by omega)]
    exact h4 k hk
theorem sU_livr {P : Nat} (hP : P < 40) (h : sBk b s m) : sBk b (su s (40 + P) v) (gx_u m (b + 3) P v) := by
  obtain ⟨⟨a1, a2, a3, a4, a5⟩, h2, h3, h4⟩ := h
  refine ⟨⟨?_, ?_, ?_, ?_, ?_⟩, fun p hp => ?_, fun y hy => ⟨⟨?_, ?_, ?_, ?_, ?_⟩, ?_, fun ht => ?_, ?_, ?_, ?_⟩, fun k hk => ?_⟩
  · rw [gx_u_ne (by omega), su_ne (by omega)]
    exact a1
  · rw [gx_u_ne (by omega), a2]
    exact congrArg (fun x : Nat => (x : Int)) (hmask_ext 40 (fun j hj => by rw [su_ne (by omega)]))
  · rw [gx_u_ne (by omega), a3]
    exact congrArg (fun x : Nat => (x : Int)) (hmask_ext 40 (fun j hj => by rw [su_ne (by omega)]))
  · rw [gx_u_ne (by omega), su_ne (by omega)]
    exact a4
  · rw [gx_u_ne (by omega), su_ne (by omega)]
    exact a5
  · rw [gx_u_ne (by omega), su_ne (by omega)]
    exact h2 p hp
  · rw [gx_u_ne (by omega), su_ne (by omega)]
    exact (h3 y hy).1.1
  · by_cases e : y = P
    · subst e
      rw [gx_u_self, su_self]
    · rw [gx_u_ne (by omega), su_ne (by omega)]
      exact (h3 y hy).1.2.1
  · rw [gx_u_ne (by omega), su_ne (by omega)]
    exact (h3 y hy).1.2.2.1
  · rw [gx_u_ne (by omega), su_ne (by omega)]
    exact (h3 y hy).1.2.2.2.1
  · rw [gx_u_ne (by omega), su_ne (by omega)]
    exact (h3 y hy).1.2.2.2.2
  · rw [gx_u_ne (by omega), su_ne (by omega)]
    exact (h3 y hy).2.1
  · rw [gx_u_ne (by omega), su_ne (by omega)]
    exact (h3 y hy).2.2.1 (by rw [su_ne (by omega)] at ht; exact ht)
  · rw [gx_u_ne (by omega), su_ne (by omega)]
    exact (h3 y hy).2.2.2.1
  · rw [gx_u_ne (by omega), su_ne (by omega)]
    exact (h3 y hy).2.2.2.2.1
  · rw [gx_u_ne (by omega), su_ne (by omega)]
    exact (h3 y hy).2.2.2.2.2
  · rw [gx_u_ne (by omega), su_ne (by omega)]
    exact h4 k hk
theorem sU_skl {P : Nat} (hP : P < 40) (h : sBk b s m) : sBk b (su s (80 + P) v) (gx_u m (b + 4) P v) := by
  obtain ⟨⟨a1, a2, a3, a4, a5⟩, h2, h3, h4⟩ := h
  refine ⟨⟨?_, ?_, ?_, ?_, ?_⟩, fun p hp => ?_, fun y hy => ⟨⟨?_, ?_, ?_, ?_, ?_⟩, ?_, fun ht => ?_, ?_, ?_, ?_⟩, fun k hk => ?_⟩
  · rw [gx_u_ne (by omega), su_ne (by omega)]
    exact a1
  · rw [gx_u_ne (by omega), a2]
    exact congrArg (fun x : Nat => (x : Int)) (hmask_ext 40 (fun j hj => by rw [su_ne (by omega)]))
  · rw [gx_u_ne (by omega), a3]
    exact congrArg (fun x : Nat => (x : Int)) (hmask_ext 40 (fun j hj => by rw [su_ne (by omega)]))
  · rw [gx_u_ne (by omega), su_ne (by omega)]
    exact a4
  · rw [gx_u_ne (by omega), su_ne (by omega)]
    exact a5
  · rw [gx_u_ne (by omega), su_ne (by omega)]
    exact h2 p hp
  · rw [gx_u_ne (by omega), su_ne (by omega)]
    exact (h3 y hy).1.1
  · rw [gx_u_ne (by omega), su_ne (by omega)]
    exact (h3 y hy).1.2.1
  · by_cases e : y = P
    · subst e
      rw [gx_u_self, su_self]
    · rw [gx_u_ne (by omega), su_ne (by omega)]
      exact (h3 y hy).1.2.2.1
  · rw [gx_u_ne (by omega), su_ne (by omega)]
    exact (h3 y hy).1.2.2.2.1
  · rw [gx_u_ne (by omega), su_ne (by omega)]
    exact (h3 y hy).1.2.2.2.2
  · rw [gx_u_ne (by omega), su_ne (by omega)]
    exact (h3 y hy).2.1
  · rw [gx_u_ne (by omega), su_ne (by omega)]
    exact (h3 y hy).2.2.1 (by rw [su_ne (by omega)] at ht; exact ht)
  · rw [gx_u_ne (by omega), su_ne (by omega)]
    exact (h3 y hy).2.2.2.1
  · rw [gx_u_ne (by omega), su_ne (by omega)]
    exact (h3 y hy).2.2.2.2.1
  · rw [gx_u_ne (by omega), su_ne (by omega)]
    exact (h3 y hy).2.2.2.2.2
  · rw [gx_u_ne (by omega), su_ne (by omega)]
    exact h4 k hk
theorem sU_met {P : Nat} (hP : P < 40) (h : sBk b s m) : sBk b (su s (120 + P) v) (gx_u m (b + 5) P v) := by
  obtain ⟨⟨a1, a2, a3, a4, a5⟩, h2, h3, h4⟩ := h
  refine ⟨⟨?_, ?_, ?_, ?_, ?_⟩, fun p hp => ?_, fun y hy => ⟨⟨?_, ?_, ?_, ?_, ?_⟩, ?_, fun ht => ?_, ?_, ?_, ?_⟩, fun k hk => ?_⟩
  · rw [gx_u_ne (by omega), su_ne (by omega)]
    exact a1
  · rw [gx_u_ne (by omega), a2]
    exact congrArg (fun x : Nat => (x : Int)) (hmask_ext 40 (fun j hj => by rw [su_ne (by omega)]))
  · rw [gx_u_ne (by omega), a3]
    exact congrArg (fun x : Nat => (x : Int)) (hmask_ext 40 (fun j hj => by rw [su_ne (by omega)]))
  · rw [gx_u_ne (by omega), su_ne (by omega)]
    exact a4
  · rw [gx_u_ne (by omega), su_ne (by omega)]
    exact a5
  · rw [gx_u_ne (by omega), su_ne (by omega)]
    exact h2 p hp
  · rw [gx_u_ne (by omega), su_ne (by omega)]
    exact (h3 y hy).1.1
  · rw [gx_u_ne (by omega), su_ne (by omega)]
    exact (h3 y hy).1.2.1
  · rw [gx_u_ne (by omega), su_ne (by omega)]
    exact (h3 y hy).1.2.2.1
  · by_cases e : y = P
    · subst e
      rw [gx_u_self, su_self]
    · rw [gx_u_ne (by omega), su_ne (by omega)]
      exact (h3 y hy).1.2.2.2.1
  · rw [gx_u_ne (by omega), su_ne (by omega)]
    exact (h3 y hy).1.2.2.2.2
  · rw [gx_u_ne (by omega), su_ne (by omega)]
    exact (h3 y hy).2.1
  · rw [gx_u_ne (by omega), su_ne (by omega)]
    exact (h3 y hy).2.2.1 (by rw [su_ne (by omega)] at ht; exact ht)
  · rw [gx_u_ne (by omega), su_ne (by omega)]
    exact (h3 y hy).2.2.2.1
  · rw [gx_u_ne (by omega), su_ne (by omega)]
    exact (h3 y hy).2.2.2.2.1
  · rw [gx_u_ne (by omega), su_ne (by omega)]
    exact (h3 y hy).2.2.2.2.2
  · rw [gx_u_ne (by omega), su_ne (by omega)]
    exact h4 k hk
theorem sU_mark {P : Nat} (hP : P < 40) (h : sBk b s m) : sBk b (su s (200 + P) v) (gx_u m (b + 6) P v) := by
  obtain ⟨⟨a1, a2, a3, a4, a5⟩, h2, h3, h4⟩ := h
  refine ⟨⟨?_, ?_, ?_, ?_, ?_⟩, fun p hp => ?_, fun y hy => ⟨⟨?_, ?_, ?_, ?_, ?_⟩, ?_, fun ht => ?_, ?_, ?_, ?_⟩, fun k hk => ?_⟩
  · rw [gx_u_ne (by omega), su_ne (by omega)]
    exact a1
  · rw [gx_u_ne (by omega), a2]
    exact congrArg (fun x : Nat => (x : Int)) (hmask_ext 40 (fun j hj => by rw [su_ne (by omega)]))
  · rw [gx_u_ne (by omega), a3]
    exact congrArg (fun x : Nat => (x : Int)) (hmask_ext 40 (fun j hj => by rw [su_ne (by omega)]))
  · rw [gx_u_ne (by omega), su_ne (by omega)]
    exact a4
  · rw [gx_u_ne (by omega), su_ne (by omega)]
    exact a5
  · rw [gx_u_ne (by omega), su_ne (by omega)]
    exact h2 p hp
  · rw [gx_u_ne (by omega), su_ne (by omega)]
    exact (h3 y hy).1.1
  · rw [gx_u_ne (by omega), su_ne (by omega)]
    exact (h3 y hy).1.2.1
  · rw [gx_u_ne (by omega), su_ne (by omega)]
    exact (h3 y hy).1.2.2.1
  · rw [gx_u_ne (by omega), su_ne (by omega)]
    exact (h3 y hy).1.2.2.2.1
  · by_cases e : y = P
    · subst e
      rw [gx_u_self, su_self]
    · rw [gx_u_ne (by omega), su_ne (by omega)]
      exact (h3 y hy).1.2.2.2.2
  · rw [gx_u_ne (by omega), su_ne (by omega)]
    exact (h3 y hy).2.1
  · rw [gx_u_ne (by omega), su_ne (by omega)]
    exact (h3 y hy).2.2.1 (by rw [su_ne (by omega)] at ht; exact ht)
  · rw [gx_u_ne (by omega), su_ne (by omega)]
    exact (h3 y hy).2.2.2.1
  · rw [gx_u_ne (by omega), su_ne (by omega)]
    exact (h3 y hy).2.2.2.2.1
  · rw [gx_u_ne (by omega), su_ne (by omega)]
    exact (h3 y hy).2.2.2.2.2
  · rw [gx_u_ne (by omega), su_ne (by omega)]
    exact h4 k hk
theorem sU_own {P : Nat} (hP : P < 40) (h : sBk b s m) : sBk b (su s (240 + P) v) (gx_u m (b + 7) P v) := by
  obtain ⟨⟨a1, a2, a3, a4, a5⟩, h2, h3, h4⟩ := h
  refine ⟨⟨?_, ?_, ?_, ?_, ?_⟩, fun p hp => ?_, fun y hy => ⟨⟨?_, ?_, ?_, ?_, ?_⟩, ?_, fun ht => ?_, ?_, ?_, ?_⟩, fun k hk => ?_⟩
  · rw [gx_u_ne (by omega), su_ne (by omega)]
    exact a1
  · rw [gx_u_ne (by omega), a2]
    exact congrArg (fun x : Nat => (x : Int)) (hmask_ext 40 (fun j hj => by rw [su_ne (by omega)]))
  · rw [gx_u_ne (by omega), a3]
    exact congrArg (fun x : Nat => (x : Int)) (hmask_ext 40 (fun j hj => by rw [su_ne (by omega)]))
  · rw [gx_u_ne (by omega), su_ne (by omega)]
    exact a4
  · rw [gx_u_ne (by omega), su_ne (by omega)]
    exact a5
  · rw [gx_u_ne (by omega), su_ne (by omega)]
    exact h2 p hp
  · rw [gx_u_ne (by omega), su_ne (by omega)]
    exact (h3 y hy).1.1
  · rw [gx_u_ne (by omega), su_ne (by omega)]
    exact (h3 y hy).1.2.1
  · rw [gx_u_ne (by omega), su_ne (by omega)]
    exact (h3 y hy).1.2.2.1
  · rw [gx_u_ne (by omega), su_ne (by omega)]
    exact (h3 y hy).1.2.2.2.1
  · rw [gx_u_ne (by omega), su_ne (by omega)]
    exact (h3 y hy).1.2.2.2.2
  · by_cases e : y = P
    · subst e
      rw [gx_u_self, su_self]
    · rw [gx_u_ne (by omega), su_ne (by omega)]
      exact (h3 y hy).2.1
  · rw [gx_u_ne (by omega), su_ne (by omega)]
    exact (h3 y hy).2.2.1 (by rw [su_ne (by omega)] at ht; exact ht)
  · rw [gx_u_ne (by omega), su_ne (by omega)]
    exact (h3 y hy).2.2.2.1
  · rw [gx_u_ne (by omega), su_ne (by omega)]
    exact (h3 y hy).2.2.2.2.1
  · rw [gx_u_ne (by omega), su_ne (by omega)]
    exact (h3 y hy).2.2.2.2.2
  · rw [gx_u_ne (by omega), su_ne (by omega)]
    exact h4 k hk
theorem sU_hold {P : Nat} (hP : P < 40) (h : sBk b s m) : sBk b (su s (280 + P) v) (gx_u m (b + 8) P v) := by
  obtain ⟨⟨a1, a2, a3, a4, a5⟩, h2, h3, h4⟩ := h
  refine ⟨⟨?_, ?_, ?_, ?_, ?_⟩, fun p hp => ?_, fun y hy => ⟨⟨?_, ?_, ?_, ?_, ?_⟩, ?_, fun ht => ?_, ?_, ?_, ?_⟩, fun k hk => ?_⟩
  · rw [gx_u_ne (by omega), su_ne (by omega)]
    exact a1
  · rw [gx_u_ne (by omega), a2]
    exact congrArg (fun x : Nat => (x : Int)) (hmask_ext 40 (fun j hj => by rw [su_ne (by omega)]))
  · rw [gx_u_ne (by omega), a3]
    exact congrArg (fun x : Nat => (x : Int)) (hmask_ext 40 (fun j hj => by rw [su_ne (by omega)]))
  · rw [gx_u_ne (by omega), su_ne (by omega)]
    exact a4
  · rw [gx_u_ne (by omega), su_ne (by omega)]
    exact a5
  · rw [gx_u_ne (by omega), su_ne (by omega)]
    exact h2 p hp
  · rw [gx_u_ne (by omega), su_ne (by omega)]
    exact (h3 y hy).1.1
  · rw [gx_u_ne (by omega), su_ne (by omega)]
    exact (h3 y hy).1.2.1
  · rw [gx_u_ne (by omega), su_ne (by omega)]
    exact (h3 y hy).1.2.2.1
  · rw [gx_u_ne (by omega), su_ne (by omega)]
    exact (h3 y hy).1.2.2.2.1
  · rw [gx_u_ne (by omega), su_ne (by omega)]
    exact (h3 y hy).1.2.2.2.2
  · rw [gx_u_ne (by omega), su_ne (by omega)]
    exact (h3 y hy).2.1
  · by_cases e : y = P
    · subst e
      rw [gx_u_self, su_self]
    · rw [gx_u_ne (by omega), su_ne (by omega)]
      exact (h3 y hy).2.2.1 (by rw [su_ne (by omega)] at ht; exact ht)
  · rw [gx_u_ne (by omega), su_ne (by omega)]
    exact (h3 y hy).2.2.2.1
  · rw [gx_u_ne (by omega), su_ne (by omega)]
    exact (h3 y hy).2.2.2.2.1
  · rw [gx_u_ne (by omega), su_ne (by omega)]
    exact (h3 y hy).2.2.2.2.2
  · rw [gx_u_ne (by omega), su_ne (by omega)]
    exact h4 k hk
theorem sU_lent {P : Nat} (hP : P < 40) (h : sBk b s m) : sBk b (su s (320 + P) v) (gx_u m (b + 9) P v) := by
  obtain ⟨⟨a1, a2, a3, a4, a5⟩, h2, h3, h4⟩ := h
  refine ⟨⟨?_, ?_, ?_, ?_, ?_⟩, fun p hp => ?_, fun y hy => ⟨⟨?_, ?_, ?_, ?_, ?_⟩, ?_, fun ht => ?_, ?_, ?_, ?_⟩, fun k hk => ?_⟩
  · rw [gx_u_ne (by omega), su_ne (by omega)]
    exact a1
  · rw [gx_u_ne (by omega), a2]
    exact congrArg (fun x : Nat => (x : Int)) (hmask_ext 40 (fun j hj => by rw [su_ne (by omega)]))
  · rw [gx_u_ne (by omega), a3]
    exact congrArg (fun x : Nat => (x : Int)) (hmask_ext 40 (fun j hj => by rw [su_ne (by omega)]))
  · rw [gx_u_ne (by omega), su_ne (by omega)]
    exact a4
  · rw [gx_u_ne (by omega), su_ne (by omega)]
    exact a5
  · rw [gx_u_ne (by omega), su_ne (by omega)]
    exact h2 p hp
  · rw [gx_u_ne (by omega), su_ne (by omega)]
    exact (h3 y hy).1.1
  · rw [gx_u_ne (by omega), su_ne (by omega)]
    exact (h3 y hy).1.2.1
  · rw [gx_u_ne (by omega), su_ne (by omega)]
    exact (h3 y hy).1.2.2.1
  · rw [gx_u_ne (by omega), su_ne (by omega)]
    exact (h3 y hy).1.2.2.2.1
  · rw [gx_u_ne (by omega), su_ne (by omega)]
    exact (h3 y hy).1.2.2.2.2
  · rw [gx_u_ne (by omega), su_ne (by omega)]
    exact (h3 y hy).2.1
  · rw [gx_u_ne (by omega), su_ne (by omega)]
    exact (h3 y hy).2.2.1 (by rw [su_ne (by omega)] at ht; exact ht)
  · by_cases e : y = P
    · subst e
      rw [gx_u_self, su_self]
    · rw [gx_u_ne (by omega), su_ne (by omega)]
      exact (h3 y hy).2.2.2.1
  · rw [gx_u_ne (by omega), su_ne (by omega)]
    exact (h3 y hy).2.2.2.2.1
  · rw [gx_u_ne (by omega), su_ne (by omega)]
    exact (h3 y hy).2.2.2.2.2
  · rw [gx_u_ne (by omega), su_ne (by omega)]
    exact h4 k hk
theorem sU_due {P : Nat} (hP : P < 40) (h : sBk b s m) : sBk b (su s (360 + P) v) (gx_u m (b + 10) P v) := by
  obtain ⟨⟨a1, a2, a3, a4, a5⟩, h2, h3, h4⟩ := h
  refine ⟨⟨?_, ?_, ?_, ?_, ?_⟩, fun p hp => ?_, fun y hy => ⟨⟨?_, ?_, ?_, ?_, ?_⟩, ?_, fun ht => ?_, ?_, ?_, ?_⟩, fun k hk => ?_⟩
  · rw [gx_u_ne (by omega), su_ne (by omega)]
    exact a1
  · rw [gx_u_ne (by omega), a2]
    exact congrArg (fun x : Nat => (x : Int)) (hmask_ext 40 (fun j hj => by rw [su_ne (by omega)]))
  · rw [gx_u_ne (by omega), a3]
    exact congrArg (fun x : Nat => (x : Int)) (hmask_ext 40 (fun j hj => by rw [su_ne (by omega)]))
  · rw [gx_u_ne (by omega), su_ne (by omega)]
    exact a4
  · rw [gx_u_ne (by omega), su_ne (by omega)]
    exact a5
  · rw [gx_u_ne (by omega), su_ne (by omega)]
    exact h2 p hp
  · rw [gx_u_ne (by omega), su_ne (by omega)]
    exact (h3 y hy).1.1
  · rw [gx_u_ne (by omega), su_ne (by omega)]
    exact (h3 y hy).1.2.1
  · rw [gx_u_ne (by omega), su_ne (by omega)]
    exact (h3 y hy).1.2.2.1
  · rw [gx_u_ne (by omega), su_ne (by omega)]
    exact (h3 y hy).1.2.2.2.1
  · rw [gx_u_ne (by omega), su_ne (by omega)]
    exact (h3 y hy).1.2.2.2.2
  · rw [gx_u_ne (by omega), su_ne (by omega)]
    exact (h3 y hy).2.1
  · rw [gx_u_ne (by omega), su_ne (by omega)]
    exact (h3 y hy).2.2.1 (by rw [su_ne (by omega)] at ht; exact ht)
  · rw [gx_u_ne (by omega), su_ne (by omega)]
    exact (h3 y hy).2.2.2.1
  · by_cases e : y = P
    · subst e
      rw [gx_u_self, su_self]
    · rw [gx_u_ne (by omega), su_ne (by omega)]
      exact (h3 y hy).2.2.2.2.1
  · rw [gx_u_ne (by omega), su_ne (by omega)]
    exact (h3 y hy).2.2.2.2.2
  · rw [gx_u_ne (by omega), su_ne (by omega)]
    exact h4 k hk
theorem sU_many {P : Nat} (hP : P < 40) (h : sBk b s m) : sBk b (su s (400 + P) v) (gx_u m (b + 11) P v) := by
  obtain ⟨⟨a1, a2, a3, a4, a5⟩, h2, h3, h4⟩ := h
  refine ⟨⟨?_, ?_, ?_, ?_, ?_⟩, fun p hp => ?_, fun y hy => ⟨⟨?_, ?_, ?_, ?_, ?_⟩, ?_, fun ht => ?_, ?_, ?_, ?_⟩, fun k hk => ?_⟩
  · rw [gx_u_ne (by omega), su_ne (by omega)]
    exact a1
  · rw [gx_u_ne (by omega), a2]
    exact congrArg (fun x : Nat => (x : Int)) (hmask_ext 40 (fun j hj => by rw [su_ne (by omega)]))
  · rw [gx_u_ne (by omega), a3]
    exact congrArg (fun x : Nat => (x : Int)) (hmask_ext 40 (fun j hj => by rw [su_ne (by omega)]))
  · rw [gx_u_ne (by omega), su_ne (by omega)]
    exact a4
  · rw [gx_u_ne (by omega), su_ne (by omega)]
    exact a5
  · rw [gx_u_ne (by omega), su_ne (by omega)]
    exact h2 p hp
  · rw [gx_u_ne (by omega), su_ne (by omega)]
    exact (h3 y hy).1.1
  · rw [gx_u_ne (by omega), su_ne (by omega)]
    exact (h3 y hy).1.2.1
  · rw [gx_u_ne (by omega), su_ne (by omega)]
    exact (h3 y hy).1.2.2.1
  · rw [gx_u_ne (by omega), su_ne (by omega)]
    exact (h3 y hy).1.2.2.2.1
  · rw [gx_u_ne (by omega), su_ne (by omega)]
    exact (h3 y hy).1.2.2.2.2
  · rw [gx_u_ne (by omega), su_ne (by omega)]
    exact (h3 y hy).2.1
  · rw [gx_u_ne (by omega), su_ne (by omega)]
    exact (h3 y hy).2.2.1 (by rw [su_ne (by omega)] at ht; exact ht)
  · rw [gx_u_ne (by omega), su_ne (by omega)]
    exact (h3 y hy).2.2.2.1
  · rw [gx_u_ne (by omega), su_ne (by omega)]
    exact (h3 y hy).2.2.2.2.1
  · by_cases e : y = P
    · subst e
      rw [gx_u_self, su_self]
    · rw [gx_u_ne (by omega), su_ne (by omega)]
      exact (h3 y hy).2.2.2.2.2
  · rw [gx_u_ne (by omega), su_ne (by omega)]
    exact h4 k hk
theorem sU_hand {P : Nat} (hP : P < 640) (h : sBk b s m) : sBk b (su s (480 + P) v) (gx_u m (b + 12) P v) := by
  obtain ⟨⟨a1, a2, a3, a4, a5⟩, h2, h3, h4⟩ := h
  refine ⟨⟨?_, ?_, ?_, ?_, ?_⟩, fun p hp => ?_, fun y hy => ⟨⟨?_, ?_, ?_, ?_, ?_⟩, ?_, fun ht => ?_, ?_, ?_, ?_⟩, fun k hk => ?_⟩
  · rw [gx_u_ne (by omega), su_ne (by omega)]
    exact a1
  · rw [gx_u_ne (by omega), a2]
    exact congrArg (fun x : Nat => (x : Int)) (hmask_ext 40 (fun j hj => by rw [su_ne (by omega)]))
  · rw [gx_u_ne (by omega), a3]
    exact congrArg (fun x : Nat => (x : Int)) (hmask_ext 40 (fun j hj => by rw [su_ne (by omega)]))
  · rw [gx_u_ne (by omega), su_ne (by omega)]
    exact a4
  · rw [gx_u_ne (by omega), su_ne (by omega)]
    exact a5
  · rw [gx_u_ne (by omega), su_ne (by omega)]
    exact h2 p hp
  · rw [gx_u_ne (by omega), su_ne (by omega)]
    exact (h3 y hy).1.1
  · rw [gx_u_ne (by omega), su_ne (by omega)]
    exact (h3 y hy).1.2.1
  · rw [gx_u_ne (by omega), su_ne (by omega)]
    exact (h3 y hy).1.2.2.1
  · rw [gx_u_ne (by omega), su_ne (by omega)]
    exact (h3 y hy).1.2.2.2.1
  · rw [gx_u_ne (by omega), su_ne (by omega)]
    exact (h3 y hy).1.2.2.2.2
  · rw [gx_u_ne (by omega), su_ne (by omega)]
    exact (h3 y hy).2.1
  · rw [gx_u_ne (by omega), su_ne (by omega)]
    exact (h3 y hy).2.2.1 (by rw [su_ne (by omega)] at ht; exact ht)
  · rw [gx_u_ne (by omega), su_ne (by omega)]
    exact (h3 y hy).2.2.2.1
  · rw [gx_u_ne (by omega), su_ne (by omega)]
    exact (h3 y hy).2.2.2.2.1
  · rw [gx_u_ne (by omega), su_ne (by omega)]
    exact (h3 y hy).2.2.2.2.2
  · by_cases e : k = P
    · subst e
      rw [gx_u_self, su_self]
    · rw [gx_u_ne (by omega), su_ne (by omega)]
      exact h4 k hk
theorem sU_ppl (h : sBk b s m) : sBk b (su s 1128 v) (gx_u m b 0 v) := by
  obtain ⟨⟨a1, a2, a3, a4, a5⟩, h2, h3, h4⟩ := h
  refine ⟨⟨?_, ?_, ?_, ?_, ?_⟩, fun p hp => ?_, fun y hy => ⟨⟨?_, ?_, ?_, ?_, ?_⟩, ?_, fun ht => ?_, ?_, ?_, ?_⟩, fun k hk => ?_⟩
  · rw [gx_u_self, su_self]
  · rw [gx_u_ne (by omega), a2]
    exact congrArg (fun x : Nat => (x : Int)) (hmask_ext 40 (fun j hj => by rw [su_ne (by omega)]))
  · rw [gx_u_ne (by omega), a3]
    exact congrArg (fun x : Nat => (x : Int)) (hmask_ext 40 (fun j hj => by rw [su_ne (by omega)]))
  · rw [gx_u_ne (by omega), su_ne (by omega)]
    exact a4
  · rw [gx_u_ne (by omega), su_ne (by omega)]
    exact a5
  · rw [gx_u_ne (by omega), su_ne (by omega)]
    exact h2 p hp
  · rw [gx_u_ne (by omega), su_ne (by omega)]
    exact (h3 y hy).1.1
  · rw [gx_u_ne (by omega), su_ne (by omega)]
    exact (h3 y hy).1.2.1
  · rw [gx_u_ne (by omega), su_ne (by omega)]
    exact (h3 y hy).1.2.2.1
  · rw [gx_u_ne (by omega), su_ne (by omega)]
    exact (h3 y hy).1.2.2.2.1
  · rw [gx_u_ne (by omega), su_ne (by omega)]
    exact (h3 y hy).1.2.2.2.2
  · rw [gx_u_ne (by omega), su_ne (by omega)]
    exact (h3 y hy).2.1
  · rw [gx_u_ne (by omega), su_ne (by omega)]
    exact (h3 y hy).2.2.1 (by rw [su_ne (by omega)] at ht; exact ht)
  · rw [gx_u_ne (by omega), su_ne (by omega)]
    exact (h3 y hy).2.2.2.1
  · rw [gx_u_ne (by omega), su_ne (by omega)]
    exact (h3 y hy).2.2.2.2.1
  · rw [gx_u_ne (by omega), su_ne (by omega)]
    exact (h3 y hy).2.2.2.2.2
  · rw [gx_u_ne (by omega), su_ne (by omega)]
    exact h4 k hk
theorem sU_day (h : sBk b s m) : sBk b (su s 1129 v) (gx_u m b 3 v) := by
  obtain ⟨⟨a1, a2, a3, a4, a5⟩, h2, h3, h4⟩ := h
  refine ⟨⟨?_, ?_, ?_, ?_, ?_⟩, fun p hp => ?_, fun y hy => ⟨⟨?_, ?_, ?_, ?_, ?_⟩, ?_, fun ht => ?_, ?_, ?_, ?_⟩, fun k hk => ?_⟩
  · rw [gx_u_ne (by omega), su_ne (by omega)]
    exact a1
  · rw [gx_u_ne (by omega), a2]
    exact congrArg (fun x : Nat => (x : Int)) (hmask_ext 40 (fun j hj => by rw [su_ne (by omega)]))
  · rw [gx_u_ne (by omega), a3]
    exact congrArg (fun x : Nat => (x : Int)) (hmask_ext 40 (fun j hj => by rw [su_ne (by omega)]))
  · rw [gx_u_self, su_self]
  · rw [gx_u_ne (by omega), su_ne (by omega)]
    exact a5
  · rw [gx_u_ne (by omega), su_ne (by omega)]
    exact h2 p hp
  · rw [gx_u_ne (by omega), su_ne (by omega)]
    exact (h3 y hy).1.1
  · rw [gx_u_ne (by omega), su_ne (by omega)]
    exact (h3 y hy).1.2.1
  · rw [gx_u_ne (by omega), su_ne (by omega)]
    exact (h3 y hy).1.2.2.1
  · rw [gx_u_ne (by omega), su_ne (by omega)]
    exact (h3 y hy).1.2.2.2.1
  · rw [gx_u_ne (by omega), su_ne (by omega)]
    exact (h3 y hy).1.2.2.2.2
  · rw [gx_u_ne (by omega), su_ne (by omega)]
    exact (h3 y hy).2.1
  · rw [gx_u_ne (by omega), su_ne (by omega)]
    exact (h3 y hy).2.2.1 (by rw [su_ne (by omega)] at ht; exact ht)
  · rw [gx_u_ne (by omega), su_ne (by omega)]
    exact (h3 y hy).2.2.2.1
  · rw [gx_u_ne (by omega), su_ne (by omega)]
    exact (h3 y hy).2.2.2.2.1
  · rw [gx_u_ne (by omega), su_ne (by omega)]
    exact (h3 y hy).2.2.2.2.2
  · rw [gx_u_ne (by omega), su_ne (by omega)]
    exact h4 k hk
theorem sU_lot (h : sBk b s m) : sBk b (su s 1130 v) (gx_u m b 4 v) := by
  obtain ⟨⟨a1, a2, a3, a4, a5⟩, h2, h3, h4⟩ := h
  refine ⟨⟨?_, ?_, ?_, ?_, ?_⟩, fun p hp => ?_, fun y hy => ⟨⟨?_, ?_, ?_, ?_, ?_⟩, ?_, fun ht => ?_, ?_, ?_, ?_⟩, fun k hk => ?_⟩
  · rw [gx_u_ne (by omega), su_ne (by omega)]
    exact a1
  · rw [gx_u_ne (by omega), a2]
    exact congrArg (fun x : Nat => (x : Int)) (hmask_ext 40 (fun j hj => by rw [su_ne (by omega)]))
  · rw [gx_u_ne (by omega), a3]
    exact congrArg (fun x : Nat => (x : Int)) (hmask_ext 40 (fun j hj => by rw [su_ne (by omega)]))
  · rw [gx_u_ne (by omega), su_ne (by omega)]
    exact a4
  · rw [gx_u_self, su_self]
  · rw [gx_u_ne (by omega), su_ne (by omega)]
    exact h2 p hp
  · rw [gx_u_ne (by omega), su_ne (by omega)]
    exact (h3 y hy).1.1
  · rw [gx_u_ne (by omega), su_ne (by omega)]
    exact (h3 y hy).1.2.1
  · rw [gx_u_ne (by omega), su_ne (by omega)]
    exact (h3 y hy).1.2.2.1
  · rw [gx_u_ne (by omega), su_ne (by omega)]
    exact (h3 y hy).1.2.2.2.1
  · rw [gx_u_ne (by omega), su_ne (by omega)]
    exact (h3 y hy).1.2.2.2.2
  · rw [gx_u_ne (by omega), su_ne (by omega)]
    exact (h3 y hy).2.1
  · rw [gx_u_ne (by omega), su_ne (by omega)]
    exact (h3 y hy).2.2.1 (by rw [su_ne (by omega)] at ht; exact ht)
  · rw [gx_u_ne (by omega), su_ne (by omega)]
    exact (h3 y hy).2.2.2.1
  · rw [gx_u_ne (by omega), su_ne (by omega)]
    exact (h3 y hy).2.2.2.2.1
  · rw [gx_u_ne (by omega), su_ne (by omega)]
    exact (h3 y hy).2.2.2.2.2
  · rw [gx_u_ne (by omega), su_ne (by omega)]
    exact h4 k hk
theorem sU_yrs1 {P : Nat} (hP : P < 40) (hh : m (b + 8) P = s (280 + P)) (h : sBk b s m) : sBk b (su s (440 + P) 1) (gx_u m b 1 (hlor (m b 1) (hlshl 1 (P : Int)))) := by
  obtain ⟨⟨a1, a2, a3, a4, a5⟩, h2, h3, h4⟩ := h
  refine ⟨⟨?_, ?_, ?_, ?_, ?_⟩, fun p hp => ?_, fun y hy => ⟨⟨?_, ?_, ?_, ?_, ?_⟩, ?_, fun ht => ?_, ?_, ?_, ?_⟩, fun k hk => ?_⟩
  · rw [gx_u_ne (by omega), su_ne (by omega)]
    exact a1
  · rw [gx_u_self, a2, hmask_put hP]
    refine congrArg (fun x : Nat => (x : Int)) (hmask_ext 40 (fun j hj => ?_))
    by_cases e : j = P
    · subst e
      rw [su_self]
      simp
    · rw [su_ne (by omega)]
      simp [e]
  · rw [gx_u_ne (by omega), a3]
    exact congrArg (fun x : Nat => (x : Int)) (hmask_ext 40 (fun j hj => by rw [su_ne (by omega)]))
  · rw [gx_u_ne (by omega), su_ne (by omega)]
    exact a4
  · rw [gx_u_ne (by omega), su_ne (by omega)]
    exact a5
  · rw [gx_u_ne (by omega), su_ne (by omega)]
    exact h2 p hp
  · rw [gx_u_ne (by omega), su_ne (by omega)]
    exact (h3 y hy).1.1
  · rw [gx_u_ne (by omega), su_ne (by omega)]
    exact (h3 y hy).1.2.1
  · rw [gx_u_ne (by omega), su_ne (by omega)]
    exact (h3 y hy).1.2.2.1
  · rw [gx_u_ne (by omega), su_ne (by omega)]
    exact (h3 y hy).1.2.2.2.1
  · rw [gx_u_ne (by omega), su_ne (by omega)]
    exact (h3 y hy).1.2.2.2.2
  · rw [gx_u_ne (by omega), su_ne (by omega)]
    exact (h3 y hy).2.1
  · rw [gx_u_ne (by omega), su_ne (by omega)]
    by_cases e : y = P
    · subst e
      exact hh
    · rw [su_ne (by omega)] at ht
      exact (h3 y hy).2.2.1 ht
  · rw [gx_u_ne (by omega), su_ne (by omega)]
    exact (h3 y hy).2.2.2.1
  · rw [gx_u_ne (by omega), su_ne (by omega)]
    exact (h3 y hy).2.2.2.2.1
  · rw [gx_u_ne (by omega), su_ne (by omega)]
    exact (h3 y hy).2.2.2.2.2
  · rw [gx_u_ne (by omega), su_ne (by omega)]
    exact h4 k hk
theorem sU_dds1 {P : Nat} (hP : P < 40) (h : sBk b s m) : sBk b (su s (160 + P) 1) (gx_u m b 2 (hlor (m b 2) (hlshl 1 (P : Int)))) := by
  obtain ⟨⟨a1, a2, a3, a4, a5⟩, h2, h3, h4⟩ := h
  refine ⟨⟨?_, ?_, ?_, ?_, ?_⟩, fun p hp => ?_, fun y hy => ⟨⟨?_, ?_, ?_, ?_, ?_⟩, ?_, fun ht => ?_, ?_, ?_, ?_⟩, fun k hk => ?_⟩
  · rw [gx_u_ne (by omega), su_ne (by omega)]
    exact a1
  · rw [gx_u_ne (by omega), a2]
    exact congrArg (fun x : Nat => (x : Int)) (hmask_ext 40 (fun j hj => by rw [su_ne (by omega)]))
  · rw [gx_u_self, a3, hmask_put hP]
    refine congrArg (fun x : Nat => (x : Int)) (hmask_ext 40 (fun j hj => ?_))
    by_cases e : j = P
    · subst e
      rw [su_self]
      simp
    · rw [su_ne (by omega)]
      simp [e]
  · rw [gx_u_ne (by omega), su_ne (by omega)]
    exact a4
  · rw [gx_u_ne (by omega), su_ne (by omega)]
    exact a5
  · rw [gx_u_ne (by omega), su_ne (by omega)]
    exact h2 p hp
  · rw [gx_u_ne (by omega), su_ne (by omega)]
    exact (h3 y hy).1.1
  · rw [gx_u_ne (by omega), su_ne (by omega)]
    exact (h3 y hy).1.2.1
  · rw [gx_u_ne (by omega), su_ne (by omega)]
    exact (h3 y hy).1.2.2.1
  · rw [gx_u_ne (by omega), su_ne (by omega)]
    exact (h3 y hy).1.2.2.2.1
  · rw [gx_u_ne (by omega), su_ne (by omega)]
    exact (h3 y hy).1.2.2.2.2
  · rw [gx_u_ne (by omega), su_ne (by omega)]
    exact (h3 y hy).2.1
  · rw [su_ne (by omega)] at ht
    rw [gx_u_ne (by omega), su_ne (by omega)]
    exact (h3 y hy).2.2.1 ht
  · rw [gx_u_ne (by omega), su_ne (by omega)]
    exact (h3 y hy).2.2.2.1
  · rw [gx_u_ne (by omega), su_ne (by omega)]
    exact (h3 y hy).2.2.2.2.1
  · rw [gx_u_ne (by omega), su_ne (by omega)]
    exact (h3 y hy).2.2.2.2.2
  · rw [gx_u_ne (by omega), su_ne (by omega)]
    exact h4 k hk
theorem sU_dds0 {P : Nat} (hP : P < 40) (h : sBk b s m) : sBk b (su s (160 + P) 0) (gx_u m b 2 (hland (m b 2) (hlxor (hlshl 1 (P : Int)) (-1)))) := by
  obtain ⟨⟨a1, a2, a3, a4, a5⟩, h2, h3, h4⟩ := h
  refine ⟨⟨?_, ?_, ?_, ?_, ?_⟩, fun p hp => ?_, fun y hy => ⟨⟨?_, ?_, ?_, ?_, ?_⟩, ?_, fun ht => ?_, ?_, ?_, ?_⟩, fun k hk => ?_⟩
  · rw [gx_u_ne (by omega), su_ne (by omega)]
    exact a1
  · rw [gx_u_ne (by omega), a2]
    exact congrArg (fun x : Nat => (x : Int)) (hmask_ext 40 (fun j hj => by rw [su_ne (by omega)]))
  · rw [gx_u_self, a3, hmask_del hP]
    refine congrArg (fun x : Nat => (x : Int)) (hmask_ext 40 (fun j hj => ?_))
    by_cases e : j = P
    · subst e
      rw [su_self]
      simp
    · rw [su_ne (by omega)]
      simp [e]
  · rw [gx_u_ne (by omega), su_ne (by omega)]
    exact a4
  · rw [gx_u_ne (by omega), su_ne (by omega)]
    exact a5
  · rw [gx_u_ne (by omega), su_ne (by omega)]
    exact h2 p hp
  · rw [gx_u_ne (by omega), su_ne (by omega)]
    exact (h3 y hy).1.1
  · rw [gx_u_ne (by omega), su_ne (by omega)]
    exact (h3 y hy).1.2.1
  · rw [gx_u_ne (by omega), su_ne (by omega)]
    exact (h3 y hy).1.2.2.1
  · rw [gx_u_ne (by omega), su_ne (by omega)]
    exact (h3 y hy).1.2.2.2.1
  · rw [gx_u_ne (by omega), su_ne (by omega)]
    exact (h3 y hy).1.2.2.2.2
  · rw [gx_u_ne (by omega), su_ne (by omega)]
    exact (h3 y hy).2.1
  · rw [su_ne (by omega)] at ht
    rw [gx_u_ne (by omega), su_ne (by omega)]
    exact (h3 y hy).2.2.1 ht
  · rw [gx_u_ne (by omega), su_ne (by omega)]
    exact (h3 y hy).2.2.2.1
  · rw [gx_u_ne (by omega), su_ne (by omega)]
    exact (h3 y hy).2.2.2.2.1
  · rw [gx_u_ne (by omega), su_ne (by omega)]
    exact (h3 y hy).2.2.2.2.2
  · rw [gx_u_ne (by omega), su_ne (by omega)]
    exact h4 k hk
end SU
section SUK
variable {s : Nat → Int} {v : Int}
theorem sK_date {P : Nat} (hP : P < 40) (hv : 0 ≤ v ∧ v ≤ 99) (h : sOK s) : sOK (su s (P) v) := by
  obtain ⟨h1, h2, h3, h4, h5⟩ := h
  refine ⟨fun y hy => ?_, fun k hk => by rw [su_ne (by omega)]; exact h2 k hk, fun p hp => by rw [su_ne (by omega), su_ne (by omega)]; exact h3 p hp, by rw [su_ne (by omega)]; exact h4, by rw [su_ne (by omega)]; exact h5⟩
  obtain ⟨q0, q1, q2, q3, q4, q5, q6, q7, q8, q9, q10, q11⟩ := h1 y hy
  by_cases e : y = P
  · subst e
    exact ⟨by rw [su_ne (by omega)]; exact q0, by rw [su_ne (by omega)]; exact q1, by rw [su_self]; exact hv, by rw [su_ne (by omega)]; exact q3, by rw [su_ne (by omega)]; exact q4, by rw [su_ne (by omega)]; exact q5, by rw [su_ne (by omega)]; exact q6, by rw [su_ne (by omega)]; exact q7, by rw [su_ne (by omega)]; exact q8, by rw [su_ne (by omega)]; exact q9, by rw [su_ne (by omega)]; exact q10, by rw [su_ne (by omega)]; exact q11⟩
  · exact ⟨by rw [su_ne (by omega)]; exact q0, by rw [su_ne (by omega)]; exact q1, by rw [su_ne (by omega)]; exact q2, by rw [su_ne (by omega)]; exact q3, by rw [su_ne (by omega)]; exact q4, by rw [su_ne (by omega)]; exact q5, by rw [su_ne (by omega)]; exact q6, by rw [su_ne (by omega)]; exact q7, by rw [su_ne (by omega)]; exact q8, by rw [su_ne (by omega)]; exact q9, by rw [su_ne (by omega)]; exact q10, by rw [su_ne (by omega)]; exact q11⟩
theorem sK_livr {P : Nat} (hP : P < 40) (hv : 0 ≤ v ∧ v ≤ 7) (h : sOK s) : sOK (su s (40 + P) v) := by
  obtain ⟨h1, h2, h3, h4, h5⟩ := h
  refine ⟨fun y hy => ?_, fun k hk => by rw [su_ne (by omega)]; exact h2 k hk, fun p hp => by rw [su_ne (by omega), su_ne (by omega)]; exact h3 p hp, by rw [su_ne (by omega)]; exact h4, by rw [su_ne (by omega)]; exact h5⟩
  obtain ⟨q0, q1, q2, q3, q4, q5, q6, q7, q8, q9, q10, q11⟩ := h1 y hy
  by_cases e : y = P
  · subst e
    exact ⟨by rw [su_ne (by omega)]; exact q0, by rw [su_ne (by omega)]; exact q1, by rw [su_ne (by omega)]; exact q2, by rw [su_self]; exact hv, by rw [su_ne (by omega)]; exact q4, by rw [su_ne (by omega)]; exact q5, by rw [su_ne (by omega)]; exact q6, by rw [su_ne (by omega)]; exact q7, by rw [su_ne (by omega)]; exact q8, by rw [su_ne (by omega)]; exact q9, by rw [su_ne (by omega)]; exact q10, by rw [su_ne (by omega)]; exact q11⟩
  · exact ⟨by rw [su_ne (by omega)]; exact q0, by rw [su_ne (by omega)]; exact q1, by rw [su_ne (by omega)]; exact q2, by rw [su_ne (by omega)]; exact q3, by rw [su_ne (by omega)]; exact q4, by rw [su_ne (by omega)]; exact q5, by rw [su_ne (by omega)]; exact q6, by rw [su_ne (by omega)]; exact q7, by rw [su_ne (by omega)]; exact q8, by rw [su_ne (by omega)]; exact q9, by rw [su_ne (by omega)]; exact q10, by rw [su_ne (by omega)]; exact q11⟩
theorem sK_skl {P : Nat} (hP : P < 40) (hv : 0 ≤ v ∧ v ≤ 4095) (h : sOK s) : sOK (su s (80 + P) v) := by
  obtain ⟨h1, h2, h3, h4, h5⟩ := h
  refine ⟨fun y hy => ?_, fun k hk => by rw [su_ne (by omega)]; exact h2 k hk, fun p hp => by rw [su_ne (by omega), su_ne (by omega)]; exact h3 p hp, by rw [su_ne (by omega)]; exact h4, by rw [su_ne (by omega)]; exact h5⟩
  obtain ⟨q0, q1, q2, q3, q4, q5, q6, q7, q8, q9, q10, q11⟩ := h1 y hy
  by_cases e : y = P
  · subst e
    exact ⟨by rw [su_ne (by omega)]; exact q0, by rw [su_ne (by omega)]; exact q1, by rw [su_ne (by omega)]; exact q2, by rw [su_ne (by omega)]; exact q3, by rw [su_self]; exact hv, by rw [su_ne (by omega)]; exact q5, by rw [su_ne (by omega)]; exact q6, by rw [su_ne (by omega)]; exact q7, by rw [su_ne (by omega)]; exact q8, by rw [su_ne (by omega)]; exact q9, by rw [su_ne (by omega)]; exact q10, by rw [su_ne (by omega)]; exact q11⟩
  · exact ⟨by rw [su_ne (by omega)]; exact q0, by rw [su_ne (by omega)]; exact q1, by rw [su_ne (by omega)]; exact q2, by rw [su_ne (by omega)]; exact q3, by rw [su_ne (by omega)]; exact q4, by rw [su_ne (by omega)]; exact q5, by rw [su_ne (by omega)]; exact q6, by rw [su_ne (by omega)]; exact q7, by rw [su_ne (by omega)]; exact q8, by rw [su_ne (by omega)]; exact q9, by rw [su_ne (by omega)]; exact q10, by rw [su_ne (by omega)]; exact q11⟩
theorem sK_met {P : Nat} (hP : P < 40) (hv : 0 ≤ v ∧ v ≤ 255) (h : sOK s) : sOK (su s (120 + P) v) := by
  obtain ⟨h1, h2, h3, h4, h5⟩ := h
  refine ⟨fun y hy => ?_, fun k hk => by rw [su_ne (by omega)]; exact h2 k hk, fun p hp => by rw [su_ne (by omega), su_ne (by omega)]; exact h3 p hp, by rw [su_ne (by omega)]; exact h4, by rw [su_ne (by omega)]; exact h5⟩
  obtain ⟨q0, q1, q2, q3, q4, q5, q6, q7, q8, q9, q10, q11⟩ := h1 y hy
  by_cases e : y = P
  · subst e
    exact ⟨by rw [su_ne (by omega)]; exact q0, by rw [su_ne (by omega)]; exact q1, by rw [su_ne (by omega)]; exact q2, by rw [su_ne (by omega)]; exact q3, by rw [su_ne (by omega)]; exact q4, by rw [su_self]; exact hv, by rw [su_ne (by omega)]; exact q6, by rw [su_ne (by omega)]; exact q7, by rw [su_ne (by omega)]; exact q8, by rw [su_ne (by omega)]; exact q9, by rw [su_ne (by omega)]; exact q10, by rw [su_ne (by omega)]; exact q11⟩
  · exact ⟨by rw [su_ne (by omega)]; exact q0, by rw [su_ne (by omega)]; exact q1, by rw [su_ne (by omega)]; exact q2, by rw [su_ne (by omega)]; exact q3, by rw [su_ne (by omega)]; exact q4, by rw [su_ne (by omega)]; exact q5, by rw [su_ne (by omega)]; exact q6, by rw [su_ne (by omega)]; exact q7, by rw [su_ne (by omega)]; exact q8, by rw [su_ne (by omega)]; exact q9, by rw [su_ne (by omega)]; exact q10, by rw [su_ne (by omega)]; exact q11⟩
theorem sK_deed {P : Nat} (hP : P < 40) (hv : v = 0 ∨ v = 1) (h : sOK s) : sOK (su s (160 + P) v) := by
  obtain ⟨h1, h2, h3, h4, h5⟩ := h
  refine ⟨fun y hy => ?_, fun k hk => by rw [su_ne (by omega)]; exact h2 k hk, fun p hp => by rw [su_ne (by omega), su_ne (by omega)]; exact h3 p hp, by rw [su_ne (by omega)]; exact h4, by rw [su_ne (by omega)]; exact h5⟩
  obtain ⟨q0, q1, q2, q3, q4, q5, q6, q7, q8, q9, q10, q11⟩ := h1 y hy
  by_cases e : y = P
  · subst e
    exact ⟨by rw [su_ne (by omega)]; exact q0, by rw [su_self]; exact hv, by rw [su_ne (by omega)]; exact q2, by rw [su_ne (by omega)]; exact q3, by rw [su_ne (by omega)]; exact q4, by rw [su_ne (by omega)]; exact q5, by rw [su_ne (by omega)]; exact q6, by rw [su_ne (by omega)]; exact q7, by rw [su_ne (by omega)]; exact q8, by rw [su_ne (by omega)]; exact q9, by rw [su_ne (by omega)]; exact q10, by rw [su_ne (by omega)]; exact q11⟩
  · exact ⟨by rw [su_ne (by omega)]; exact q0, by rw [su_ne (by omega)]; exact q1, by rw [su_ne (by omega)]; exact q2, by rw [su_ne (by omega)]; exact q3, by rw [su_ne (by omega)]; exact q4, by rw [su_ne (by omega)]; exact q5, by rw [su_ne (by omega)]; exact q6, by rw [su_ne (by omega)]; exact q7, by rw [su_ne (by omega)]; exact q8, by rw [su_ne (by omega)]; exact q9, by rw [su_ne (by omega)]; exact q10, by rw [su_ne (by omega)]; exact q11⟩
theorem sK_mark {P : Nat} (hP : P < 40) (hv : 0 ≤ v ∧ v ≤ 9) (h : sOK s) : sOK (su s (200 + P) v) := by
  obtain ⟨h1, h2, h3, h4, h5⟩ := h
  refine ⟨fun y hy => ?_, fun k hk => by rw [su_ne (by omega)]; exact h2 k hk, fun p hp => by rw [su_ne (by omega), su_ne (by omega)]; exact h3 p hp, by rw [su_ne (by omega)]; exact h4, by rw [su_ne (by omega)]; exact h5⟩
  obtain ⟨q0, q1, q2, q3, q4, q5, q6, q7, q8, q9, q10, q11⟩ := h1 y hy
  by_cases e : y = P
  · subst e
    exact ⟨by rw [su_ne (by omega)]; exact q0, by rw [su_ne (by omega)]; exact q1, by rw [su_ne (by omega)]; exact q2, by rw [su_ne (by omega)]; exact q3, by rw [su_ne (by omega)]; exact q4, by rw [su_ne (by omega)]; exact q5, by rw [su_self]; exact hv, by rw [su_ne (by omega)]; exact q7, by rw [su_ne (by omega)]; exact q8, by rw [su_ne (by omega)]; exact q9, by rw [su_ne (by omega)]; exact q10, by rw [su_ne (by omega)]; exact q11⟩
  · exact ⟨by rw [su_ne (by omega)]; exact q0, by rw [su_ne (by omega)]; exact q1, by rw [su_ne (by omega)]; exact q2, by rw [su_ne (by omega)]; exact q3, by rw [su_ne (by omega)]; exact q4, by rw [su_ne (by omega)]; exact q5, by rw [su_ne (by omega)]; exact q6, by rw [su_ne (by omega)]; exact q7, by rw [su_ne (by omega)]; exact q8, by rw [su_ne (by omega)]; exact q9, by rw [su_ne (by omega)]; exact q10, by rw [su_ne (by omega)]; exact q11⟩
theorem sK_own {P : Nat} (hP : P < 40) (hv : 0 ≤ v ∧ v ≤ 7) (h : sOK s) : sOK (su s (240 + P) v) := by
  obtain ⟨h1, h2, h3, h4, h5⟩ := h
  refine ⟨fun y hy => ?_, fun k hk => by rw [su_ne (by omega)]; exact h2 k hk, fun p hp => by rw [su_ne (by omega), su_ne (by omega)]; exact h3 p hp, by rw [su_ne (by omega)]; exact h4, by rw [su_ne (by omega)]; exact h5⟩
  obtain ⟨q0, q1, q2, q3, q4, q5, q6, q7, q8, q9, q10, q11⟩ := h1 y hy
  by_cases e : y = P
  · subst e
    exact ⟨by rw [su_ne (by omega)]; exact q0, by rw [su_ne (by omega)]; exact q1, by rw [su_ne (by omega)]; exact q2, by rw [su_ne (by omega)]; exact q3, by rw [su_ne (by omega)]; exact q4, by rw [su_ne (by omega)]; exact q5, by rw [su_ne (by omega)]; exact q6, by rw [su_self]; exact hv, by rw [su_ne (by omega)]; exact q8, by rw [su_ne (by omega)]; exact q9, by rw [su_ne (by omega)]; exact q10, by rw [su_ne (by omega)]; exact q11⟩
  · exact ⟨by rw [su_ne (by omega)]; exact q0, by rw [su_ne (by omega)]; exact q1, by rw [su_ne (by omega)]; exact q2, by rw [su_ne (by omega)]; exact q3, by rw [su_ne (by omega)]; exact q4, by rw [su_ne (by omega)]; exact q5, by rw [su_ne (by omega)]; exact q6, by rw [su_ne (by omega)]; exact q7, by rw [su_ne (by omega)]; exact q8, by rw [su_ne (by omega)]; exact q9, by rw [su_ne (by omega)]; exact q10, by rw [su_ne (by omega)]; exact q11⟩
theorem sK_hold {P : Nat} (hP : P < 40) (hv : v = -2 ∨ (0 ≤ v ∧ v ≤ 7)) (h : sOK s) : sOK (su s (280 + P) v) := by
  obtain ⟨h1, h2, h3, h4, h5⟩ := h
  refine ⟨fun y hy => ?_, fun k hk => by rw [su_ne (by omega)]; exact h2 k hk, fun p hp => by rw [su_ne (by omega), su_ne (by omega)]; exact h3 p hp, by rw [su_ne (by omega)]; exact h4, by rw [su_ne (by omega)]; exact h5⟩
  obtain ⟨q0, q1, q2, q3, q4, q5, q6, q7, q8, q9, q10, q11⟩ := h1 y hy
  by_cases e : y = P
  · subst e
    exact ⟨by rw [su_ne (by omega)]; exact q0, by rw [su_ne (by omega)]; exact q1, by rw [su_ne (by omega)]; exact q2, by rw [su_ne (by omega)]; exact q3, by rw [su_ne (by omega)]; exact q4, by rw [su_ne (by omega)]; exact q5, by rw [su_ne (by omega)]; exact q6, by rw [su_ne (by omega)]; exact q7, by rw [su_self]; exact hv, by rw [su_ne (by omega)]; exact q9, by rw [su_ne (by omega)]; exact q10, by rw [su_ne (by omega)]; exact q11⟩
  · exact ⟨by rw [su_ne (by omega)]; exact q0, by rw [su_ne (by omega)]; exact q1, by rw [su_ne (by omega)]; exact q2, by rw [su_ne (by omega)]; exact q3, by rw [su_ne (by omega)]; exact q4, by rw [su_ne (by omega)]; exact q5, by rw [su_ne (by omega)]; exact q6, by rw [su_ne (by omega)]; exact q7, by rw [su_ne (by omega)]; exact q8, by rw [su_ne (by omega)]; exact q9, by rw [su_ne (by omega)]; exact q10, by rw [su_ne (by omega)]; exact q11⟩
theorem sK_lent {P : Nat} (hP : P < 40) (hv : 0 ≤ v ∧ v ≤ 99999) (h : sOK s) : sOK (su s (320 + P) v) := by
  obtain ⟨h1, h2, h3, h4, h5⟩ := h
  refine ⟨fun y hy => ?_, fun k hk => by rw [su_ne (by omega)]; exact h2 k hk, fun p hp => by rw [su_ne (by omega), su_ne (by omega)]; exact h3 p hp, by rw [su_ne (by omega)]; exact h4, by rw [su_ne (by omega)]; exact h5⟩
  obtain ⟨q0, q1, q2, q3, q4, q5, q6, q7, q8, q9, q10, q11⟩ := h1 y hy
  by_cases e : y = P
  · subst e
    exact ⟨by rw [su_ne (by omega)]; exact q0, by rw [su_ne (by omega)]; exact q1, by rw [su_ne (by omega)]; exact q2, by rw [su_ne (by omega)]; exact q3, by rw [su_ne (by omega)]; exact q4, by rw [su_ne (by omega)]; exact q5, by rw [su_ne (by omega)]; exact q6, by rw [su_ne (by omega)]; exact q7, by rw [su_ne (by omega)]; exact q8, by rw [su_self]; exact hv, by rw [su_ne (by omega)]; exact q10, by rw [su_ne (by omega)]; exact q11⟩
  · exact ⟨by rw [su_ne (by omega)]; exact q0, by rw [su_ne (by omega)]; exact q1, by rw [su_ne (by omega)]; exact q2, by rw [su_ne (by omega)]; exact q3, by rw [su_ne (by omega)]; exact q4, by rw [su_ne (by omega)]; exact q5, by rw [su_ne (by omega)]; exact q6, by rw [su_ne (by omega)]; exact q7, by rw [su_ne (by omega)]; exact q8, by rw [su_ne (by omega)]; exact q9, by rw [su_ne (by omega)]; exact q10, by rw [su_ne (by omega)]; exact q11⟩
theorem sK_due {P : Nat} (hP : P < 40) (hv : 0 ≤ v ∧ v ≤ 99999) (h : sOK s) : sOK (su s (360 + P) v) := by
  obtain ⟨h1, h2, h3, h4, h5⟩ := h
  refine ⟨fun y hy => ?_, fun k hk => by rw [su_ne (by omega)]; exact h2 k hk, fun p hp => by rw [su_ne (by omega), su_ne (by omega)]; exact h3 p hp, by rw [su_ne (by omega)]; exact h4, by rw [su_ne (by omega)]; exact h5⟩
  obtain ⟨q0, q1, q2, q3, q4, q5, q6, q7, q8, q9, q10, q11⟩ := h1 y hy
  by_cases e : y = P
  · subst e
    exact ⟨by rw [su_ne (by omega)]; exact q0, by rw [su_ne (by omega)]; exact q1, by rw [su_ne (by omega)]; exact q2, by rw [su_ne (by omega)]; exact q3, by rw [su_ne (by omega)]; exact q4, by rw [su_ne (by omega)]; exact q5, by rw [su_ne (by omega)]; exact q6, by rw [su_ne (by omega)]; exact q7, by rw [su_ne (by omega)]; exact q8, by rw [su_ne (by omega)]; exact q9, by rw [su_self]; exact hv, by rw [su_ne (by omega)]; exact q11⟩
  · exact ⟨by rw [su_ne (by omega)]; exact q0, by rw [su_ne (by omega)]; exact q1, by rw [su_ne (by omega)]; exact q2, by rw [su_ne (by omega)]; exact q3, by rw [su_ne (by omega)]; exact q4, by rw [su_ne (by omega)]; exact q5, by rw [su_ne (by omega)]; exact q6, by rw [su_ne (by omega)]; exact q7, by rw [su_ne (by omega)]; exact q8, by rw [su_ne (by omega)]; exact q9, by rw [su_ne (by omega)]; exact q10, by rw [su_ne (by omega)]; exact q11⟩
theorem sK_many {P : Nat} (hP : P < 40) (hv : 0 ≤ v ∧ v ≤ 16) (h : sOK s) : sOK (su s (400 + P) v) := by
  obtain ⟨h1, h2, h3, h4, h5⟩ := h
  refine ⟨fun y hy => ?_, fun k hk => by rw [su_ne (by omega)]; exact h2 k hk, fun p hp => by rw [su_ne (by omega), su_ne (by omega)]; exact h3 p hp, by rw [su_ne (by omega)]; exact h4, by rw [su_ne (by omega)]; exact h5⟩
  obtain ⟨q0, q1, q2, q3, q4, q5, q6, q7, q8, q9, q10, q11⟩ := h1 y hy
  by_cases e : y = P
  · subst e
    exact ⟨by rw [su_ne (by omega)]; exact q0, by rw [su_ne (by omega)]; exact q1, by rw [su_ne (by omega)]; exact q2, by rw [su_ne (by omega)]; exact q3, by rw [su_ne (by omega)]; exact q4, by rw [su_ne (by omega)]; exact q5, by rw [su_ne (by omega)]; exact q6, by rw [su_ne (by omega)]; exact q7, by rw [su_ne (by omega)]; exact q8, by rw [su_ne (by omega)]; exact q9, by rw [su_ne (by omega)]; exact q10, by rw [su_self]; exact hv⟩
  · exact ⟨by rw [su_ne (by omega)]; exact q0, by rw [su_ne (by omega)]; exact q1, by rw [su_ne (by omega)]; exact q2, by rw [su_ne (by omega)]; exact q3, by rw [su_ne (by omega)]; exact q4, by rw [su_ne (by omega)]; exact q5, by rw [su_ne (by omega)]; exact q6, by rw [su_ne (by omega)]; exact q7, by rw [su_ne (by omega)]; exact q8, by rw [su_ne (by omega)]; exact q9, by rw [su_ne (by omega)]; exact q10, by rw [su_ne (by omega)]; exact q11⟩
theorem sK_there {P : Nat} (hP : P < 40) (hv : v = 0 ∨ v = 1) (h : sOK s) : sOK (su s (440 + P) v) := by
  obtain ⟨h1, h2, h3, h4, h5⟩ := h
  refine ⟨fun y hy => ?_, fun k hk => by rw [su_ne (by omega)]; exact h2 k hk, fun p hp => by rw [su_ne (by omega), su_ne (by omega)]; exact h3 p hp, by rw [su_ne (by omega)]; exact h4, by rw [su_ne (by omega)]; exact h5⟩
  obtain ⟨q0, q1, q2, q3, q4, q5, q6, q7, q8, q9, q10, q11⟩ := h1 y hy
  by_cases e : y = P
  · subst e
    exact ⟨by rw [su_self]; exact hv, by rw [su_ne (by omega)]; exact q1, by rw [su_ne (by omega)]; exact q2, by rw [su_ne (by omega)]; exact q3, by rw [su_ne (by omega)]; exact q4, by rw [su_ne (by omega)]; exact q5, by rw [su_ne (by omega)]; exact q6, by rw [su_ne (by omega)]; exact q7, by rw [su_ne (by omega)]; exact q8, by rw [su_ne (by omega)]; exact q9, by rw [su_ne (by omega)]; exact q10, by rw [su_ne (by omega)]; exact q11⟩
  · exact ⟨by rw [su_ne (by omega)]; exact q0, by rw [su_ne (by omega)]; exact q1, by rw [su_ne (by omega)]; exact q2, by rw [su_ne (by omega)]; exact q3, by rw [su_ne (by omega)]; exact q4, by rw [su_ne (by omega)]; exact q5, by rw [su_ne (by omega)]; exact q6, by rw [su_ne (by omega)]; exact q7, by rw [su_ne (by omega)]; exact q8, by rw [su_ne (by omega)]; exact q9, by rw [su_ne (by omega)]; exact q10, by rw [su_ne (by omega)]; exact q11⟩
theorem sK_hand {P : Nat} (hP : P < 640) (hv : 0 ≤ v ∧ v ≤ 7) (h : sOK s) : sOK (su s (480 + P) v) := by
  obtain ⟨h1, h2, h3, h4, h5⟩ := h
  refine ⟨fun y hy => sYr_s hy (fun k hk => su_ne (by omega)) (h1 y hy), fun k hk => ?_, fun p hp => by rw [su_ne (by omega), su_ne (by omega)]; exact h3 p hp, by rw [su_ne (by omega)]; exact h4, by rw [su_ne (by omega)]; exact h5⟩
  by_cases e : k = P
  · subst e
    rw [su_self]
    exact hv
  · rw [su_ne (by omega)]
    exact h2 k hk
theorem sK_coin {P : Nat} (hP : P < 8) (hv : 0 ≤ v ∧ v ≤ 99999) (hz : gx_and (gx_shr (s 1128) (P : Int)) 1 = 0 → v = 0) (h : sOK s) : sOK (su s (1120 + P) v) := by
  obtain ⟨h1, h2, h3, h4, h5⟩ := h
  refine ⟨fun y hy => sYr_s hy (fun k hk => su_ne (by omega)) (h1 y hy), fun k hk => by rw [su_ne (by omega)]; exact h2 k hk, fun p hp => ?_, by rw [su_ne (by omega)]; exact h4, by rw [su_ne (by omega)]; exact h5⟩
  rw [su_ne (j := 1128) (by omega)]
  by_cases e : p = P
  · subst e
    rw [su_self]
    exact ⟨hv, hz⟩
  · rw [su_ne (by omega)]
    exact h3 p hp
theorem sK_day (h : sOK s) : sOK (su s 1129 v) := by
  obtain ⟨h1, h2, h3, h4, h5⟩ := h
  exact ⟨fun y hy => sYr_s hy (fun k hk => su_ne (by omega)) (h1 y hy), fun k hk => by rw [su_ne (by omega)]; exact h2 k hk, fun p hp => by rw [su_ne (by omega), su_ne (by omega)]; exact h3 p hp, by rw [su_ne (by omega)]; exact h4, by rw [su_ne (by omega)]; exact h5⟩
theorem sK_lot (hv : 0 ≤ v ∧ v ≤ 65535) (h : sOK s) : sOK (su s 1130 v) := by
  obtain ⟨h1, h2, h3, h4, h5⟩ := h
  exact ⟨fun y hy => sYr_s hy (fun k hk => su_ne (by omega)) (h1 y hy), fun k hk => by rw [su_ne (by omega)]; exact h2 k hk, fun p hp => by rw [su_ne (by omega), su_ne (by omega)]; exact h3 p hp, by rw [su_ne (by omega)]; exact h4, by rw [su_self]; exact hv⟩
theorem sK_ppl (hv : 0 ≤ v ∧ v ≤ 255) (hz : ∀ p : Nat, p < 8 → gx_and (gx_shr v (p : Int)) 1 = 0 → gx_and (gx_shr (s 1128) (p : Int)) 1 = 0 ∨ s (1120 + p) = 0) (h : sOK s) : sOK (su s 1128 v) := by
  obtain ⟨h1, h2, h3, h4, h5⟩ := h
  refine ⟨fun y hy => sYr_s hy (fun k hk => su_ne (by omega)) (h1 y hy), fun k hk => by rw [su_ne (by omega)]; exact h2 k hk, fun p hp => ?_, by rw [su_self]; exact hv, by rw [su_ne (by omega)]; exact h5⟩
  rw [su_self, su_ne (by omega)]
  exact ⟨(h3 p hp).1, fun c => (hz p hp c).elim (h3 p hp).2 id⟩
end SUK
