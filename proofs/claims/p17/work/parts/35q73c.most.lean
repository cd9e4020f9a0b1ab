/-! sold: the most that a row of years brings -/
def dl (L p : Nat) : Nat := L &&& (2 ^ 32 - (2 ^ p + 1))
def cmpl (P S : Nat) : Nat := P &&& (2 ^ 32 - (S + 1))
theorem pw_lt {p : Nat} (h : p ≤ 8) : 2 ^ p < 2 ^ 31 := Nat.pow_lt_pow_right (by decide) (by omega)
theorem dl_bit {L p j : Nat} (hp : p ≤ 8) (hj : j < 31) : (dl L p).testBit j = (L.testBit j && !(decide (p = j))) := by
  unfold dl
  rw [hnot_bit (pw_lt hp) hj, Nat.testBit_two_pow]
theorem dl_lt {L p : Nat} (h : L < 256) : dl L p < 256 := Nat.lt_of_le_of_lt Nat.and_le_left h
theorem cmpl_lt {P S : Nat} (h : P < 256) : cmpl P S < 256 := Nat.lt_of_le_of_lt Nat.and_le_left h
theorem cmpl_bit {P S j : Nat} (hS : S < 256) (hj : j < 31) : (cmpl P S).testBit j = (P.testBit j && !(S.testBit j)) := hnot_bit (by omega) hj
theorem bit8 {X j : Nat} (hX : X < 256) (h : 8 ≤ j) : X.testBit j = false := Nat.testBit_lt_two_pow (Nat.lt_of_lt_of_le hX (show 2 ^ 8 ≤ 2 ^ j from Nat.pow_le_pow_right (by decide) h))
theorem ext8 {A B : Nat} (hA : A < 256) (hB : B < 256) (h : ∀ j, j < 8 → A.testBit j = B.testBit j) : A = B := Nat.eq_of_testBit_eq (fun j => by
  rcases Nat.lt_or_ge j 8 with q | q
  · exact h j q
  · rw [bit8 hA q, bit8 hB q])
theorem cmpl_put {P S p : Nat} (hP : P < 256) (hS : S < 256) (hp : p < 8) : cmpl P (S ||| 2 ^ p) = dl (cmpl P S) p := by
  have l : S ||| 2 ^ p < 256 := Nat.or_lt_two_pow (n := 8) hS (p2_lt hp)
  refine ext8 (cmpl_lt hP) (dl_lt (cmpl_lt hP)) (fun j hj => ?_)
  rw [cmpl_bit l (by omega), dl_bit (by omega) (by omega), cmpl_bit hS (by omega), Nat.testBit_or, Nat.testBit_two_pow]
  cases P.testBit j <;> cases S.testBit j <;> cases decide (p = j) <;> rfl
theorem cmpl_0 {P : Nat} (hP : P < 256) : cmpl P 0 = P := by
  refine ext8 (cmpl_lt hP) hP (fun j hj => ?_)
  rw [cmpl_bit (by decide) (by omega), Nat.zero_testBit, Bool.not_false, Bool.and_true]
theorem dl_8 {L : Nat} (h : L < 256) : dl L 8 = L := by
  refine ext8 (dl_lt h) h (fun j hj => ?_)
  rw [dl_bit (by omega) (by omega), decide_eq_false (by omega), Bool.not_false, Bool.and_true]
def sPw (P L : Nat) : Prop := ∀ q, q < 8 → L.testBit q = true → P.testBit q = true
theorem sPw_dl {P L p : Nat} (h : sPw P L) (hp : p ≤ 8) : sPw P (dl L p) := fun q hq hb => by
  rw [dl_bit hp (by omega), Bool.and_eq_true] at hb
  exact h q hq hb.1
theorem sPw_r {P : Nat} : sPw P P := fun _ _ h => h
def wB (V : Nat → Nat → Nat) (ow : Nat → Int) (G : Nat → Int) (i L p : Nat) : Int := if L.testBit p = true ∧ ow i ≠ (p : Int) then (V i p : Int) + G (dl L p) else -1
def mx (b : Int) (w : Nat → Int) : Nat → Int
  | 0 => b
  | p + 1 => if mx b w p < w p then w p else mx b w p
theorem mx_s {b : Int} {w : Nat → Int} {p : Nat} : mx b w (p + 1) = if mx b w p < w p then w p else mx b w p := rfl
theorem mx_le {b X : Int} {w : Nat → Int} : ∀ k, mx b w k ≤ X ↔ b ≤ X ∧ ∀ p, p < k → w p ≤ X
  | 0 => ⟨fun h => ⟨h, fun p hp => absurd hp (Nat.not_lt_zero _)⟩, fun h => h.1⟩
  | k + 1 => by
    have ih := mx_le (b := b) (X := X) (w := w) k
    rw [mx_s]
    constructor
    · intro h
      have h2 : mx b w k ≤ X ∧ w k ≤ X := by
        split at h <;> omega
      obtain ⟨i1, i2⟩ := ih.mp h2.1
      refine ⟨i1, fun p hp => ?_⟩
      by_cases e : p = k
      · rw [e]
        exact h2.2
      · exact i2 p (by omega)
    · rintro ⟨h1, h2⟩
      have a := ih.mpr ⟨h1, fun p hp => h2 p (by omega)⟩
      have c := h2 k (by omega)
      split <;> omega
theorem mx_at {b : Int} {w : Nat → Int} : ∀ k, mx b w k = b ∨ ∃ p, p < k ∧ mx b w k = w p
  | 0 => .inl rfl
  | k + 1 => by
    rw [mx_s]
    split
    · exact .inr ⟨k, by omega, rfl⟩
    · rcases mx_at (b := b) (w := w) k with e | ⟨p, hp, e⟩
      · exact .inl e
      · exact .inr ⟨p, by omega, e⟩
theorem mx_ref {b : Int} {w : Nat → Int} {k : Nat} (hb : 0 ≤ b) : (if mx 0 w k < b then b else mx 0 w k) = mx b w k := by
  have a := (mx_le (b := b) (X := mx b w k) (w := w) k).mp (Int.le_refl _)
  have c := (mx_le (b := 0) (X := mx 0 w k) (w := w) k).mp (Int.le_refl _)
  have d : mx 0 w k ≤ mx b w k := (mx_le k).mpr ⟨by omega, a.2⟩
  split
  · have : mx b w k ≤ b := (mx_le k).mpr ⟨Int.le_refl _, fun p hp => by have := c.2 p hp; omega⟩
    omega
  · have : mx b w k ≤ mx 0 w k := (mx_le k).mpr ⟨by omega, c.2⟩
    omega
def fSo (V : Nat → Nat → Nat) (ow : Nat → Int) : Nat → Nat → Nat → Int
  | 0, _, _ => 0
  | d + 1, i, L => mx (fSo V ow d (i + 1) L) (wB V ow (fSo V ow d (i + 1)) i L) 8
section PS
variable {V : Nat → Nat → Nat} {ow : Nat → Int}
theorem fSo_bd (hV : ∀ i p, V i p ≤ 999) : ∀ d i L, 0 ≤ fSo V ow d i L ∧ fSo V ow d i L ≤ 999 * (d : Int)
  | 0, _, _ => ⟨Int.le_refl _, Int.le_refl _⟩
  | d + 1, i, L => by
    have ih := fSo_bd hV d (i + 1)
    show 0 ≤ mx _ _ 8 ∧ mx _ _ 8 ≤ 999 * ((d + 1 : Nat) : Int)
    have a := (mx_le (b := fSo V ow d (i + 1) L) (X := mx (fSo V ow d (i + 1) L) (wB V ow (fSo V ow d (i + 1)) i L) 8) (w := wB V ow (fSo V ow d (i + 1)) i L) 8).mp (Int.le_refl _)
    have b := ih L
    refine ⟨by omega, (mx_le 8).mpr ⟨by omega, fun p _ => ?_⟩⟩
    unfold wB
    split
    · have v := hV i p
      have g := ih (dl L p)
      omega
    · omega
theorem wB_t {G : Nat → Int} {i L p : Nat} (h : L.testBit p = true) (h2 : ow i ≠ (p : Int)) : wB V ow G i L p = (V i p : Int) + G (dl L p) := if_pos ⟨h, h2⟩
theorem wB_f {G : Nat → Int} {i L p : Nat} (h : ¬ (L.testBit p = true ∧ ow i ≠ (p : Int))) : wB V ow G i L p = -1 := if_neg h
def pk (w : Nat → Int) (v : Int) : Nat → Nat → Nat
  | _, 0 => 8
  | k, d + 1 => if w k = v then k else pk w v (k + 1) d
theorem pk_t {w : Nat → Int} {v : Int} {k d : Nat} (h : w k = v) : pk w v k (d + 1) = k := if_pos h
theorem pk_f {w : Nat → Int} {v : Int} {k d : Nat} (h : ¬ w k = v) : pk w v k (d + 1) = pk w v (k + 1) d := if_neg h
theorem pkf_le {w : Nat → Int} {v : Int} : ∀ d k, k + d = 8 → pk w v k d ≤ 8 ∧ (pk w v k d < 8 → w (pk w v k d) = v)
  | 0, _, _ => ⟨Nat.le_refl _, fun h => absurd h (Nat.lt_irrefl _)⟩
  | d + 1, k, h => by
    by_cases c : w k = v
    · rw [pk_t c]
      exact ⟨by omega, fun _ => c⟩
    · rw [pk_f c]
      exact pkf_le d (k + 1) (by omega)
/-- who is left, and who gets the year at a place -/
def gLf (V : Nat → Nat → Nat) (ow : Nat → Int) (n P : Nat) : Nat → Nat
  | 0 => P
  | i + 1 => dl (gLf V ow n P i) (pk (wB V ow (fSo V ow (n - 1 - i) (i + 1)) i (gLf V ow n P i)) (fSo V ow (n - i) i (gLf V ow n P i)) 0 8)
def gGt (V : Nat → Nat → Nat) (ow : Nat → Int) (n P i : Nat) : Nat := pk (wB V ow (fSo V ow (n - 1 - i) (i + 1)) i (gLf V ow n P i)) (fSo V ow (n - i) i (gLf V ow n P i)) 0 8
theorem gLf_s {n P i : Nat} : gLf V ow n P (i + 1) = dl (gLf V ow n P i) (gGt V ow n P i) := rfl
theorem gGt_le {n P i : Nat} : gGt V ow n P i ≤ 8 := (pkf_le 8 0 rfl).1
theorem gLf_ok {n P : Nat} (hP : P < 256) : ∀ i, gLf V ow n P i < 256 ∧ sPw P (gLf V ow n P i)
  | 0 => ⟨hP, sPw_r⟩
  | i + 1 => by
    obtain ⟨a, b⟩ := gLf_ok hP i
    rw [gLf_s]
    exact ⟨dl_lt a, sPw_dl b gGt_le⟩
theorem gGt_in (hV : ∀ i p, V i p ≤ 999) {n P i : Nat} (h : gGt V ow n P i < 8) : (gLf V ow n P i).testBit (gGt V ow n P i) = true ∧ ow i ≠ ((gGt V ow n P i : Nat) : Int) := by
  have e := (pkf_le (w := wB V ow (fSo V ow (n - 1 - i) (i + 1)) i (gLf V ow n P i)) (v := fSo V ow (n - i) i (gLf V ow n P i)) 8 0 rfl).2 h
  have e : wB V ow (fSo V ow (n - 1 - i) (i + 1)) i (gLf V ow n P i) (gGt V ow n P i) = fSo V ow (n - i) i (gLf V ow n P i) := e
  have b := fSo_bd (ow := ow) hV (n - i) i (gLf V ow n P i)
  rcases Classical.em ((gLf V ow n P i).testBit (gGt V ow n P i) = true ∧ ow i ≠ ((gGt V ow n P i : Nat) : Int)) with q | q
  · exact q
  · rw [wB_f q] at e
    omega
def oS (V : Nat → Nat → Nat) (ow : Nat → Int) (n P p : Nat) : Nat → Int
  | 0 => 0
  | i + 1 => if gGt V ow n P i = p then (V i p : Int) else oS V ow n P p i
def oT (V : Nat → Nat → Nat) (ow : Nat → Int) (n P p : Nat) : Nat → Int
  | 0 => 0
  | i + 1 => oT V ow n P p i + (if gGt V ow n P i = p then (V i p : Int) else 0)
theorem oS_eq (hV : ∀ i p, V i p ≤ 999) {n P p : Nat} (hp : p < 8) : ∀ i, ((gLf V ow n P i).testBit p = true → oS V ow n P p i = 0 ∧ oT V ow n P p i = 0) ∧ oS V ow n P p i = oT V ow n P p i
  | 0 => ⟨fun _ => ⟨rfl, rfl⟩, rfl⟩
  | i + 1 => by
    obtain ⟨a, b⟩ := oS_eq hV (n := n) (P := P) hp i
    rw [gLf_s, dl_bit gGt_le (by omega)]
    show (((gLf V ow n P i).testBit p && !(decide (gGt V ow n P i = p))) = true → (if gGt V ow n P i = p then (V i p : Int) else oS V ow n P p i) = 0 ∧ oT V ow n P p i + (if gGt V ow n P i = p then (V i p : Int) else 0) = 0) ∧ (if gGt V ow n P i = p then (V i p : Int) else oS V ow n P p i) = oT V ow n P p i + (if gGt V ow n P i = p then (V i p : Int) else 0)
    by_cases e : gGt V ow n P i = p
    · have hi := (gGt_in (ow := ow) hV (n := n) (P := P) (i := i) (by omega)).1
      rw [e] at hi
      obtain ⟨z1, z2⟩ := a hi
      rw [if_pos e, if_pos e, z2, decide_eq_true e]
      exact ⟨fun q => (by rw [Bool.not_true, Bool.and_false] at q; cases q), by omega⟩
    · rw [if_neg e, if_neg e, decide_eq_false e, Bool.not_false, Bool.and_true]
      refine ⟨fun q => ?_, by omega⟩
      have := a q
      omega
theorem oS_bd (hV : ∀ i p, V i p ≤ 999) {n P p : Nat} : ∀ i, 0 ≤ oS V ow n P p i ∧ oS V ow n P p i ≤ 999
  | 0 => ⟨Int.le_refl _, by show (0 : Int) ≤ 999; decide⟩
  | i + 1 => by
    have ih := oS_bd hV (n := n) (P := P) (p := p) i
    show 0 ≤ (if gGt V ow n P i = p then (V i p : Int) else oS V ow n P p i) ∧ (if gGt V ow n P i = p then (V i p : Int) else oS V ow n P p i) ≤ 999
    have := hV i p
    split <;> omega
def sAn (V : Nat → Nat → Nat) (ow : Nat → Int) (n P : Nat) (w : Int) : Int := if 20 ≤ w then fSo V ow n 0 (dl P (w - 20).toNat) - (fSo V ow n 0 P - oS V ow n P (w - 20).toNat n) else if w = 10 then fSo V ow n 0 P else ((gGt V ow n P w.toNat : Nat) : Int)
end PS
