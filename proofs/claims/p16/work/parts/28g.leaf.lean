/-! methods read by hand: leaves -/
section GLF
variable {xs : List Int32} {w0 : sx_W} {d : Nat} {Q : gx_Q} {m : gx_M}
theorem gc_has {s k : Int} (h1 : gx_has s k → Q (some 1) m) (h0 : ¬ gx_has s k → Q (some 0) m) : gx_to xs w0 d yp_m165 0 [(0, .inl s), (1, .inl k)] [] m Q :=
  gt165_0 (fun c => h0 c) (fun c => h1 c)
theorem gc_in {v a b : Int} (h1 : a ≤ v → v ≤ b → Q (some 1) m) (h0 : ¬ (a ≤ v ∧ v ≤ b) → Q (some 0) m) : gx_to xs w0 d yp_m162 0 [(0, .inl v), (1, .inl a), (2, .inl b)] [] m Q :=
  gt162_0 (fun c => h0 (by omega)) (fun c c' => h0 (by omega)) (fun c c' => h1 c c')
def gx_P (m : gx_M) (p : Int) : Prop := 0 ≤ p ∧ p < 8 ∧ gx_has (m 87 1128) p
theorem gc_isPerson {p : Int} (hI : gx_I m) (h1 : gx_P m p → Q (some 1) m) (h0 : ¬ gx_P m p → Q (some 0) m) : gx_to xs w0 (d + 1) yp_m164 0 [(0, .inr 86), (1, .inl p)] [] m Q :=
  gt164_0 hI (fun c => h0 (fun h => by have := h.1; omega)) (fun c c' => h0 (fun h => by have := h.2.1; omega)) (fun c c' => gc_has
    (fun hh => gt164_22 (fun e => by omega) (fun _ => h1 ⟨c, c', hh⟩))
    (fun hh => gt164_22 (fun _ => h0 (fun h => hh h.2.2)) (fun e => by omega)))
def gx_bits : Nat → Int → Int
  | 0, _ => 0
  | k + 1, s => gx_w (gx_bits k s + gx_and (gx_shr s (k : Int)) 1)
theorem gx_bits_bd (s : Int) : ∀ k : Nat, k ≤ 1000 → 0 ≤ gx_bits k s ∧ gx_bits k s ≤ k
  | 0, _ => ⟨Int.le_refl _, Int.le_refl _⟩
  | k + 1, hk => by
    have h := gx_bits_bd s k (by omega)
    have := gx_and_bd (gx_shr s (k : Int)) 1 (by decide)
    unfold gx_bits
    rw [gx_w_id (by omega) (by omega)]
    omega
theorem gl_bits {s : Int} (hQ : Q (some (gx_bits 20 s)) m) : ∀ (j k : Nat), k + j = 20 → gx_to xs w0 d yp_m206 4 [(0, .inl s), (1, .inl (gx_bits k s)), (2, .inl (k : Int))] [] m Q
  | 0, k, h => gt206_4 (by omega) (fun _ => by
    have e : k = 20 := by omega
    subst e
    exact hQ) (fun c => by omega)
  | j + 1, k, h => gt206_4 (by omega) (fun c => by omega) (fun c => by
    have := gl_bits hQ j (k + 1) (by omega)
    rw [show ((k + 1 : Nat) : Int) = (k : Int) + 1 by omega] at this
    exact this)
theorem gc_bits {s : Int} (hQ : Q (some (gx_bits 20 s)) m) : gx_to xs w0 d yp_m206 0 [(0, .inl s)] [] m Q := gt206_0 (gl_bits hQ 20 0 (by omega))
/-- the factorial of a small number comes back as some number -/
theorem gl_ord {n : Int} (hn : n ≤ 1000) (hQ : ∀ v, Q (some v) m) : ∀ (j : Nat) (v k : Int), 2 ≤ k → k ≤ 1001 → 1001 - k = j → gx_to xs w0 d yp_m239 4 [(0, .inl n), (1, .inl v), (2, .inl k)] [] m Q
  | 0, v, k, h1, h2, h3 => gt239_4 (by omega) (fun _ => hQ v) (fun c => by omega)
  | j + 1, v, k, h1, h2, h3 => gt239_4 (by omega) (fun _ => hQ v) (fun c => gl_ord hn hQ j _ (k + 1) (by omega) (by omega) (by omega))
theorem gc_ord {n : Int} (hn : n ≤ 1000) (hQ : ∀ v, Q (some v) m) : gx_to xs w0 d yp_m239 0 [(0, .inl n)] [] m Q := gt239_0 (gl_ord hn hQ 999 1 2 (by omega) (by omega) (by omega))
theorem gl_ord5 {n : Int} (hn : 1 ≤ n ∧ n ≤ 5) (hQ : ∀ v, v ≠ 0 → Q (some v) m) : ∀ (j : Nat) (v k : Int), (k = 2 ∧ v = 1) ∨ (k = 3 ∧ v = 2) ∨ (k = 4 ∧ v = 6) ∨ (k = 5 ∧ v = 24) ∨ (k = 6 ∧ v = 120) → 6 - k = j → gx_to xs w0 d yp_m239 4 [(0, .inl n), (1, .inl v), (2, .inl k)] [] m Q
  | 0, v, k, h1, h3 => gt239_4 (by omega) (fun _ => hQ v (by omega)) (fun c => by omega)
  | j + 1, v, k, h1, h3 => gt239_4 (by omega) (fun _ => hQ v (by omega)) (fun c => gl_ord5 hn hQ j _ (k + 1) (by
      rcases h1 with ⟨rfl, rfl⟩ | ⟨rfl, rfl⟩ | ⟨rfl, rfl⟩ | ⟨rfl, rfl⟩ | ⟨rfl, rfl⟩
      · exact .inr (.inl ⟨rfl, rfl⟩)
      · exact .inr (.inr (.inl ⟨rfl, rfl⟩))
      · exact .inr (.inr (.inr (.inl ⟨rfl, rfl⟩)))
      · exact .inr (.inr (.inr (.inr ⟨rfl, rfl⟩)))
      · omega) (by omega))
theorem gc_ord5 {n : Int} (hn : 1 ≤ n ∧ n ≤ 5) (hQ : ∀ v, v ≠ 0 → Q (some v) m) : gx_to xs w0 d yp_m239 0 [(0, .inl n)] [] m Q := gt239_0 (gl_ord5 hn hQ 4 1 2 (.inl ⟨rfl, rfl⟩) (by omega))
theorem gl_gcd (hQ : ∀ v, v ≠ 0 → Q (some v) m) : ∀ (n : Nat) (x y : Int), y.natAbs ≤ n → (y = 0 → x ≠ 0) → gx_to xs w0 d yp_m241 4 [(2, .inl x), (3, .inl y)] [] m Q
  | 0, x, y, h1, h2 => gt241_4 (fun e => hQ x (h2 e)) (fun c => c) (fun c => by omega)
  | n + 1, x, y, h1, h2 => gt241_4 (fun e => hQ x (h2 e)) (fun c => c) (fun c => gl_gcd hQ n y _ (by
      have : (Int.tmod x y).natAbs < y.natAbs := by
        rw [Int.natAbs_tmod]
        exact Nat.mod_lt _ (by omega)
      omega) (fun _ => c))
theorem gc_gcd {x y : Int} (hy : y ≠ 0) (hQ : ∀ v, v ≠ 0 → Q (some v) m) : gx_to xs w0 d yp_m241 0 [(0, .inl x), (1, .inl y)] [] m Q := gt241_0 (gl_gcd hQ y.natAbs x y (Nat.le_refl _) (fun e => absurd e hy))
/-- what a sum, a product, a quotient comes to: any number -/
theorem gc_reckon {o x y : Int} (hy : o = 5 ∨ o = 6 → y ≠ 0) (hQ : ∀ v, Q (some v) m) : gx_to xs w0 d yp_m209 0 [(0, .inl o), (1, .inl x), (2, .inl y)] [] m Q :=
  gt209_0 (fun _ _ => hQ _) (fun _ _ => hQ _) (fun _ => hQ _) (fun _ => hQ _) (fun _ => hQ _) (fun e => hy (.inl e)) (fun _ => hQ _) (fun e => hy (.inr e)) (fun _ => hQ _) (fun _ _ => hQ _) (fun _ _ => hQ _) (fun _ _ => hQ _) (fun _ _ => hQ _)
end GLF
