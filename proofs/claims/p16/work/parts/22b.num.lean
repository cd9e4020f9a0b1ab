/-! more of numbers by intervals -/
theorem bx_rem (x y : Int32) : (x - x / y * y).toInt = x.toInt.tmod y.toInt := by
  rw [Int32.toInt_sub, Int32.toInt_mul, Int32.toInt_div, Int.bmod_mul_bmod, Int.sub_bmod_bmod]
  have h : x.toInt - x.toInt.tdiv y.toInt * y.toInt = x.toInt.tmod y.toInt := by rw [Int.tmod_def, Int.mul_comm]
  rw [h, ← Int32.toInt_mod]
  exact ax_bm (ax_lo _) (ax_hi _)
theorem bx_rem_bd (x y : Int32) (B : Int) (h1 : -B ≤ y.toInt) (h2 : y.toInt ≤ B) (h0 : y.toInt ≠ 0) : -B < (x - x / y * y).toInt ∧ (x - x / y * y).toInt < B := by
  rw [bx_rem]
  have hn : (x.toInt.tmod y.toInt).natAbs < y.toInt.natAbs := by
    rw [Int.natAbs_tmod]
    exact Nat.mod_lt _ (by omega)
  omega
theorem bx_div_bd (x y : Int32) (h1 : 0 ≤ x.toInt) (h2 : 0 < y.toInt) : 0 ≤ (x / y).toInt ∧ (x / y).toInt ≤ x.toInt := by
  have e : (x / y).toInt = x.toInt.tdiv y.toInt := by
    rw [Int32.toInt_div]
    have := ax_hi x
    have := Int.tdiv_le_self y.toInt h1
    have := Int.tdiv_nonneg h1 (Int.le_of_lt h2)
    exact ax_bm (by omega) (by omega)
  rw [e]
  exact ⟨Int.tdiv_nonneg h1 (Int.le_of_lt h2), Int.tdiv_le_self _ h1⟩
theorem bx_and_bd (x y : Int32) (h : 0 ≤ x.toInt) : 0 ≤ (x &&& y).toInt ∧ (x &&& y).toInt ≤ x.toInt := by
  have e : x &&& y = y &&& x := Int32.toBitVec_inj.mp (BitVec.and_comm _ _)
  rw [e]
  exact ax_and_bd y x h
theorem bx_or_bd (x y : Int32) (n : Nat) (hn : n ≤ 31) (h1 : 0 ≤ x.toInt) (h2 : 0 ≤ y.toInt) (h3 : x.toInt < 2 ^ n) (h4 : y.toInt < 2 ^ n) : 0 ≤ (x ||| y).toInt ∧ (x ||| y).toInt < 2 ^ n := by
  have nn : ∀ z : Int32, 0 ≤ z.toInt → z.toInt = (z.toBitVec.toNat : Int) := fun z hz => by
    have e : z.toInt = z.toBitVec.toInt := rfl
    have hl := z.toBitVec.isLt
    rw [e, BitVec.toInt_eq_toNat_cond] at hz ⊢
    by_cases hy : 2 * z.toBitVec.toNat < 2 ^ 32
    · rw [if_pos hy]
    · rw [if_neg hy] at hz; omega
  have e1 := nn x h1
  have e2 := nn y h2
  have c1 : x.toBitVec.toNat < 2 ^ n := by
    have : ((x.toBitVec.toNat : Nat) : Int) < ((2 ^ n : Nat) : Int) := by rw [← e1]; simpa using h3
    omega
  have c2 : y.toBitVec.toNat < 2 ^ n := by
    have : ((y.toBitVec.toNat : Nat) : Int) < ((2 ^ n : Nat) : Int) := by rw [← e2]; simpa using h4
    omega
  have c3 : (x.toBitVec ||| y.toBitVec).toNat < 2 ^ n := by rw [BitVec.toNat_or]; exact Nat.or_lt_two_pow c1 c2
  have c4 : (2 : Nat) ^ n ≤ 2 ^ 31 := Nat.pow_le_pow_right (by decide) hn
  have e3 : (x ||| y).toInt = (x.toBitVec ||| y.toBitVec).toInt := rfl
  rw [e3, BitVec.toInt_eq_toNat_cond, if_pos (by omega)]
  refine ⟨by omega, ?_⟩
  have : (((x.toBitVec ||| y.toBitVec).toNat : Nat) : Int) < ((2 ^ n : Nat) : Int) := by omega
  simpa using this
theorem bx_shr_bd (x y : Int32) (h : 0 ≤ x.toInt) : 0 ≤ (x >>> (y &&& 31)).toInt ∧ (x >>> (y &&& 31)).toInt ≤ x.toInt := by
  have e : ∃ n : Nat, (x >>> (y &&& 31)).toInt = x.toInt >>> n := ⟨_, BitVec.toInt_sshiftRight' (x := x.toBitVec)⟩
  obtain ⟨n, e⟩ := e
  rw [e, Int.shiftRight_eq_div_pow]
  have hp : (0 : Int) < ((2 ^ n : Nat) : Int) := by
    have := Nat.two_pow_pos n
    omega
  exact ⟨Int.ediv_nonneg h (Int.le_of_lt hp), Int.ediv_le_self _ h⟩
theorem bx_shl1 : ∀ k : Fin 31, ((1 : Int32) <<< (Int32.ofInt (k.val : Int) &&& 31)).toInt = 2 ^ k.val := by decide
theorem bx_shl_bd (y : Int32) (h1 : 0 ≤ y.toInt) (h2 : y.toInt ≤ 30) : ((1 : Int32) <<< (y &&& 31)).toInt = 2 ^ y.toInt.toNat := by
  have e : y = Int32.ofInt y.toInt := (Int32.ofInt_toInt y).symm
  have h := bx_shl1 ⟨y.toInt.toNat, by omega⟩
  dsimp only at h
  rw [show ((y.toInt.toNat : Nat) : Int) = y.toInt by omega, ← e] at h
  exact h
/-- an operation of numbers, by bounds -/
def bx_okf (g : Int × Int → Int × Int → Option ax_V) (f : Int32 → Int32 → Option Int32) : Prop := ∀ (p q : Int × Int) (r : ax_V) (x y : Int32), p.1 ≤ x.toInt → x.toInt ≤ p.2 → q.1 ≤ y.toInt → y.toInt ≤ q.2 → g p q = some r → ∃ z, f x y = some z ∧ r.1 = 0 ∧ r.2.1 ≤ z.toInt ∧ z.toInt ≤ r.2.2
theorem bx_okf_of {g0 : ax_N → ax_V → ax_V → Option ax_V} {f : Int32 → Int32 → Option Int32} (h : ax_okI [] g0 f) : bx_okf (fun p q => (g0 [] (0, p.1, p.2) (0, q.1, q.2)).bind (fun r => if r.1 = 0 then some r else none)) f := by
  intro p q r x y h1 h2 h3 h4 hr
  dsimp only at hr
  cases hg : g0 [] (0, p.1, p.2) (0, q.1, q.2) with
  | none => rw [hg] at hr; cases hr
  | some r0 =>
    rw [hg] at hr
    simp only [Option.bind_some] at hr
    split at hr
    · rename_i h0
      cases hr
      obtain ⟨x', y', z, e1, e2, e3, e4⟩ := h [] (0, p.1, p.2) (0, q.1, q.2) r (.int x) (.int y) (fun i q hq => by simp at hq) ⟨x, rfl, h1, h2⟩ ⟨y, rfl, h3, h4⟩ hg
      cases e1; cases e2
      obtain ⟨t, lo, hi⟩ := r
      dsimp only at h0
      subst h0
      obtain ⟨z', e5, e6, e7⟩ := e4
      cases e5
      exact ⟨z, e3, rfl, e6, e7⟩
    · cases hr
def bx_one (f : Int32 → Int32 → Option Int32) (p q : Int × Int) (o : Option ax_V) : Option ax_V := if p.1 = p.2 ∧ q.1 = q.2 then (f (Int32.ofInt p.1) (Int32.ofInt q.1)).map (fun z => (0, z.toInt, z.toInt)) else o
theorem bx_one_ok {f : Int32 → Int32 → Option Int32} {p q : Int × Int} {o : Option ax_V} {r : ax_V} {x y : Int32} (h1 : p.1 ≤ x.toInt) (h2 : x.toInt ≤ p.2) (h3 : q.1 ≤ y.toInt) (h4 : y.toInt ≤ q.2) (h : bx_one f p q o = some r) (ho : o = some r → ∃ z, f x y = some z ∧ r.1 = 0 ∧ r.2.1 ≤ z.toInt ∧ z.toInt ≤ r.2.2) : ∃ z, f x y = some z ∧ r.1 = 0 ∧ r.2.1 ≤ z.toInt ∧ z.toInt ≤ r.2.2 := by
  unfold bx_one at h
  split at h
  · rename_i hs
    rw [← ax_one x h1 h2 hs.1, ← ax_one y h3 h4 hs.2] at h
    cases hf : f x y with
    | none => rw [hf] at h; cases h
    | some z => rw [hf] at h; cases h; exact ⟨z, rfl, rfl, Int.le_refl _, Int.le_refl _⟩
  · exact ho h
def bx_iand (p q : Int × Int) : Option ax_V := bx_one (fun x y => some (x &&& y)) p q (if 0 ≤ p.1 ∧ 0 ≤ q.1 then some (0, 0, min p.2 q.2) else if 0 ≤ p.1 then some (0, 0, p.2) else if 0 ≤ q.1 then some (0, 0, q.2) else some ax_top)
theorem bx_iand_ok : bx_okf bx_iand (fun x y => some (x &&& y)) := fun p q r x y h1 h2 h3 h4 h => bx_one_ok h1 h2 h3 h4 h (fun ho => by
  refine ⟨_, rfl, ?_⟩
  split at ho
  · rename_i hc
    cases ho
    have a := ax_and_bd x y (by omega)
    have b := bx_and_bd x y (by omega)
    exact ⟨rfl, a.1, by show _ ≤ min p.2 q.2; omega⟩
  · split at ho
    · cases ho
      have b := bx_and_bd x y (by omega)
      exact ⟨rfl, b.1, by show _ ≤ p.2; omega⟩
    · split at ho
      · cases ho
        have b := ax_and_bd x y (by omega)
        exact ⟨rfl, b.1, by show _ ≤ q.2; omega⟩
      · cases ho
        exact ⟨rfl, ax_lo _, ax_hi _⟩)
def bx_bits (m : Int) : List Nat → Nat
  | [] => 31
  | n :: l => if m < (2 : Int) ^ n then n else bx_bits m l
def bx_ior (p q : Int × Int) : Option ax_V := bx_one (fun x y => some (x ||| y)) p q (if 0 ≤ p.1 ∧ 0 ≤ q.1 then some (0, 0, (2 : Int) ^ (bx_bits (max p.2 q.2) [1, 3, 4, 6, 7, 8, 12, 16, 20]) - 1) else some ax_top)
theorem bx_bits_ok (m : Int) (hm : m ≤ 2147483647) : ∀ l : List Nat, (∀ n ∈ l, n ≤ 31) → m < 2 ^ bx_bits m l ∧ bx_bits m l ≤ 31
  | [], _ => ⟨by show m < 2 ^ 31; omega, Nat.le_refl _⟩
  | n :: l, h => by
    unfold bx_bits
    by_cases hn : m < (2 : Int) ^ n
    · rw [if_pos hn]; exact ⟨hn, h n List.mem_cons_self⟩
    · rw [if_neg hn]; exact bx_bits_ok m hm l (fun k hk => h k (List.mem_cons_of_mem _ hk))
theorem bx_ior_ok : bx_okf bx_ior (fun x y => some (x ||| y)) := fun p q r x y h1 h2 h3 h4 h => bx_one_ok h1 h2 h3 h4 h (fun ho => by
  refine ⟨_, rfl, ?_⟩
  split at ho
  · rename_i hc
    cases ho
    by_cases hm : max p.2 q.2 ≤ 2147483647
    · obtain ⟨b1, b2⟩ := bx_bits_ok (max p.2 q.2) hm [1, 3, 4, 6, 7, 8, 12, 16, 20] (by decide)
      generalize bx_bits (max p.2 q.2) [1, 3, 4, 6, 7, 8, 12, 16, 20] = n at b1 b2 ⊢
      have a := bx_or_bd x y n b2 (by omega) (by omega) (by omega) (by omega)
      exact ⟨rfl, a.1, by show _ ≤ (2 : Int) ^ n - 1; omega⟩
    · have e : bx_bits (max p.2 q.2) [1, 3, 4, 6, 7, 8, 12, 16, 20] = 31 := by
        simp only [bx_bits]
        repeat (rw [if_neg (by omega)])
      rw [e]
      have a := bx_or_bd x y 31 (Nat.le_refl _) (by omega) (by omega) (by have := ax_hi x; omega) (by have := ax_hi y; omega)
      exact ⟨rfl, a.1, by show _ ≤ (2 : Int) ^ 31 - 1; omega⟩
  · cases ho
    exact ⟨rfl, ax_lo _, ax_hi _⟩)
def bx_ishl (p q : Int × Int) : Option ax_V := bx_one (fun x y => some (x <<< (y &&& 31))) p q (if p.1 = 1 ∧ p.2 = 1 ∧ 0 ≤ q.1 ∧ q.2 ≤ 30 then some (0, (2 : Int) ^ q.1.toNat, (2 : Int) ^ q.2.toNat) else some ax_top)
theorem bx_ishl_ok : bx_okf bx_ishl (fun x y => some (x <<< (y &&& 31))) := fun p q r x y h1 h2 h3 h4 h => bx_one_ok h1 h2 h3 h4 h (fun ho => by
  refine ⟨_, rfl, ?_⟩
  split at ho
  · rename_i hc
    cases ho
    have hx : x = 1 := by
      have := ax_one x h1 h2 (by omega)
      rw [this, hc.1]; rfl
    rw [hx, bx_shl_bd y (by omega) (by omega)]
    have m1 : (2 : Nat) ^ q.1.toNat ≤ 2 ^ y.toInt.toNat := Nat.pow_le_pow_right (by decide) (by omega)
    have m2 : (2 : Nat) ^ y.toInt.toNat ≤ 2 ^ q.2.toNat := Nat.pow_le_pow_right (by decide) (by omega)
    exact ⟨rfl, by show (2 : Int) ^ _ ≤ _; exact_mod_cast m1, by show _ ≤ (2 : Int) ^ _; exact_mod_cast m2⟩
  · cases ho
    exact ⟨rfl, ax_lo _, ax_hi _⟩)
def bx_ishr (p q : Int × Int) : Option ax_V := bx_one (fun x y => some (x >>> (y &&& 31))) p q (if 0 ≤ p.1 then some (0, 0, p.2) else some ax_top)
theorem bx_ishr_ok : bx_okf bx_ishr (fun x y => some (x >>> (y &&& 31))) := fun p q r x y h1 h2 h3 h4 h => bx_one_ok h1 h2 h3 h4 h (fun ho => by
  refine ⟨_, rfl, ?_⟩
  split at ho
  · cases ho
    have a := bx_shr_bd x y (by omega)
    exact ⟨rfl, a.1, by show _ ≤ p.2; omega⟩
  · cases ho
    exact ⟨rfl, ax_lo _, ax_hi _⟩)
def bx_irem (p q : Int × Int) : Option ax_V := if 0 < q.1 ∨ q.2 < 0 then bx_one (fun x y => if y = 0 then none else some (x - x / y * y)) p q (if 0 ≤ p.1 ∧ 0 < q.1 then some (0, 0, q.2 - 1) else some (0, 1 - max (-q.1) q.2, max (-q.1) q.2 - 1)) else none
theorem bx_ne0 {y : Int32} (h : y.toInt ≠ 0) : ¬ y = 0 := fun e => h (by rw [e]; rfl)
theorem bx_irem_ok : bx_okf bx_irem (fun x y => if y = 0 then none else some (x - x / y * y)) := fun p q r x y h1 h2 h3 h4 h => by
  unfold bx_irem at h
  split at h
  · rename_i hq
    refine bx_one_ok h1 h2 h3 h4 h (fun ho => ?_)
    rw [if_neg (bx_ne0 (by omega))]
    refine ⟨_, rfl, ?_⟩
    split at ho
    · rename_i hc
      cases ho
      have b := bx_rem_bd x y q.2 (by omega) (by omega) (by omega)
      have a : 0 ≤ (x - x / y * y).toInt := by rw [bx_rem]; exact Int.tmod_nonneg _ (by omega)
      exact ⟨rfl, a, by show _ ≤ q.2 - 1; omega⟩
    · cases ho
      have b := bx_rem_bd x y (max (-q.1) q.2) (by omega) (by omega) (by omega)
      exact ⟨rfl, by show 1 - _ ≤ _; omega, by show _ ≤ _ - 1; omega⟩
  · cases h
def bx_idiv (p q : Int × Int) : Option ax_V := if 0 < q.1 ∨ q.2 < 0 then bx_one (fun x y => if y = 0 then none else some (x / y)) p q (if 0 ≤ p.1 ∧ 0 < q.1 then some (0, 0, p.2) else some ax_top) else none
theorem bx_idiv_ok : bx_okf bx_idiv (fun x y => if y = 0 then none else some (x / y)) := fun p q r x y h1 h2 h3 h4 h => by
  unfold bx_idiv at h
  split at h
  · rename_i hq
    refine bx_one_ok h1 h2 h3 h4 h (fun ho => ?_)
    rw [if_neg (bx_ne0 (by omega))]
    refine ⟨_, rfl, ?_⟩
    split at ho
    · rename_i hc
      cases ho
      have b := bx_div_bd x y (by omega) (by omega)
      exact ⟨rfl, b.1, by show _ ≤ p.2; omega⟩
    · cases ho
      exact ⟨rfl, ax_lo _, ax_hi _⟩
  · cases h
def bx_of0 (g0 : ax_N → ax_V → ax_V → Option ax_V) (p q : Int × Int) : Option ax_V := (g0 [] (0, p.1, p.2) (0, q.1, q.2)).bind (fun r => if r.1 = 0 then some r else none)
theorem bx_iadd_ok : bx_okf (bx_of0 ax_iadd) (fun x y => some (x + y)) := bx_okf_of (ax_iadd_ok [])
theorem bx_isub_ok : bx_okf (bx_of0 ax_isub) (fun x y => some (x - y)) := bx_okf_of (ax_isub_ok [])
theorem bx_imul_ok : bx_okf (bx_of0 ax_imul) (fun x y => some (x * y)) := bx_okf_of (ax_imul_ok [])
theorem bx_gen_ok (f : Int32 → Int32 → Int32) : bx_okf (bx_of0 (ax_gen f)) (fun x y => some (f x y)) := bx_okf_of (ax_gen_ok [] f)
