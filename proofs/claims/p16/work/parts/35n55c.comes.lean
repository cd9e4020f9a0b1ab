/-! what a code comes to: both come to the same, or refuse -/
noncomputable def lEvC (bk : Nat) (xs : List Int32) (m0 : gx_M) (a b h : Nat) (r : Option Int) : Prop := ∀ n to S Q, b ≤ to → to ≤ 240 → S.length + h ≤ 64 → (r = none → eZ m0 51 Q) → (∀ v, r = some v → CE bk xs n m0 to (S ++ [v]) b Q) → CE bk xs n m0 to S a Q
noncomputable def lEvR (xs : List Int32) (m0 : gx_M) (a b h : Nat) (r : Option Int) : Prop := ∀ n to S Q, b ≤ to → to ≤ 240 → S.length + h ≤ 64 → (r = none → eZ m0 102 Q) → (∀ v, r = some v → RE xs n m0 to (S ++ [v]) b Q) → RE xs n m0 to S a Q
def cCd (K : hCode) (m : gx_M) : Prop := ∀ i c, K[i]? = some c → m 45 i = c.1 ∧ m 46 i = c.2
def rCd (K : hCode) (m : gx_M) : Prop := ∀ i c, K[i]? = some c → m 97 i = lenc c
/-- what a letter comes to, by the class and by the reference -/
noncomputable def lEnvC (bk : Nat) (xs : List Int32) (m0 : gx_M) (env : Int → Int) : Prop := ∀ c, isLt c → ∀ n m Q, (∀ c', c' ≠ 51 → m c' = m0 c') → Q (some (.inl (env c))) m → hxn xs n yp_m59 0 [(0, .inr (.inl 44)), (1, .inr (.inl bk)), (2, .inl c)] [] m Q
def lEnvR (m1 : gx_M) (env : Int → Int) : Prop := ∀ c, isLt c → m1 103 (lfa c).toNat = env c
/-- over any memory that holds the code and says the same of letters, both come to r -/
noncomputable def lEv (xs : List Int32) (Kf : hCode) (env : Int → Int) (a b h : Nat) (r : Option Int) : Prop := (∀ bk m0, cCd Kf m0 → lEnvC bk xs m0 env → lEvC bk xs m0 a b h r) ∧ ∀ m1, rCd Kf m1 → lEnvR m1 env → lEvR xs m1 a b h r
def opt2 (s : Int) : Option Int → Option Int → Option Int
  | some a, some b => if (s = 47 ∨ s = 37) ∧ b = 0 then none else some (lre s a b)
  | _, _ => none
def isBn (s : Int) : Prop := s = 42 ∨ s = 47 ∨ s = 37 ∨ s = 43 ∨ s = 45 ∨ s = 60 ∨ s = 62 ∨ s = 61
def is01 (r : Option Int) : Prop := r = none ∨ r = some 0 ∨ r = some 1
section LEV
variable {xs : List Int32} {env : Int → Int} {Kf : hCode} {a b b1 h h1 h2 : Nat} {r r1 r2 : Option Int}
theorem lEv_up (hh : h1 ≤ h) (e : lEv xs Kf env a b h1 r) : lEv xs Kf env a b h r :=
  ⟨fun bk m0 hc hE n to S Q h1 h2 h3 => e.1 bk m0 hc hE n to S Q h1 h2 (by omega), fun m1 hr hE n to S Q h1 h2 h3 => e.2 m1 hr hE n to S Q h1 h2 (by omega)⟩
theorem lEv_num {v : Int} (hk : Kf[a]? = some (0, v)) (hv : 0 ≤ v ∧ v < 1048576) (hh : 2 ≤ h) : lEv xs Kf env a (a + 1) h (some v) := by
  refine ⟨fun bk m0 hc hE n to S Q g1 g2 g3 _ g => ?_, fun m1 hr hE n to S Q g1 g2 g3 _ g => ?_⟩
  · exact ce_num (hc _ _ hk).1 (hc _ _ hk).2 (by omega) g2 (by omega) (g v rfl)
  · exact re_num (by rw [hr _ _ hk]; rfl) hv (by omega) g2 (by omega) (g v rfl)
theorem lEv_let {c : Int} (hk : Kf[a]? = some (1, c)) (hv : isLt c) (hh : 2 ≤ h) : lEv xs Kf env a (a + 1) h (some (env c)) := by
  have hl : 0 ≤ lfa c ∧ lfa c ≤ 13 := by
    unfold isLt at hv
    unfold lfa
    omega
  refine ⟨fun bk m0 hc hE n to S Q g1 g2 g3 _ g => ?_, fun m1 hr hE n to S Q g1 g2 g3 _ g => ?_⟩
  · exact ce_let (hc _ _ hk).1 (hc _ _ hk).2 (by omega) g2 (by omega) (hE c hv) (g _ rfl)
  · refine re_let (q := (lfa c).toNat) ?_ (by omega) (hE c hv) (by omega) g2 (by omega) (g _ rfl)
    rw [hr _ _ hk, Int.toNat_of_nonneg hl.1]
    rfl
theorem lEv_bin {s : Int} (hs : isBn s) (e1 : lEv xs Kf env a b h1 r1) (e2 : lEv xs Kf env b b1 h2 r2) (hb : b ≤ b1) (hh1 : h1 ≤ h) (hh2 : h2 + 1 ≤ h) (h2' : 2 ≤ h) (hk : Kf[b1]? = some (s, 0)) : lEv xs Kf env a (b1 + 1) h (opt2 s r1 r2) := by
  refine ⟨fun bk m0 hc hE n to S Q g1 g2 g3 gz g => ?_, fun m1 hr hE n to S Q g1 g2 g3 gz g => ?_⟩
  · refine e1.1 bk m0 hc hE n to S Q (by omega) g2 (by omega) (fun c => gz (by rw [c]; rfl)) (fun x c1 => ?_)
    subst c1
    refine e2.1 bk m0 hc hE n to (S ++ [x]) Q (by omega) g2 (by rw [List.length_append, List.length_singleton]; omega) (fun c => gz (by rw [c]; rfl)) (fun y c2 => ?_)
    subst c2
    refine ce_bin (hc _ _ hk).1 hs (by omega) g2 (by omega) (fun c => gz (if_pos c)) (fun c => g _ (if_neg c))
  · refine e1.2 m1 hr hE n to S Q (by omega) g2 (by omega) (fun c => gz (by rw [c]; rfl)) (fun x c1 => ?_)
    subst c1
    refine e2.2 m1 hr hE n to (S ++ [x]) Q (by omega) g2 (by rw [List.length_append, List.length_singleton]; omega) (fun c => gz (by rw [c]; rfl)) (fun y c2 => ?_)
    subst c2
    refine re_bin ?_ hs (by omega) g2 (by omega) (fun c => gz (if_pos c)) (fun c => g _ (if_neg c))
    rw [hr _ _ hk]
    unfold lenc larg
    rw [if_neg (by dsimp only; unfold isBn at hs; omega)]
def optN : Option Int → Option Int
  | some v => some (1 - v)
  | none => none
theorem optN_01 (h : is01 r) : is01 (optN r) := by
  rcases h with e | e | e <;> subst e
  · exact .inl rfl
  · exact .inr (.inr rfl)
  · exact .inr (.inl rfl)
theorem lEv_not (h0 : is01 r1) (e1 : lEv xs Kf env a b h1 r1) (hh1 : h1 ≤ h) (h2' : 2 ≤ h) (hk : Kf[b]? = some (33, 0)) : lEv xs Kf env a (b + 1) h (optN r1) := by
  have hv : ∀ x, r1 = some x → x = 0 ∨ x = 1 := fun x e => by
    rcases h0 with c | c | c <;> rw [c] at e <;> cases e
    · exact .inl rfl
    · exact .inr rfl
  refine ⟨fun bk m0 hc hE n to S Q g1 g2 g3 gz g => ?_, fun m1 hr hE n to S Q g1 g2 g3 gz g => ?_⟩
  · refine e1.1 bk m0 hc hE n to S Q (by omega) g2 (by omega) (fun c => gz (by rw [c]; rfl)) (fun x c1 => ?_)
    have hx := hv x c1
    subst c1
    exact ce_not (hc _ _ hk).1 rfl hx (by omega) g2 (by omega) (g _ rfl)
  · refine e1.2 m1 hr hE n to S Q (by omega) g2 (by omega) (fun c => gz (by rw [c]; rfl)) (fun x c1 => ?_)
    have hx := hv x c1
    subst c1
    exact re_not (by rw [hr _ _ hk]; rfl) hx (by omega) g2 (by omega) (g _ rfl)
def optA : Option Int → Option Int → Option Int
  | some v, r2 => if v = 0 then some 0 else r2
  | none, _ => none
def optO : Option Int → Option Int → Option Int
  | some v, r2 => if v = 0 then r2 else some 1
  | none, _ => none
theorem lEv_and (h0 : is01 r1) (e1 : lEv xs Kf env a b h r1) (e2 : lEv xs Kf env (b + 1) b1 h r2) (hb : b + 1 ≤ b1) (h2' : 2 ≤ h) (hk : Kf[b]? = some (38, (b1 : Int))) : lEv xs Kf env a b1 h (optA r1 r2) := by
  refine ⟨fun bk m0 hc hE n to S Q g1 g2 g3 gz g => ?_, fun m1 hr hE n to S Q g1 g2 g3 gz g => ?_⟩
  · refine e1.1 bk m0 hc hE n to S Q (by omega) g2 (by omega) (fun c => gz (by rw [c]; rfl)) (fun x c1 => ?_)
    by_cases hx : x = 0
    · subst hx
      subst c1
      exact ce_and0 (hc _ _ hk).1 rfl rfl (hc _ _ hk).2 (by omega) g1 (by omega) g2 (by omega) (g 0 rfl)
    · subst c1
      refine ce_and1 (hc _ _ hk).1 rfl hx (by omega) g2 (by omega) (e2.1 bk m0 hc hE n to S Q g1 g2 g3 (fun c => gz (by rw [c]; exact if_neg hx)) (fun y c => g y (by rw [c]; exact if_neg hx)))
  · refine e1.2 m1 hr hE n to S Q (by omega) g2 (by omega) (fun c => gz (by rw [c]; rfl)) (fun x c1 => ?_)
    have hkk : m1 97 b = 1048576 * 11 + (b1 : Int) := by
      rw [hr _ _ hk]
      rfl
    by_cases hx : x = 0
    · subst hx
      subst c1
      exact re_and0 hkk rfl (by omega) g2 (by omega) (by omega) (g 0 rfl)
    · subst c1
      refine re_and1 hkk hx (by omega) g2 (by omega) (by omega) (e2.2 m1 hr hE n to S Q g1 g2 g3 (fun c => gz (by rw [c]; exact if_neg hx)) (fun y c => g y (by rw [c]; exact if_neg hx)))
theorem lEv_or (h0 : is01 r1) (e1 : lEv xs Kf env a b h r1) (e2 : lEv xs Kf env (b + 1) b1 h r2) (hb : b + 1 ≤ b1) (h2' : 2 ≤ h) (hk : Kf[b]? = some (124, (b1 : Int))) : lEv xs Kf env a b1 h (optO r1 r2) := by
  have hv : ∀ x, r1 = some x → x = 0 ∨ x = 1 := fun x e => by
    rcases h0 with c | c | c <;> rw [c] at e <;> cases e
    · exact .inl rfl
    · exact .inr rfl
  refine ⟨fun bk m0 hc hE n to S Q g1 g2 g3 gz g => ?_, fun m1 hr hE n to S Q g1 g2 g3 gz g => ?_⟩
  · refine e1.1 bk m0 hc hE n to S Q (by omega) g2 (by omega) (fun c => gz (by rw [c]; rfl)) (fun x c1 => ?_)
    rcases hv x c1 with hx | hx
    · subst hx
      subst c1
      exact ce_or0 (hc _ _ hk).1 rfl rfl (by omega) g2 (by omega) (e2.1 bk m0 hc hE n to S Q g1 g2 g3 (fun c => gz (by rw [c]; rfl)) (fun y c => g y (by rw [c]; rfl)))
    · subst hx
      subst c1
      exact ce_or1 (hc _ _ hk).1 rfl (by decide) (hc _ _ hk).2 (by omega) g1 (by omega) g2 (by omega) (g 1 rfl)
  · refine e1.2 m1 hr hE n to S Q (by omega) g2 (by omega) (fun c => gz (by rw [c]; rfl)) (fun x c1 => ?_)
    have hkk : m1 97 b = 1048576 * 12 + (b1 : Int) := by
      rw [hr _ _ hk]
      rfl
    rcases hv x c1 with hx | hx
    · subst hx
      subst c1
      exact re_or0 hkk (by decide) (by omega) g2 (by omega) (by omega) (e2.2 m1 hr hE n to S Q g1 g2 g3 (fun c => gz (by rw [c]; rfl)) (fun y c => g y (by rw [c]; rfl)))
    · subst hx
      subst c1
      exact re_or1 hkk rfl (by omega) g2 (by omega) (by omega) (g 1 rfl)
theorem optA_01 (h0 : is01 r1) (h2 : is01 r2) : is01 (optA r1 r2) := by
  rcases h0 with e | e | e <;> subst e
  · exact .inl rfl
  · exact .inr (.inl rfl)
  · exact h2
theorem optO_01 (h0 : is01 r1) (h2 : is01 r2) : is01 (optO r1 r2) := by
  rcases h0 with e | e | e <;> subst e
  · exact .inl rfl
  · exact h2
  · exact .inr (.inr rfl)
theorem opt2_01 {s : Int} (hs : isCm s) : is01 (opt2 s r1 r2) := by
  cases r1 <;> cases r2
  · exact .inl rfl
  · exact .inl rfl
  · exact .inl rfl
  · rename_i x y
    have h : lre s x y = 0 ∨ lre s x y = 1 := by
      unfold isCm at hs
      unfold lre
      rcases hs with e | e | e <;> subst e <;> simp <;> omega
    show is01 (if (s = 47 ∨ s = 37) ∧ y = 0 then none else some (lre s x y))
    split
    · exact .inl rfl
    · rcases h with e | e <;> rw [e]
      · exact .inr (.inl rfl)
      · exact .inr (.inr rfl)
def hgt (k o : Nat) : Nat := (if k = 0 then 2 else if k = 1 then 3 else if k = 2 then 4 else 5) + 2 * (6 - o)
end LEV
