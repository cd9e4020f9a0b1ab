/-! what a code comes to: by induction over what was read -/
section LEI
variable {xs : List Int32} {Kf : hCode} {env : Int → Int} {T : Nat → Int} {L : Nat}
theorem ln_app1 {K : hCode} {x : Int × Int} : (K ++ [x]).length = K.length + 1 := by
  rw [List.length_append, List.length_singleton]
theorem lEv_of {k o p p' : Nat} {K K' : hCode} (h : lD T L k o p K p' K') : (∀ i, K.length ≤ i → i < K'.length → Kf[i]? = K'[i]?) → ∃ r, (3 ≤ k → is01 r) ∧ lEv xs Kf env K.length K'.length (hgt k o) r := by
  refine (h (fun k o p K p' K' => lD T L k o p K p' K' ∧ ((∀ i, K.length ≤ i → i < K'.length → Kf[i]? = K'[i]?) → ∃ r, (3 ≤ k → is01 r) ∧ lEv xs Kf env K.length K'.length (hgt k o) r)) ⟨?_, ?_, ?_, ?_, ?_, ?_, ?_, ?_, ?_, ?_, ?_, ?_, ?_, ?_⟩).2
  · intro o p K j a b c d
    refine ⟨lD_num a b c d, fun hA => ⟨some (lnum T p j), fun c => absurd c (by decide), ?_⟩⟩
    rw [ln_app1] at hA ⊢
    have hk := hA K.length (Nat.le_refl _) (by omega)
    rw [lk_last] at hk
    have hb := lnum_bd (T := T) (L := L) (p := p) j c
    have hw : lpw j ≤ 100000 := by
      have : j = 1 ∨ j = 2 ∨ j = 3 ∨ j = 4 ∨ j = 5 := by omega
      rcases this with e | e | e | e | e <;> subst e <;> decide
    exact lEv_num hk (by omega) (by unfold hgt; rw [if_pos rfl]; omega)
  · intro o p K a
    refine ⟨lD_let a, fun hA => ⟨some (env (tx T L p)), fun c => absurd c (by decide), ?_⟩⟩
    rw [ln_app1] at hA ⊢
    have hk := hA K.length (Nat.le_refl _) (by omega)
    rw [lk_last] at hk
    exact lEv_let hk a (by unfold hgt; rw [if_pos rfl]; omega)
  · intro o p K p1 K1 a b ⟨d1, i1⟩ d
    refine ⟨lD_br a b d1 d, fun hA => ?_⟩
    obtain ⟨r, -, e⟩ := i1 hA
    exact ⟨r, fun c => absurd c (by decide), lEv_up (by unfold hgt; simp; omega) e⟩
  · intro o p K p1 K1 ⟨d1, i1⟩
    refine ⟨lD_pr1 d1, fun hA => ?_⟩
    obtain ⟨r, -, e⟩ := i1 hA
    exact ⟨r, fun c => absurd c (by decide), lEv_up (by unfold hgt; simp) e⟩
  · intro o p K p1 K1 p2 K2 ⟨d1, i1⟩ b ⟨d2, i2⟩
    refine ⟨lD_pr2 d1 b d2, fun hA => ?_⟩
    have g1 := lD_grow d1
    have g2 := lD_grow d2
    have pr := lD_pre d2
    rw [ln_app1] at hA ⊢
    obtain ⟨r1, -, e1⟩ := i1 (fun i ha hb => by rw [hA i ha (by omega), lk_appl (by omega), pr i hb])
    obtain ⟨r2, -, e2⟩ := i2 (fun i ha hb => by rw [hA i (by omega) (by omega), lk_appl hb])
    have hk := hA K2.length (by omega) (by omega)
    rw [lk_last] at hk
    exact ⟨_, fun c => absurd c (by decide), lEv_bin (by unfold isPr at b; unfold isBn; omega) e1 e2 (by omega) (by unfold hgt; simp) (by unfold hgt; simp; omega) (by unfold hgt; simp; omega) hk⟩
  · intro o p K p1 K1 ⟨d1, i1⟩ b
    refine ⟨lD_sm1 d1 b, fun hA => ?_⟩
    obtain ⟨r, -, e⟩ := i1 hA
    exact ⟨r, fun c => absurd c (by decide), lEv_up (by unfold hgt; simp) e⟩
  · intro o p K p1 K1 p2 K2 ⟨d1, i1⟩ b ⟨d2, i2⟩ nb
    refine ⟨lD_sm2 d1 b d2 nb, fun hA => ?_⟩
    have g1 := lD_grow d1
    have g2 := lD_grow d2
    have pr := lD_pre d2
    rw [ln_app1] at hA ⊢
    obtain ⟨r1, -, e1⟩ := i1 (fun i ha hb => by rw [hA i ha (by omega), lk_appl (by omega), pr i hb])
    obtain ⟨r2, -, e2⟩ := i2 (fun i ha hb => by rw [hA i (by omega) (by omega), lk_appl hb])
    have hk := hA K2.length (by omega) (by omega)
    rw [lk_last] at hk
    exact ⟨_, fun c => absurd c (by decide), lEv_bin (by unfold isSm at b; unfold isBn; omega) e1 e2 (by omega) (by unfold hgt; simp) (by unfold hgt; simp; omega) (by unfold hgt; simp; omega) hk⟩
  · intro o p K p1 K1 p2 K2 a1 a2 ⟨d1, i1⟩ b ⟨d2, i2⟩ nb
    refine ⟨lD_cm a1 a2 d1 b d2 nb, fun hA => ?_⟩
    have g1 := lD_grow d1
    have g2 := lD_grow d2
    have pr := lD_pre d2
    rw [ln_app1] at hA ⊢
    obtain ⟨r1, -, e1⟩ := i1 (fun i ha hb => by rw [hA i ha (by omega), lk_appl (by omega), pr i hb])
    obtain ⟨r2, -, e2⟩ := i2 (fun i ha hb => by rw [hA i (by omega) (by omega), lk_appl hb])
    have hk := hA K2.length (by omega) (by omega)
    rw [lk_last] at hk
    exact ⟨_, fun _ => opt2_01 b, lEv_bin (by unfold isCm at b; unfold isBn; omega) e1 e2 (by omega) (by unfold hgt; simp) (by unfold hgt; simp; omega) (by unfold hgt; simp; omega) hk⟩
  · intro o p K p1 K1 a b ⟨d1, i1⟩
    refine ⟨lD_no a b d1, fun hA => ?_⟩
    have g1 := lD_grow d1
    rw [ln_app1] at hA ⊢
    obtain ⟨r1, z1, e1⟩ := i1 (fun i ha hb => by rw [hA i ha (by omega), lk_appl (by omega)])
    have hk := hA K1.length (by omega) (by omega)
    rw [lk_last] at hk
    exact ⟨_, fun _ => optN_01 (z1 (by decide)), lEv_not (z1 (by decide)) e1 (by unfold hgt; simp; omega) (by unfold hgt; simp; omega) hk⟩
  · intro o p K p1 K1 a b ⟨d1, i1⟩ d
    refine ⟨lD_pa a b d1 d, fun hA => ?_⟩
    obtain ⟨r, z1, e⟩ := i1 hA
    exact ⟨r, fun _ => z1 (by decide), lEv_up (by unfold hgt; simp; omega) e⟩
  · intro o p K p1 K1 ⟨d1, i1⟩
    refine ⟨lD_pt1 d1, fun hA => ?_⟩
    obtain ⟨r, z1, e⟩ := i1 hA
    exact ⟨r, fun _ => z1 (by decide), lEv_up (by unfold hgt; simp) e⟩
  · intro o p K p1 K1 p2 K2 ⟨d1, i1⟩ b ⟨d2, i2⟩
    refine ⟨lD_pt2 d1 b d2, fun hA => ?_⟩
    have g1 := lD_grow d1
    have g2 := lD_grow d2
    have pr := lD_pre d2
    rw [ln_app1] at g2 pr i2
    rw [List.length_set] at hA ⊢
    obtain ⟨r1, z1, e1⟩ := i1 (fun i ha hb => by rw [hA i ha (by omega), List.getElem?_set_ne (by omega), pr i (by omega), lk_appl hb])
    obtain ⟨r2, z2, e2⟩ := i2 (fun i ha hb => by rw [hA i (by omega) hb, List.getElem?_set_ne (by omega)])
    have hk := hA K1.length (by omega) (by omega)
    rw [List.getElem?_set_self (by omega)] at hk
    exact ⟨_, fun _ => optA_01 (z1 (by decide)) (z2 (by decide)), lEv_and (z1 (by decide)) e1 (lEv_up (by unfold hgt; simp) e2) (by omega) (by unfold hgt; simp; omega) hk⟩
  · intro o p K p1 K1 ⟨d1, i1⟩ b
    refine ⟨lD_cn1 d1 b, fun hA => ?_⟩
    obtain ⟨r, z1, e⟩ := i1 hA
    exact ⟨r, fun _ => z1 (by decide), lEv_up (by unfold hgt; simp) e⟩
  · intro o p K p1 K1 p2 K2 ⟨d1, i1⟩ b ⟨d2, i2⟩ nb
    refine ⟨lD_cn2 d1 b d2 nb, fun hA => ?_⟩
    have g1 := lD_grow d1
    have g2 := lD_grow d2
    have pr := lD_pre d2
    rw [ln_app1] at g2 pr i2
    rw [List.length_set] at hA ⊢
    obtain ⟨r1, z1, e1⟩ := i1 (fun i ha hb => by rw [hA i ha (by omega), List.getElem?_set_ne (by omega), pr i (by omega), lk_appl hb])
    obtain ⟨r2, z2, e2⟩ := i2 (fun i ha hb => by rw [hA i (by omega) hb, List.getElem?_set_ne (by omega)])
    have hk := hA K1.length (by omega) (by omega)
    rw [List.getElem?_set_self (by omega)] at hk
    exact ⟨_, fun _ => optO_01 (z1 (by decide)) (z2 (by decide)), lEv_or (z1 (by decide)) e1 (lEv_up (by unfold hgt; simp) e2) (by omega) (by unfold hgt; simp; omega) hk⟩
end LEI
