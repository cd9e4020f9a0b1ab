/-! the reference's sums are the class's -/
theorem lD_npr {T : Nat → Int} {L k o p p' : Nat} {K K' : hCode} (h : lD T L k o p K p' K') : k = 2 → ¬ isPr (tx T L p') := by
  refine h (fun k _ _ _ p' _ => k = 2 → ¬ isPr (tx T L p')) ⟨?_, ?_, ?_, ?_, ?_, ?_, ?_, ?_, ?_, ?_, ?_, ?_, ?_, ?_⟩
  · exact fun _ _ _ _ _ _ _ _ e => absurd e (by decide)
  · exact fun _ _ _ _ e => absurd e (by decide)
  · exact fun _ _ _ _ _ _ _ _ _ e => absurd e (by decide)
  · exact fun _ _ _ _ _ _ e => absurd e (by decide)
  · exact fun _ _ _ _ _ _ _ _ _ _ e => absurd e (by decide)
  · exact fun _ _ _ _ _ _ b _ => b
  · exact fun _ _ _ _ _ _ _ _ _ _ d _ => d
  · exact fun _ _ _ _ _ _ _ _ _ _ _ _ _ e => absurd e (by decide)
  · exact fun _ _ _ _ _ _ _ _ e => absurd e (by decide)
  · exact fun _ _ _ _ _ _ _ _ _ e => absurd e (by decide)
  · exact fun _ _ _ _ _ _ e => absurd e (by decide)
  · exact fun _ _ _ _ _ _ _ _ _ _ e => absurd e (by decide)
  · exact fun _ _ _ _ _ _ _ e => absurd e (by decide)
  · exact fun _ _ _ _ _ _ _ _ _ _ _ e => absurd e (by decide)
noncomputable def rM (T : Nat → Int) (L k o p : Nat) (K : hCode) (p' : Nat) (K' : hCode) : Prop := ∀ (xs : List Int32) (n b : Nat) (Q : hQ) (m0 m : gx_M) (W : hCode), b ≤ W.length → K.length ≤ p → rS T L m0 p K W o m →
  (k = 0 → W.length ≤ 3 * o + 2 → (∀ m', rS T L m0 p' K' W o m' → LH xs n b Q m') → FE xs n b Q m) ∧
  (k = 1 → W.length ≤ 3 * o + 1 → ¬ (4 ≤ wtop W ∧ wtop W ≤ 6) → (∀ m' Kc W', Pn1 K' Kc W W' → rS T L m0 p' Kc W' o m' → LH xs n b Q m') → FE xs n b Q m) ∧
  (k = 2 → W.length ≤ 3 * o → ¬ (2 ≤ wtop W ∧ wtop W ≤ 6) → (∀ m' Kc W', Pn2 K' Kc W W' → rS T L m0 p' Kc W' o m' → LH xs n b Q m') → FE xs n b Q m)
theorem rM_hi {T : Nat → Int} {L k o p p' : Nat} {K K' : hCode} (h : 3 ≤ k) : rM T L k o p K p' K' := fun _ _ _ _ _ _ _ _ _ _ => ⟨fun e => by omega, fun e => by omega, fun e => by omega⟩
theorem isDg_91 {c : Int} (h : c = 91) : ¬ isDg c ∧ ¬ isLt c ∧ ¬ isPr c ∧ ¬ isSm c := by
  unfold isDg isLt isPr isSm
  omega
theorem isLt_n {c : Int} (h : isLt c) : ¬ isDg c ∧ c ≠ 91 := by
  unfold isLt at h
  unfold isDg
  omega
theorem rM_all {T : Nat → Int} {L k o p p' : Nat} {K K' : hCode} (h : lD T L k o p K p' K') : rM T L k o p K p' K' := by
  have h2 : lD T L k o p K p' K' ∧ rM T L k o p K p' K' := by
    refine h (fun k o p K p' K' => lD T L k o p K p' K' ∧ rM T L k o p K p' K') ⟨?_, ?_, ?_, ?_, ?_, ?_, ?_, ?_, ?_, ?_, ?_, ?_, ?_, ?_⟩
    · intro o p K j a b c d
      refine ⟨lD_num a b c d, fun xs n bb Q m0 m W hb hk hS => ⟨fun _ hw ct => ?_, fun e => absurd e (by decide), fun e => absurd e (by decide)⟩⟩
      refine r_num hS (c 0 (by omega)) hk (fun j' m' _ _ c' d' s' => ?_) (fun m' c' _ => absurd (c' j (by omega)) d)
      have e : j' = j := by
        rcases Nat.lt_trichotomy j' j with h | h | h
        · exact absurd (c j' h) d'
        · exact h
        · exact absurd (c' j h) d
      subst e
      exact ct m' s'
    · intro o p K a
      refine ⟨lD_let a, fun xs n bb Q m0 m W hb hk hS => ⟨fun _ hw ct => ?_, fun e => absurd e (by decide), fun e => absurd e (by decide)⟩⟩
      exact r_let hS (isLt_n a).1 (isLt_n a).2 hk (fun _ m' s' => ct m' s') (fun c => absurd a c)
    · intro o p K p1 K1 a b c d
      refine ⟨lD_br a b c.1 d, fun xs n bb Q m0 m W hb hk hS => ⟨fun _ hw ct => ?_, fun e => absurd e (by decide), fun e => absurd e (by decide)⟩⟩
      have hg := lD_grow c.1
      refine r_open hS a (by omega) (fun _ m2 s2 => ?_) (fun e => absurd e (by omega))
      refine ((c.2 xs n bb Q m0 m2 _ (by rw [List.length_append]; omega) (by omega) s2).2.2 rfl (by rw [List.length_append, List.length_singleton]; omega) (by rw [wtop_app]; decide) (fun m3 Kc W' hP s3 => ?_))
      have hle := rs_le s3
      have hL := rs_L s3
      exact r_close hP s3 rfl hb (by rw [d]; unfold isPr; omega) (by rw [d]; unfold isSm; omega) (by omega) (fun _ m4 s4 => ct m4 s4) (fun e => absurd d e)
    · intro o p K p1 K1 a
      refine ⟨lD_pr1 a.1, fun xs n bb Q m0 m W hb hk hS => ⟨fun e => absurd e (by decide), fun _ hw ht ct => ?_, fun e => absurd e (by decide)⟩⟩
      exact (a.2 xs n bb Q m0 m W hb hk hS).1 rfl (by omega) (fun m' s' => ct m' K1 W (.inl ⟨rfl, rfl⟩) s')
    · intro o p K p1 K1 p2 K2 a b c
      refine ⟨lD_pr2 a.1 b c.1, fun xs n bb Q m0 m W hb hk hS => ⟨fun e => absurd e (by decide), fun _ hw ht ct => ?_, fun e => absurd e (by decide)⟩⟩
      have hg := lD_grow a.1
      have hol := rs_ol hS
      refine (a.2 xs n bb Q m0 m W hb hk hS).2.1 rfl hw ht (fun m1 Kc W' hP s1 => ?_)
      have hle := rs_le s1
      have hL := rs_L s1
      refine r_sign (.inl b) (.inl ⟨b, hP, ht⟩) s1 rfl (by omega) (by omega) (fun m2 s2 => ?_)
      exact (c.2 xs n bb Q m0 m2 _ (by rw [List.length_append]; omega) (by omega) s2).1 rfl (by rw [List.length_append, List.length_singleton]; omega) (fun m3 s3 => ct m3 K2 _ (.inr ⟨_, b, rfl, rfl⟩) s3)
    · intro o p K p1 K1 a b
      refine ⟨lD_sm1 a.1 b, fun xs n bb Q m0 m W hb hk hS => ⟨fun e => absurd e (by decide), fun e => absurd e (by decide), fun _ hw ht ct => ?_⟩⟩
      exact (a.2 xs n bb Q m0 m W hb hk hS).2.1 rfl (by omega) (by omega) (fun m' Kc W' hP s' => ct m' Kc W' (.inl hP) s')
    · intro o p K p1 K1 p2 K2 a b c d
      refine ⟨lD_sm2 a.1 b c.1 d, fun xs n bb Q m0 m W hb hk hS => ⟨fun e => absurd e (by decide), fun e => absurd e (by decide), fun _ hw ht ct => ?_⟩⟩
      have hg := lD_grow a.1
      have hol := rs_ol hS
      refine (a.2 xs n bb Q m0 m W hb hk hS).2.2 rfl hw ht (fun m1 Kc W' hP s1 => ?_)
      have hle := rs_le s1
      have hL := rs_L s1
      refine r_sign (.inr b) (.inr ⟨b, hP, ht⟩) s1 rfl (by omega) (by omega) (fun m2 s2 => ?_)
      have hs := lop_sm b
      exact (c.2 xs n bb Q m0 m2 _ (by rw [List.length_append]; omega) (by omega) s2).2.1 rfl (by rw [List.length_append, List.length_singleton]; omega) (by rw [wtop_app]; dsimp only; omega) (fun m3 Kc W' hP s3 => ct m3 Kc W' (.inr ⟨_, b, K2, rfl, hP⟩) s3)
    · exact fun o p K p1 K1 p2 K2 a b c d e f => ⟨lD_cm a b c.1 d e.1 f, rM_hi (by decide)⟩
    · exact fun o p K p1 K1 a b c => ⟨lD_no a b c.1, rM_hi (by decide)⟩
    · exact fun o p K p1 K1 a b c d => ⟨lD_pa a b c.1 d, rM_hi (by decide)⟩
    · exact fun o p K p1 K1 a => ⟨lD_pt1 a.1, rM_hi (by decide)⟩
    · exact fun o p K p1 K1 p2 K2 a b c => ⟨lD_pt2 a.1 b c.1, rM_hi (by decide)⟩
    · exact fun o p K p1 K1 a b => ⟨lD_cn1 a.1 b, rM_hi (by decide)⟩
    · exact fun o p K p1 K1 p2 K2 a b c d => ⟨lD_cn2 a.1 b c.1 d, rM_hi (by decide)⟩
  exact h2.2
/-- a sum as a whole -/
theorem r_sumT {xs : List Int32} {n : Nat} {Q : hQ} {T : Nat → Int} {L p o p' : Nat} {m0 m : gx_M} {K W K' : hCode} (hD : lD T L 2 o p K p' K') (hn : ¬ isSm (tx T L p')) (hS : rS T L m0 p K W o m) (hk : K.length ≤ p) (hw : W.length ≤ 3 * o) (ht : ¬ (2 ≤ wtop W ∧ wtop W ≤ 6)) (h : ∀ m', rS T L m0 p' K' W o m' → Q (some (.inl 1)) m') : hxn xs n yp_m173 0 [(0, .inr (.inl 86))] [] m Q := by
  have hg := lD_grow hD
  refine hx_dn (hr173_0 ?_)
  rw [rs_W hS]
  refine (rM_all hD xs n W.length Q m0 m W (Nat.le_refl _) hk hS).2.2 rfl hw ht (fun m' Kc W' hP s' => ?_) _ (fun m' hm' => hx_dn (hr173_9 (s0 := 1) (fun _ => hm') (fun c => absurd c (by decide)))) (fun m' hm' => hx_dn (hr173_9 (s0 := 0) (fun c => absurd rfl c) (fun _ => hm')))
  have hle := rs_le s'
  have hL := rs_L s'
  exact r_end hP s' rfl ht (lD_npr hD rfl) hn (by omega) h
/-! what is wrong with a sum -/
noncomputable def rE (T : Nat → Int) (L k o p : Nat) (K : hCode) (f : Int) : Prop := ∀ (xs : List Int32) (n b : Nat) (Q : hQ) (m0 m : gx_M) (W : hCode), b ≤ W.length → K.length ≤ p → rS T L m0 p K W o m → (∀ m', rF m0 f m' → Q (some (.inl 0)) m') →
  (k = 0 → W.length ≤ 3 * o + 2 → FE xs n b Q m) ∧
  (k = 1 → W.length ≤ 3 * o + 1 → ¬ (4 ≤ wtop W ∧ wtop W ≤ 6) → FE xs n b Q m) ∧
  (k = 2 → W.length ≤ 3 * o → ¬ (2 ≤ wtop W ∧ wtop W ≤ 6) → FE xs n b Q m)
theorem rE_hi {T : Nat → Int} {L k o p : Nat} {K : hCode} {f : Int} (h : 3 ≤ k) : rE T L k o p K f := fun _ _ _ _ _ _ _ _ _ _ _ => ⟨fun e => by omega, fun e => by omega, fun e => by omega⟩
theorem rE_all {T : Nat → Int} {L k o p : Nat} {K : hCode} {f : Int} (h : lE T L k o p K f) : rE T L k o p K f := by
  refine h (rE T L) ⟨?_, ?_, ?_, ?_, ?_, ?_, ?_, ?_, ?_, ?_, ?_, ?_, ?_, ?_, ?_, ?_, ?_, ?_, ?_, ?_⟩
  · intro o p K a b c xs n bb Q m0 m W hb hk hS hq
    exact ⟨fun _ hw => r_let hS a b hk (fun e => absurd e c) (fun _ m' h' => hq m' h'), fun e => absurd e (by decide), fun e => absurd e (by decide)⟩
  · intro o p K a xs n bb Q m0 m W hb hk hS hq
    exact ⟨fun _ hw => r_num hS (a 0 (by omega)) hk (fun j m' j1 j5 c d _ => absurd (a j (by omega)) d) (fun m' _ h' => hq m' h'), fun e => absurd e (by decide), fun e => absurd e (by decide)⟩
  · intro o p K a b xs n bb Q m0 m W hb hk hS hq
    have hol := rs_ol hS
    exact ⟨fun _ hw => r_open hS a (by omega) (fun e => absurd e (by omega)) (fun _ m' h' => hq m' h'), fun e => absurd e (by decide), fun e => absurd e (by decide)⟩
  · intro o p K f a b c xs n bb Q m0 m W hb hk hS hq
    refine ⟨fun _ hw => r_open hS a (by omega) (fun _ m2 s2 => ?_) (fun e => absurd e (by omega)), fun e => absurd e (by decide), fun e => absurd e (by decide)⟩
    exact (c xs n bb Q m0 m2 _ (by rw [List.length_append]; omega) (by omega) s2 hq).2.2 rfl (by rw [List.length_append, List.length_singleton]; omega) (by rw [wtop_app]; decide)
  · intro o p K p1 K1 a b c d e xs n bb Q m0 m W hb hk hS hq
    have hg := lD_grow c
    refine ⟨fun _ hw => r_open hS a (by omega) (fun _ m2 s2 => ?_) (fun e => absurd e (by omega)), fun e => absurd e (by decide), fun e => absurd e (by decide)⟩
    refine (rM_all c xs n bb Q m0 m2 _ (by rw [List.length_append]; omega) (by omega) s2).2.2 rfl (by rw [List.length_append, List.length_singleton]; omega) (by rw [wtop_app]; decide) (fun m3 Kc W' hP s3 => ?_)
    have hle := rs_le s3
    have hL := rs_L s3
    exact r_close hP s3 rfl hb (lD_npr c rfl) d (by omega) (fun x => absurd x e) (fun _ m' h' => hq m' h')
  · intro o p K f a xs n bb Q m0 m W hb hk hS hq
    exact ⟨fun e => absurd e (by decide), fun _ hw ht => (a xs n bb Q m0 m W hb hk hS hq).1 rfl (by omega), fun e => absurd e (by decide)⟩
  · intro o p K p1 K1 f a b c xs n bb Q m0 m W hb hk hS hq
    have hg := lD_grow a
    have hol := rs_ol hS
    refine ⟨fun e => absurd e (by decide), fun _ hw ht => ?_, fun e => absurd e (by decide)⟩
    refine (rM_all a xs n bb Q m0 m W hb hk hS).2.1 rfl hw ht (fun m1 Kc W' hP s1 => ?_)
    have hle := rs_le s1
    have hL := rs_L s1
    refine r_sign (.inl b) (.inl ⟨b, hP, ht⟩) s1 rfl (by omega) (by omega) (fun m2 s2 => ?_)
    exact (c xs n bb Q m0 m2 _ (by rw [List.length_append]; omega) (by omega) s2 hq).1 rfl (by rw [List.length_append, List.length_singleton]; omega)
  · intro o p K f a xs n bb Q m0 m W hb hk hS hq
    exact ⟨fun e => absurd e (by decide), fun e => absurd e (by decide), fun _ hw ht => (a xs n bb Q m0 m W hb hk hS hq).2.1 rfl (by omega) (by omega)⟩
  · intro o p K p1 K1 f a b c xs n bb Q m0 m W hb hk hS hq
    have hg := lD_grow a
    have hol := rs_ol hS
    refine ⟨fun e => absurd e (by decide), fun e => absurd e (by decide), fun _ hw ht => ?_⟩
    refine (rM_all a xs n bb Q m0 m W hb hk hS).2.2 rfl hw ht (fun m1 Kc W' hP s1 => ?_)
    have hle := rs_le s1
    have hL := rs_L s1
    refine r_sign (.inr b) (.inr ⟨b, hP, ht⟩) s1 rfl (by omega) (by omega) (fun m2 s2 => ?_)
    have hs := lop_sm b
    exact (c xs n bb Q m0 m2 _ (by rw [List.length_append]; omega) (by omega) s2 hq).2.1 rfl (by rw [List.length_append, List.length_singleton]; omega) (by rw [wtop_app]; dsimp only; omega)
  · exact fun _ _ _ _ _ => rE_hi (by decide)
  · exact fun _ _ _ _ _ _ _ => rE_hi (by decide)
  · exact fun _ _ _ _ _ _ _ _ _ _ => rE_hi (by decide)
  · exact fun _ _ _ _ _ _ _ => rE_hi (by decide)
  · exact fun _ _ _ _ _ _ _ => rE_hi (by decide)
  · exact fun _ _ _ _ _ _ _ _ _ _ => rE_hi (by decide)
  · exact fun _ _ _ _ _ _ _ _ _ _ _ => rE_hi (by decide)
  · exact fun _ _ _ _ _ => rE_hi (by decide)
  · exact fun _ _ _ _ _ _ _ _ _ => rE_hi (by decide)
  · exact fun _ _ _ _ _ => rE_hi (by decide)
  · exact fun _ _ _ _ _ _ _ _ _ => rE_hi (by decide)
theorem r_sumF {xs : List Int32} {n : Nat} {Q : hQ} {T : Nat → Int} {L p o : Nat} {m0 m : gx_M} {K W : hCode} {f : Int} (hE : lE T L 2 o p K f) (hS : rS T L m0 p K W o m) (hk : K.length ≤ p) (hw : W.length ≤ 3 * o) (ht : ¬ (2 ≤ wtop W ∧ wtop W ≤ 6)) (h : ∀ m', rF m0 f m' → Q (some (.inl 0)) m') : hxn xs n yp_m173 0 [(0, .inr (.inl 86))] [] m Q := by
  refine hx_dn (hr173_0 ?_)
  rw [rs_W hS]
  exact (rE_all hE xs n W.length Q m0 m W (Nat.le_refl _) hk hS h).2.2 rfl hw ht _ (fun m' hm' => hx_dn (hr173_9 (s0 := 1) (fun _ => hm') (fun c => absurd c (by decide)))) (fun m' hm' => hx_dn (hr173_9 (s0 := 0) (fun c => absurd rfl c) (fun _ => hm')))
