/-! what is wrong with a condition -/
theorem lD_n38 {T : Nat → Int} {L k o p p' : Nat} {K K' : hCode} (h : lD T L k o p K p' K') : k = 5 → tx T L p' ≠ 38 := by
  refine h (fun k _ _ _ p' _ => k = 5 → tx T L p' ≠ 38) ⟨?_, ?_, ?_, ?_, ?_, ?_, ?_, ?_, ?_, ?_, ?_, ?_, ?_, ?_⟩
  · exact fun _ _ _ _ _ _ _ _ e => absurd e (by decide)
  · exact fun _ _ _ _ e => absurd e (by decide)
  · exact fun _ _ _ _ _ _ _ _ _ e => absurd e (by decide)
  · exact fun _ _ _ _ _ _ e => absurd e (by decide)
  · exact fun _ _ _ _ _ _ _ _ _ _ e => absurd e (by decide)
  · exact fun _ _ _ _ _ _ _ e => absurd e (by decide)
  · exact fun _ _ _ _ _ _ _ _ _ _ _ e => absurd e (by decide)
  · exact fun _ _ _ _ _ _ _ _ _ _ _ _ _ e => absurd e (by decide)
  · exact fun _ _ _ _ _ _ _ _ e => absurd e (by decide)
  · exact fun _ _ _ _ _ _ _ _ _ e => absurd e (by decide)
  · exact fun _ _ _ _ _ _ e => absurd e (by decide)
  · exact fun _ _ _ _ _ _ _ _ _ _ e => absurd e (by decide)
  · exact fun _ _ _ _ _ _ b _ => b
  · exact fun _ _ _ _ _ _ _ _ _ _ d _ => d
noncomputable def rX (T : Nat → Int) (L k o p : Nat) (K : hCode) (f : Int) : Prop := ∀ (xs : List Int32) (n : Nat) (Q : hQ) (m0 m : gx_M), (∀ m', rF m0 f m' → Q (some (.inl 0)) m') →
  (k = 3 → ∀ (V : hCode) (j oo : Nat), o = oo + j → V.length + j ≤ 3 * o → 1 ≤ V.length → wtop V ≠ 10 → ¬ (2 ≤ wtop V ∧ wtop V ≤ 6) → rS T L m0 p K (V ++ List.replicate j (10, 0)) o m → K.length + j ≤ p → PE xs n Q m) ∧
  (k = 4 → ∀ W : hCode, W.length + 1 ≤ 3 * o → 1 ≤ W.length → (wtop W = 13 ∨ wtop W = 12) → rS T L m0 p K W o m → K.length ≤ p → PE xs n Q m) ∧
  (k = 5 → ∀ W : hCode, W.length + 2 ≤ 3 * o → 1 ≤ W.length → wtop W = 13 → rS T L m0 p K W o m → K.length ≤ p → PE xs n Q m)
theorem rX_lo {T : Nat → Int} {L k o p : Nat} {K : hCode} {f : Int} (h : k ≤ 2) : rX T L k o p K f := fun _ _ _ _ _ _ => ⟨fun e => by omega, fun e => by omega, fun e => by omega⟩
theorem rX_all {T : Nat → Int} {L k o p : Nat} {K : hCode} {f : Int} (h : lE T L k o p K f) : rX T L k o p K f := by
  have h2 : lE T L k o p K f ∧ rX T L k o p K f := by
    refine h (fun k o p K f => lE T L k o p K f ∧ rX T L k o p K f) ⟨?_, ?_, ?_, ?_, ?_, ?_, ?_, ?_, ?_, ?_, ?_, ?_, ?_, ?_, ?_, ?_, ?_, ?_, ?_, ?_⟩
    · exact fun o p K a b c => ⟨(lE_rul T L).1 _ _ _ a b c, rX_lo (by decide)⟩
    · exact fun o p K a => ⟨(lE_rul T L).2.1 _ _ _ a, rX_lo (by decide)⟩
    · exact fun o p K a b => ⟨(lE_rul T L).2.2.1 _ _ _ a b, rX_lo (by decide)⟩
    · exact fun o p K f a b c => ⟨(lE_rul T L).2.2.2.1 _ _ _ _ a b c.1, rX_lo (by decide)⟩
    · exact fun o p K p1 K1 a b c d e => ⟨(lE_rul T L).2.2.2.2.1 _ _ _ _ _ a b c d e, rX_lo (by decide)⟩
    · exact fun o p K f a => ⟨(lE_rul T L).2.2.2.2.2.1 _ _ _ _ a.1, rX_lo (by decide)⟩
    · exact fun o p K p1 K1 f a b c => ⟨(lE_rul T L).2.2.2.2.2.2.1 _ _ _ _ _ _ a b c.1, rX_lo (by decide)⟩
    · exact fun o p K f a => ⟨(lE_rul T L).2.2.2.2.2.2.2.1 _ _ _ _ a.1, rX_lo (by decide)⟩
    · exact fun o p K p1 K1 f a b c => ⟨(lE_rul T L).2.2.2.2.2.2.2.2.1 _ _ _ _ _ _ a b c.1, rX_lo (by decide)⟩
    · intro o p K a b
      refine ⟨(lE_rul T L).2.2.2.2.2.2.2.2.2.1 _ _ _ a b, fun xs n Q m0 m hq => ⟨fun _ V j oo ho hw hv h1 h2 hS hk => ?_, fun e => absurd e (by decide), fun e => absurd e (by decide)⟩⟩
      have hhe := rs_he hS
      have hol := rs_ol hS
      have fin : ∀ w : Int, 0 ≤ w ∧ w ≤ 14 → hxn xs n yp_m175 0 [(0, .inr (.inl 86)), (1, .inl w)] [] m (fun r m' => hxn xs n yp_m184 78 [(0, .inr (.inl 86))] (hrs r ++ []) m' Q) := fun w hw2 => by
        refine rs175 hS hw2 (tx_lt (by rcases a with a | a <;> rw [a] <;> decide)) (by rw [List.length_append, List.length_replicate]; omega) (fun e => absurd e (by omega)) (fun _ m2 s2 => ?_)
        show hxn xs n yp_m184 78 _ [.inl 0] m2 Q
        exact hx_dn (hr184_78 (fun c => absurd rfl c) (fun _ => hq m2 s2))
      refine hx_dn (hr184_40 (fun _ _ => fin 10 (by decide)) (fun c1 c2 => ?_) (fun _ _ _ => fin 13 (by decide)))
      rw [hhe] at c1 c2
      rcases a with a | a
      · exact absurd a c1
      · exact absurd a c2
    · intro o p K f a b c
      refine ⟨(lE_rul T L).2.2.2.2.2.2.2.2.2.2.1 _ _ _ _ a b c.1, fun xs n Q m0 m hq => ⟨fun _ V j oo ho hw hv h1 h2 hS hk => ?_, fun e => absurd e (by decide), fun e => absurd e (by decide)⟩⟩
      have hhe := rs_he hS
      refine hx_dn (hr184_40 (fun c => absurd c (by rw [hhe, a]; decide)) (fun _ c => absurd (by rw [hhe]; exact a) c) (fun _ _ _ => ?_))
      refine rs175 hS (by decide) (tx_lt (by rw [a]; decide)) (by rw [List.length_append, List.length_replicate]; omega) (fun _ m2 s2 => ?_) (fun e => absurd e (by omega))
      show hxn xs n yp_m184 78 _ [.inl 1] m2 Q
      refine hx_dn (hr184_78 (fun _ => ?_) (fun c => absurd c (by decide)))
      exact (c.2 xs n Q m0 m2 hq).2.2 rfl _ (by rw [List.length_append, List.length_append, List.length_replicate, List.length_singleton]; omega) (by rw [List.length_append, List.length_singleton]; omega) (by rw [wtop_app]) s2 (by omega)
    · intro o p K p1 K1 a b c d e
      refine ⟨(lE_rul T L).2.2.2.2.2.2.2.2.2.2.2.1 _ _ _ _ _ a b c d e, fun xs n Q m0 m hq => ⟨fun _ V j oo ho hw hv h1 h2 hS hk => ?_, fun e => absurd e (by decide), fun e => absurd e (by decide)⟩⟩
      have hhe := rs_he hS
      refine hx_dn (hr184_40 (fun c => absurd c (by rw [hhe, a]; decide)) (fun _ c => absurd (by rw [hhe]; exact a) c) (fun _ _ _ => ?_))
      refine rs175 hS (by decide) (tx_lt (by rw [a]; decide)) (by rw [List.length_append, List.length_replicate]; omega) (fun _ m2 s2 => ?_) (fun e => absurd e (by omega))
      show hxn xs n yp_m184 78 _ [.inl 1] m2 Q
      refine hx_dn (hr184_78 (fun _ => ?_) (fun c => absurd c (by decide)))
      refine (rC_all c xs n Q m0 m2).2.2 rfl _ (by rw [List.length_append, List.length_append, List.length_replicate, List.length_singleton]; omega) (by rw [List.length_append, List.length_singleton]; omega) (by rw [wtop_app]) s2 (by omega) (fun m3 Kc W' hP s3 => ?_)
      exact r_bad s3 e (lD_n38 c rfl) d (fun m4 h4 => hq m4 h4)
    · intro o p K f a b c
      refine ⟨(lE_rul T L).2.2.2.2.2.2.2.2.2.2.2.2.1 _ _ _ _ a b c.1, fun xs n Q m0 m hq => ⟨fun _ V j oo ho hw hv h1 h2 hS hk => ?_, fun e => absurd e (by decide), fun e => absurd e (by decide)⟩⟩
      have hhe := rs_he hS
      refine hx_dn (hr184_40 (fun _ _ => ?_) (fun c => absurd (by rw [hhe]; exact a) c) (fun c => absurd (by rw [hhe]; exact a) c))
      refine rs175 hS (by decide) (tx_lt (by rw [a]; decide)) (by rw [List.length_append, List.length_replicate]; omega) (fun _ m2 s2 => ?_) (fun e => absurd e (by omega))
      show hxn xs n yp_m184 78 _ [.inl 1] m2 Q
      refine hx_dn (hr184_78 (fun _ => ?_) (fun c => absurd c (by decide)))
      rw [rep_snoc] at s2
      exact (c.2 xs n Q m0 m2 hq).1 rfl V (j + 1) oo (by omega) (by omega) hv h1 h2 s2 (by omega)
    · intro o p K f a b c
      refine ⟨(lE_rul T L).2.2.2.2.2.2.2.2.2.2.2.2.2.1 _ _ _ _ a b c.1, fun xs n Q m0 m hq => ⟨fun _ V j oo ho hw hv h1 h2 hS hk => ?_, fun e => absurd e (by decide), fun e => absurd e (by decide)⟩⟩
      have hhe := rs_he hS
      refine hx_dn (hr184_40 (fun c => absurd (by rw [← hhe]; exact c) a) (fun _ _ => ?_) (fun _ c => absurd (by rw [← hhe]; exact c) b))
      refine hx_dn (hr185_0 ?_)
      refine r_sumF c.1 hS (by omega) (by rw [List.length_append, List.length_replicate]; omega) (wtop_rep h2) (fun m2 s2 => ?_)
      show hxn xs n yp_m185 4 _ [.inl 0] m2 _
      refine hx_dn (hr185_4 (fun c => absurd rfl c) (fun c => absurd rfl c) (fun c => absurd rfl c) (fun c => absurd rfl c) (fun _ => ?_))
      show hxn xs n yp_m184 87 _ [.inl 0] m2 Q
      exact hx_dn (hr184_87 (fun c => absurd rfl c) (fun _ => hq m2 s2))
    · intro o p K p1 K1 a b c d e
      refine ⟨(lE_rul T L).2.2.2.2.2.2.2.2.2.2.2.2.2.2.1 _ _ _ _ _ a b c d e, fun xs n Q m0 m hq => ⟨fun _ V j oo ho hw hv h1 h2 hS hk => ?_, fun e => absurd e (by decide), fun e => absurd e (by decide)⟩⟩
      have hhe := rs_he hS
      refine hx_dn (hr184_40 (fun c => absurd (by rw [← hhe]; exact c) a) (fun _ _ => ?_) (fun _ c => absurd (by rw [← hhe]; exact c) b))
      refine hx_dn (hr185_0 ?_)
      refine r_sumT c d hS (by omega) (by rw [List.length_append, List.length_replicate]; omega) (wtop_rep h2) (fun m1 s1 => ?_)
      show hxn xs n yp_m185 4 _ [.inl 1] m1 _
      have hh1 := rs_he s1
      refine hx_dn (hr185_4 (fun _ _ _ _ => ?_) (fun _ _ _ t => ?_) (fun _ _ t => ?_) (fun _ t => ?_) (fun c => absurd c (by decide)))
      · rw [rs_pl s1]
        refine rs172 s1 (by decide) (fun m2 s2 => ?_)
        show hxn xs n yp_m185 67 [] [.inl 0] m2 _
        refine hx_dn (hr185_67 ?_)
        show hxn xs n yp_m184 87 _ [.inl 0] m2 Q
        exact hx_dn (hr184_87 (fun c => absurd rfl c) (fun _ => hq m2 s2))
      · rw [hh1] at t
        exact absurd (.inr (.inr t)) e
      · rw [hh1] at t
        exact absurd (.inr (.inl t)) e
      · rw [hh1] at t
        exact absurd (.inl t) e
    · intro o p K p1 K1 f a b c d e
      refine ⟨(lE_rul T L).2.2.2.2.2.2.2.2.2.2.2.2.2.2.2.1 _ _ _ _ _ _ a b c d e.1, fun xs n Q m0 m hq => ⟨fun _ V j oo ho hw hv h1 h2 hS hk => ?_, fun e => absurd e (by decide), fun e => absurd e (by decide)⟩⟩
      have hhe := rs_he hS
      have g1 := lD_grow c
      have hlt : p1 < L := tx_lt (fun e => by rw [e] at d; unfold isCm at d; omega)
      refine hx_dn (hr184_40 (fun c => absurd (by rw [← hhe]; exact c) a) (fun _ _ => ?_) (fun _ c => absurd (by rw [← hhe]; exact c) b))
      refine hx_dn (hr185_0 ?_)
      refine r_sumT c (fun c => by unfold isCm at d; unfold isSm at c; omega) hS (by omega) (by rw [List.length_append, List.length_replicate]; omega) (wtop_rep h2) (fun m1 s1 => ?_)
      show hxn xs n yp_m185 4 _ [.inl 1] m1 _
      have hh1 := rs_he s1
      have fin : ∀ w : Int, hxn xs n yp_m173 0 [(0, .inr (.inl 86))] [] (gx_u m1 86 5 (gx_w ((m1 86 5) + 1))) (fun r m' => hxn xs n yp_m185 82 [(0, .inr (.inl 86)), (1, .inl w)] (hrs r ++ []) m' (fun r m' => hxn xs n yp_m184 87 [(0, .inr (.inl 86))] (hrs r ++ []) m' Q)) := fun w => by
        refine r_sumF e.1 (rs_st s1 hlt) (by omega) (by rw [List.length_append, List.length_replicate]; omega) (wtop_rep h2) (fun m2 s2 => ?_)
        show hxn xs n yp_m185 82 _ [.inl 0] m2 _
        refine hx_dn (hr185_82 (fun c => absurd rfl c) (fun _ => ?_))
        show hxn xs n yp_m184 87 _ [.inl 0] m2 Q
        exact hx_dn (hr184_87 (fun c => absurd rfl c) (fun _ => hq m2 s2))
      refine hx_dn (hr185_4 (fun _ t1 t2 t3 => ?_) (fun _ _ _ _ => fin 9) (fun _ _ _ => fin 8) (fun _ _ => fin 7) (fun c => absurd c (by decide)))
      rw [hh1] at t1 t2 t3
      unfold isCm at d
      omega
    · intro o p K f a
      refine ⟨(lE_rul T L).2.2.2.2.2.2.2.2.2.2.2.2.2.2.2.2.1 _ _ _ _ a.1, fun xs n Q m0 m hq => ⟨fun e => absurd e (by decide), fun _ W hw hv h1 hS hk => ?_, fun e => absurd e (by decide)⟩⟩
      exact (a.2 xs n Q m0 m hq).1 rfl W 0 o rfl (by omega) hv (by omega) (by omega) (by rw [List.replicate_zero, List.append_nil]; exact hS) (by omega)
    · intro o p K p1 K1 f a b c
      refine ⟨(lE_rul T L).2.2.2.2.2.2.2.2.2.2.2.2.2.2.2.2.2.1 _ _ _ _ _ _ a b c.1, fun xs n Q m0 m hq => ⟨fun e => absurd e (by decide), fun _ W hw hv h1 hS hk => ?_, fun e => absurd e (by decide)⟩⟩
      have hg := lD_grow a
      have hol := rs_ol hS
      refine (rC_all a xs n Q m0 m).2.1 rfl W hw hv h1 hS hk (fun m1 Kc W' hP s1 => ?_)
      have hlt : p1 < L := tx_lt (by rw [b]; decide)
      have hL := rs_L s1
      refine r_and hP s1 b (by omega) (by omega) (by omega) (fun m2 s2 => ?_)
      exact (c.2 xs n Q m0 m2 hq).1 rfl (W ++ [(11, (K1.length : Int))]) 0 o rfl (by rw [List.length_append, List.length_singleton]; omega) (by rw [List.length_append, List.length_singleton]; omega) (by rw [wtop_app]; exact (by decide : (11 : Int) ≠ 10)) (by rw [wtop_app]; exact (by decide : ¬ ((2 : Int) ≤ 11 ∧ (11 : Int) ≤ 6))) (by rw [List.replicate_zero, List.append_nil]; exact s2) (by rw [List.length_append, List.length_singleton]; omega)
    · intro o p K f a
      refine ⟨(lE_rul T L).2.2.2.2.2.2.2.2.2.2.2.2.2.2.2.2.2.2.1 _ _ _ _ a.1, fun xs n Q m0 m hq => ⟨fun e => absurd e (by decide), fun e => absurd e (by decide), fun _ W hw hv h1 hS hk => ?_⟩⟩
      exact (a.2 xs n Q m0 m hq).2.1 rfl W (by omega) hv (.inl h1) hS hk
    · intro o p K p1 K1 f a b c
      refine ⟨(lE_rul T L).2.2.2.2.2.2.2.2.2.2.2.2.2.2.2.2.2.2.2 _ _ _ _ _ _ a b c.1, fun xs n Q m0 m hq => ⟨fun e => absurd e (by decide), fun e => absurd e (by decide), fun _ W hw hv h1 hS hk => ?_⟩⟩
      have hg := lD_grow a
      have hol := rs_ol hS
      refine (rC_all a xs n Q m0 m).2.2 rfl W hw hv h1 hS hk (fun m1 Kc W' hP s1 => ?_)
      have hlt : p1 < L := tx_lt (by rw [b]; decide)
      have hL := rs_L s1
      refine r_or hP s1 b (by omega) (by omega) (by omega) (by omega) (fun m2 s2 => ?_)
      exact (c.2 xs n Q m0 m2 hq).2.1 rfl (W ++ [(12, (K1.length : Int))]) (by rw [List.length_append, List.length_singleton]; omega) (by rw [List.length_append, List.length_singleton]; omega) (by rw [wtop_app]; exact .inr rfl) s2 (by rw [List.length_append, List.length_singleton]; omega)
  exact h2.2
/-- a condition as a whole, from its bracket on -/
theorem r_conT {xs : List Int32} {n : Nat} {Q : hQ} {T : Nat → Int} {L p p' o0 : Nat} {m0 m : gx_M} {K W0 K' : hCode} (hD : lD T L 5 1 (p + 1) K p' K') (h4 : tx T L p = 40) (h5 : tx T L p' = 41) (hS : rS T L m0 p K W0 o0 m) (hk : K.length ≤ p) (h : ∀ m', rS T L m0 (p' + 1) K' [] 0 m' → Q (some (.inl 1)) m') : hxn xs n yp_m184 0 [(0, .inr (.inl 86))] [] m Q := by
  have hhe := rs_he hS
  have s0 : rS T L m0 p K [] 0 (gx_u (gx_u m 86 9 0) 86 11 0) := by
    refine rS_of hS ?_ ?_ (fun i d hd => ?_) ?_ (fun i r hr => by cases hr) ?_ (fun c k c1 c2 c3 => ?_) (rs_le hS) (rs_kl hS) (by decide) (by decide)
    · rw [gx_u_ne (by omega), gx_u_ne (by omega)]
      exact rs_pl hS
    · rw [gx_u_ne (by omega), gx_u_ne (by omega)]
      exact rs_K hS
    · rw [gx_u_ne (by omega), gx_u_ne (by omega)]
      exact hS.2.1.2 i d hd
    · rw [gx_u_self]
      rfl
    · rw [gx_u_ne (by omega), gx_u_self]
      rfl
    · rw [gx_u_ne (by omega), gx_u_ne (by omega)]
  refine hx_dn (hr184_0 (fun _ => ?_) (fun c => absurd (by rw [hhe]; exact h4) c))
  refine rs175 s0 (by decide) (tx_lt (by rw [h4]; decide)) (by decide) (fun _ m2 s2 => ?_) (fun e => absurd e (by decide))
  show hxn xs n yp_m184 35 _ [.inl 1] m2 Q
  refine hx_dn (hr184_35 (fun _ => ?_) (fun c => absurd c (by decide)))
  exact (rC_all hD xs n Q m0 m2).2.2 rfl _ (by decide) (by decide) (by decide) s2 (by omega) (fun m3 Kc W' hP s3 => r_last hP s3 h5 h)
theorem r_conF {xs : List Int32} {n : Nat} {Q : hQ} {T : Nat → Int} {L p o0 : Nat} {m0 m : gx_M} {K W0 : hCode} {f : Int} (hF : (tx T L p ≠ 40 ∧ f = lfl 1 p) ∨ (tx T L p = 40 ∧ lE T L 5 1 (p + 1) K f) ∨ (tx T L p = 40 ∧ ∃ p1 K1, lD T L 5 1 (p + 1) K p1 K1 ∧ tx T L p1 ≠ 124 ∧ tx T L p1 ≠ 41 ∧ f = lfl 1 p1)) (hS : rS T L m0 p K W0 o0 m) (hk : K.length ≤ p) (h : ∀ m', rF m0 f m' → Q (some (.inl 0)) m') : hxn xs n yp_m184 0 [(0, .inr (.inl 86))] [] m Q := by
  have hhe := rs_he hS
  have s0 : rS T L m0 p K [] 0 (gx_u (gx_u m 86 9 0) 86 11 0) := by
    refine rS_of hS ?_ ?_ (fun i d hd => ?_) ?_ (fun i r hr => by cases hr) ?_ (fun c k c1 c2 c3 => ?_) (rs_le hS) (rs_kl hS) (by decide) (by decide)
    · rw [gx_u_ne (by omega), gx_u_ne (by omega)]
      exact rs_pl hS
    · rw [gx_u_ne (by omega), gx_u_ne (by omega)]
      exact rs_K hS
    · rw [gx_u_ne (by omega), gx_u_ne (by omega)]
      exact hS.2.1.2 i d hd
    · rw [gx_u_self]
      rfl
    · rw [gx_u_ne (by omega), gx_u_self]
      rfl
    · rw [gx_u_ne (by omega), gx_u_ne (by omega)]
  have go : tx T L p = 40 → (∀ m2, rS T L m0 (p + 1) K [(13, 0)] 1 m2 → PE xs n Q m2) → hxn xs n yp_m175 0 [(0, .inr (.inl 86)), (1, .inl 13)] [] (gx_u (gx_u m 86 9 0) 86 11 0) (fun r m' => hxn xs n yp_m184 35 [(0, .inr (.inl 86))] (hrs r ++ []) m' Q) := fun h4 g => by
    refine rs175 s0 (by decide) (tx_lt (by rw [h4]; decide)) (by decide) (fun _ m2 s2 => ?_) (fun e => absurd e (by decide))
    show hxn xs n yp_m184 35 _ [.inl 1] m2 Q
    exact hx_dn (hr184_35 (fun _ => g m2 s2) (fun c => absurd c (by decide)))
  refine hx_dn (hr184_0 (fun c => ?_) (fun c => ?_))
  · rw [hhe] at c
    rcases hF with ⟨a, -⟩ | ⟨-, hE⟩ | ⟨-, p1, K1, hD, a1, a2, rfl⟩
    · exact absurd c a
    · exact go c (fun m2 s2 => (rX_all hE xs n Q m0 m2 h).2.2 rfl _ (by decide) (by decide) (by decide) s2 (by omega))
    · exact go c (fun m2 s2 => (rC_all hD xs n Q m0 m2).2.2 rfl _ (by decide) (by decide) (by decide) s2 (by omega) (fun m3 Kc W' hP s3 => r_bad s3 a2 (lD_n38 hD rfl) a1 h))
  · rw [hhe] at c
    rcases hF with ⟨-, rfl⟩ | ⟨a, -⟩ | ⟨a, -⟩
    · rw [rs_pl hS]
      exact rs172 hS (by decide) (fun m2 h2 => hx_dn (hr184_18 (h m2 h2)))
    · exact absurd a c
    · exact absurd a c
