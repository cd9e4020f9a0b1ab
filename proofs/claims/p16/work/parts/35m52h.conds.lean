/-! the reference's pieces, parts, conditions: jumps that wait -/
def Pj4 (K' Kc W W' : hCode) : Prop := (Kc = K' ∧ W' = W) ∨ ∃ f : Nat, Kc[f]? = some (38, 0) ∧ K' = Kc.set f (38, (Kc.length : Int)) ∧ W' = W ++ [(11, (f : Int))]
def Pj5 (K' Kc W W' : hCode) : Prop := Pj4 K' Kc W W' ∨ ∃ (f : Nat) (K2 : hCode), K2[f]? = some (124, 0) ∧ K' = K2.set f (124, (K2.length : Int)) ∧ Pj4 K2 Kc (W ++ [(12, (f : Int))]) W'
theorem Pj4_len {K' Kc W W' : hCode} (h : Pj4 K' Kc W W') : Kc.length = K'.length ∧ W.length ≤ W'.length := by
  rcases h with ⟨rfl, rfl⟩ | ⟨f, -, rfl, rfl⟩
  · exact ⟨rfl, Nat.le_refl _⟩
  · rw [List.length_set, List.length_append]
    exact ⟨rfl, by omega⟩
theorem Pj5_len {K' Kc W W' : hCode} (h : Pj5 K' Kc W W') : Kc.length = K'.length ∧ W.length ≤ W'.length := by
  rcases h with h | ⟨f, K2, -, rfl, h⟩
  · exact Pj4_len h
  · have := Pj4_len h
    rw [List.length_append, List.length_singleton] at this
    rw [List.length_set]
    omega
noncomputable def AH (xs : List Int32) (n : Nat) (Q : hQ) (m : gx_M) : Prop := hxn xs n yp_m184 92 [(0, .inr (.inl 86))] [] m Q
noncomputable def PE (xs : List Int32) (n : Nat) (Q : hQ) (m : gx_M) : Prop := hxn xs n yp_m184 40 [(0, .inr (.inl 86))] [] m Q
theorem wtop_rep {V : hCode} {j : Nat} (h : ¬ (2 ≤ wtop V ∧ wtop V ≤ 6)) : ¬ (2 ≤ wtop (V ++ List.replicate j (10, 0)) ∧ wtop (V ++ List.replicate j (10, 0)) ≤ 6) := by
  cases j with
  | zero =>
    rw [List.replicate_zero, List.append_nil]
    exact h
  | succ j =>
    rw [List.replicate_succ', ← List.append_assoc, wtop_app]
    decide
section RC
variable {xs : List Int32} {n : Nat} {Q : hQ} {T : Nat → Int} {L p o : Nat} {m0 m : gx_M} {K W : hCode}
theorem rs187_c4 {x : Int} {K' Kc W' : hCode} (hP : Pj4 K' Kc W W') (hS : rS T L m0 p Kc W' o m) (h : ∀ m', rS T L m0 p K' W o m' → hxn xs n yp_m187 0 [(0, .inr (.inl 86)), (1, .inl x)] [] m' Q) : hxn xs n yp_m187 0 [(0, .inr (.inl 86)), (1, .inl x)] [] m Q := by
  rcases hP with ⟨rfl, rfl⟩ | ⟨f, hf, rfl, rfl⟩
  · exact h m hS
  · exact rs187_p hS (.inl rfl) (.inl ⟨rfl, rfl⟩) hf h
theorem rs187_c5 {K' Kc W' : hCode} (hP : Pj5 K' Kc W W') (hS : rS T L m0 p Kc W' o m) (h1 : wtop W ≠ 11) (h2 : wtop W ≠ 12) (h : ∀ m', rS T L m0 p K' W o m' → Q none m') : hxn xs n yp_m187 0 [(0, .inr (.inl 86)), (1, .inl 1)] [] m Q := by
  rcases hP with hP | ⟨f, K2, hf, rfl, hP⟩
  · exact rs187_c4 hP hS (fun m' s' => rs187_s s' h1 (fun _ => h2) (h m' s'))
  · exact rs187_c4 hP hS (fun m' s' => rs187_p s' (.inr ⟨rfl, by decide⟩) (.inr ⟨rfl, rfl⟩) hf (fun m2 s2 => rs187_s s2 h1 (fun _ => h2) (h m2 s2)))
theorem r_and {K' Kc W' : hCode} (hP : Pj4 K' Kc W W') (hS : rS T L m0 p Kc W' o m) (ht : tx T L p = 38) (h1 : wtop W ≠ 11) (hk : K'.length < 240) (hw : W.length < 240) (h : ∀ m', rS T L m0 (p + 1) (K' ++ [(38, 0)]) (W ++ [(11, (K'.length : Int))]) o m' → PE xs n Q m') : AH xs n Q m := by
  have hhe := rs_he hS
  refine hx_dn (hr184_92 (fun _ _ _ => ?_) (fun _ c => absurd (by rw [hhe]; exact ht) c) (fun _ c => absurd (by rw [hhe]; exact ht) c) (fun c => absurd c (by rw [hhe, ht]; decide)))
  refine rs187_c4 hP hS (fun m2 s2 => rs187_s s2 h1 (fun c => absurd rfl c) ?_)
  show hxn xs n yp_m184 198 _ [] m2 Q
  have hh2 := rs_he s2
  refine hx_dn (hr184_198 (fun c => absurd (by rw [hh2]; exact ht) c) (fun _ => ?_))
  refine rs188 s2 (c := (38, 0)) (by decide) (by decide) (tx_lt (by rw [ht]; decide)) hk hw (fun m3 s3 => ?_)
  show hxn xs n yp_m184 218 _ [] m3 Q
  exact hx_dn (hr184_218 (h m3 s3))
theorem r_or {K' Kc W' : hCode} (hP : Pj5 K' Kc W W') (hS : rS T L m0 p Kc W' o m) (ht : tx T L p = 124) (h1 : wtop W ≠ 11) (h2 : wtop W ≠ 12) (hk : K'.length < 240) (hw : W.length < 240) (h : ∀ m', rS T L m0 (p + 1) (K' ++ [(124, 0)]) (W ++ [(12, (K'.length : Int))]) o m' → PE xs n Q m') : AH xs n Q m := by
  have hhe := rs_he hS
  refine hx_dn (hr184_92 (fun _ c => absurd c (by rw [hhe, ht]; decide)) (fun _ _ _ _ => ?_) (fun _ _ c => absurd (by rw [hhe]; exact ht) c) (fun c => absurd c (by rw [hhe, ht]; decide)))
  refine rs187_c5 hP hS h1 h2 (fun m2 s2 => ?_)
  show hxn xs n yp_m184 198 _ [] m2 Q
  have hh2 := rs_he s2
  refine hx_dn (hr184_198 (fun _ => ?_) (fun c => absurd c (by rw [hh2, ht]; decide)))
  refine rs188 s2 (c := (124, 0)) (by decide) (by decide) (tx_lt (by rw [ht]; decide)) hk hw (fun m3 s3 => ?_)
  show hxn xs n yp_m184 218 _ [] m3 Q
  exact hx_dn (hr184_218 (h m3 s3))
theorem r_bad (hS : rS T L m0 p K W o m) (h1 : tx T L p ≠ 41) (h2 : tx T L p ≠ 38) (h3 : tx T L p ≠ 124) (h : ∀ m', rF m0 (lfl 1 p) m' → Q (some (.inl 0)) m') : AH xs n Q m := by
  have hhe := rs_he hS
  refine hx_dn (hr184_92 (fun _ c => absurd (by rw [← hhe]; exact c) h2) (fun _ _ c => absurd (by rw [← hhe]; exact c) h3) (fun _ _ _ => ?_) (fun c => absurd (by rw [← hhe]; exact c) h1))
  rw [rs_pl hS]
  exact rs172 hS (by decide) (fun m2 h2 => hx_dn (hr184_179 (h m2 h2)))
theorem r_par {K' Kc W' V : hCode} {j oo : Nat} (hP : Pj5 K' Kc (V ++ List.replicate j (10, 0) ++ [(13, 0)]) W') (hS : rS T L m0 p Kc W' o m) (ho : o = oo + j + 1) (ht : tx T L p = 41) (hv : 1 ≤ V.length) (h1 : wtop V ≠ 10) (hk : K'.length + j ≤ 240) (h : ∀ m', rS T L m0 (p + 1) (K' ++ List.replicate j (33, 0)) V oo m' → AH xs n Q m') : AH xs n Q m := by
  have hhe := rs_he hS
  have hol := rs_ol hS
  refine hx_dn (hr184_92 (fun c => absurd (by rw [hhe]; exact ht) c) (fun c => absurd (by rw [hhe]; exact ht) c) (fun c => absurd (by rw [hhe]; exact ht) c) (fun _ => ?_))
  refine rs187_c5 hP hS (by rw [wtop_app]; decide) (by rw [wtop_app]; decide) (fun m2 s2 => ?_)
  show hxn xs n yp_m184 106 _ [] m2 Q
  have hwl := rs_wl s2
  have hwe := rs_W s2
  rw [List.length_append, List.length_singleton, List.length_append] at hwl hwe
  have e0 : gx_w (m2 86 11 - 1) = ((V.length + (List.replicate j ((10 : Int), (0 : Int))).length : Nat) : Int) := by
    rw [hwe, gx_w_id (by omega) (by omega)]
    omega
  refine hx_dn (hr184_106 (fun _ => ?_) (fun c => absurd c (by rw [e0]; omega)))
  have s3 := rs_po s2
  have s4 := rs_op s3 (o' := oo + j) (v := gx_w (m2 86 9 - 1)) (by rw [rs_o s2, gx_w_id (by omega) (by omega)]; omega) (by omega)
  have s5 := rs_st s4 (tx_lt (by rw [ht]; decide))
  have e1 : gx_u (gx_u m2 86 11 (gx_w (m2 86 11 - 1))) 86 9 (gx_w (m2 86 9 - 1)) 86 5 = m2 86 5 := by
    rw [gx_u_ne (by omega), gx_u_ne (by omega)]
  rw [e1] at s5
  refine rs186 j s5 h1 hk (fun m6 s6 => ?_)
  show hxn xs n yp_m184 149 _ [] m6 Q
  exact hx_dn (hr184_149 (h m6 s6))
theorem r_last {K' Kc W' : hCode} (hP : Pj5 K' Kc [(13, 0)] W') (hS : rS T L m0 p Kc W' 1 m) (ht : tx T L p = 41) (h : ∀ m', rS T L m0 (p + 1) K' [] 0 m' → Q (some (.inl 1)) m') : AH xs n Q m := by
  have hhe := rs_he hS
  refine hx_dn (hr184_92 (fun c => absurd (by rw [hhe]; exact ht) c) (fun c => absurd (by rw [hhe]; exact ht) c) (fun c => absurd (by rw [hhe]; exact ht) c) (fun _ => ?_))
  refine rs187_c5 hP hS (by decide) (by decide) (fun m2 s2 => ?_)
  show hxn xs n yp_m184 106 _ [] m2 Q
  have e0 : gx_w (m2 86 11 - 1) = 0 := by
    rw [rs_W s2]
    rfl
  refine hx_dn (hr184_106 (fun c => absurd e0 c) (fun _ => ?_))
  have s3 := rs_po (W := []) s2
  have s4 := rs_op s3 (o' := 0) (v := gx_w (m2 86 9 - 1)) (by rw [rs_o s2]; rfl) (by omega)
  have s5 := rs_st s4 (tx_lt (by rw [ht]; decide))
  have e1 : gx_u (gx_u m2 86 11 (gx_w (m2 86 11 - 1))) 86 9 (gx_w (m2 86 9 - 1)) 86 5 = m2 86 5 := by
    rw [gx_u_ne (by omega), gx_u_ne (by omega)]
  rw [e1] at s5
  exact h _ s5
/-- what is compared -/
theorem r_cmp {V K2 : hCode} {j oo p1 p2 : Nat} {K1 : hCode} (ho : o = oo + j) (hS : rS T L m0 p K (V ++ List.replicate j (10, 0)) o m) (hw : V.length + j ≤ 3 * o) (hv : wtop V ≠ 10) (hv2 : ¬ (2 ≤ wtop V ∧ wtop V ≤ 6)) (hk : K.length + j ≤ p) (h3 : tx T L p ≠ 33) (h4 : tx T L p ≠ 40) (d1 : lD T L 2 o p K p1 K1) (t : isCm (tx T L p1)) (d2 : lD T L 2 o (p1 + 1) K1 p2 K2) (hn : ¬ isSm (tx T L p2)) (h : ∀ m', rS T L m0 p2 (K2 ++ [(tx T L p1, 0)] ++ List.replicate j (33, 0)) V oo m' → AH xs n Q m') : PE xs n Q m := by
  have hhe := rs_he hS
  have g1 := lD_grow d1
  have g2 := lD_grow d2
  have hwl : (V ++ List.replicate j ((10 : Int), (0 : Int))).length ≤ 3 * o := by
    rw [List.length_append, List.length_replicate]
    exact hw
  refine hx_dn (hr184_40 (fun c => absurd (by rw [← hhe]; exact c) h3) (fun _ _ => ?_) (fun _ c => absurd (by rw [← hhe]; exact c) h4))
  refine hx_dn (hr185_0 ?_)
  refine r_sumT d1 (fun c => by unfold isCm at t; unfold isSm at c; omega) hS (by omega) hwl (wtop_rep hv2) (fun m1 s1 => ?_)
  show hxn xs n yp_m185 4 _ [.inl 1] m1 _
  have hh1 := rs_he s1
  have hL := rs_L hS
  have hlt : p1 < L := tx_lt (fun e => by rw [e] at t; unfold isCm at t; omega)
  have fin : ∀ a : Int, lop (tx T L p1) = a → (0 ≤ a ∧ a ≤ 14) → hxn xs n yp_m173 0 [(0, .inr (.inl 86))] [] (gx_u m1 86 5 (gx_w ((m1 86 5) + 1))) (fun r m' => hxn xs n yp_m185 82 [(0, .inr (.inl 86)), (1, .inl a)] (hrs r ++ []) m' (fun r m' => hxn xs n yp_m184 87 [(0, .inr (.inl 86))] (hrs r ++ []) m' Q)) := fun a ha ha2 => by
    refine r_sumT d2 hn (rs_st s1 hlt) (by omega) hwl (wtop_rep hv2) (fun m2 s2 => ?_)
    show hxn xs n yp_m185 82 _ [.inl 1] m2 _
    have hle := rs_le s2
    refine hx_dn (hr185_82 (fun _ => ?_) (fun c => absurd c (by decide)))
    refine rs178 s2 (c := (tx T L p1, 0)) ?_ ha2 (by decide) (by omega) (fun m3 s3 => ?_)
    · unfold lenc larg
      rw [if_neg (by dsimp only; unfold isCm at t; omega)]
      dsimp only
      rw [ha]
    · show hxn xs n yp_m185 93 _ [] m3 _
      refine hx_dn (hr185_93 ?_)
      subst ho
      refine rs186 j s3 hv (by rw [List.length_append, List.length_singleton]; omega) (fun m4 s4 => ?_)
      show hxn xs n yp_m185 97 [] [] m4 _
      refine hx_dn (hr185_97 ?_)
      show hxn xs n yp_m184 87 _ [.inl 1] m4 Q
      exact hx_dn (hr184_87 (fun _ => h m4 s4) (fun c => absurd c (by decide)))
  refine hx_dn (hr185_4 (fun _ a b c => ?_) (fun _ a b c => ?_) (fun _ a b => ?_) (fun _ a => ?_) (fun c => absurd c (by decide)))
  · rw [hh1] at a b c
    unfold isCm at t
    omega
  · rw [hh1] at c
    exact fin 9 (by rw [c]; decide) (by decide)
  · rw [hh1] at b
    exact fin 8 (by rw [b]; decide) (by decide)
  · rw [hh1] at a
    exact fin 7 (by rw [a]; decide) (by decide)
end RC
noncomputable def rC (T : Nat → Int) (L k o p : Nat) (K : hCode) (p' : Nat) (K' : hCode) : Prop := ∀ (xs : List Int32) (n : Nat) (Q : hQ) (m0 m : gx_M),
  (k = 3 → ∀ (V : hCode) (j oo : Nat), o = oo + j → V.length + j ≤ 3 * o → 1 ≤ V.length → wtop V ≠ 10 → ¬ (2 ≤ wtop V ∧ wtop V ≤ 6) → rS T L m0 p K (V ++ List.replicate j (10, 0)) o m → K.length + j ≤ p → (∀ m', rS T L m0 p' (K' ++ List.replicate j (33, 0)) V oo m' → AH xs n Q m') → PE xs n Q m) ∧
  (k = 4 → ∀ W : hCode, W.length + 1 ≤ 3 * o → 1 ≤ W.length → (wtop W = 13 ∨ wtop W = 12) → rS T L m0 p K W o m → K.length ≤ p → (∀ m' Kc W', Pj4 K' Kc W W' → rS T L m0 p' Kc W' o m' → AH xs n Q m') → PE xs n Q m) ∧
  (k = 5 → ∀ W : hCode, W.length + 2 ≤ 3 * o → 1 ≤ W.length → wtop W = 13 → rS T L m0 p K W o m → K.length ≤ p → (∀ m' Kc W', Pj5 K' Kc W W' → rS T L m0 p' Kc W' o m' → AH xs n Q m') → PE xs n Q m)
theorem rC_lo {T : Nat → Int} {L k o p p' : Nat} {K K' : hCode} (h : k ≤ 2) : rC T L k o p K p' K' := fun _ _ _ _ _ => ⟨fun e => by omega, fun e => by omega, fun e => by omega⟩
theorem rep_snoc {V : hCode} {j : Nat} {x : Int × Int} : V ++ List.replicate j x ++ [x] = V ++ List.replicate (j + 1) x := by
  rw [List.append_assoc, ← List.replicate_succ']
theorem rep_cons {K : hCode} {j : Nat} {x : Int × Int} : K ++ List.replicate (j + 1) x = K ++ [x] ++ List.replicate j x := by
  rw [List.append_assoc, List.replicate_succ]
  rfl
theorem rC_all {T : Nat → Int} {L k o p p' : Nat} {K K' : hCode} (h : lD T L k o p K p' K') : rC T L k o p K p' K' := by
  have h2 : lD T L k o p K p' K' ∧ rC T L k o p K p' K' := by
    refine h (fun k o p K p' K' => lD T L k o p K p' K' ∧ rC T L k o p K p' K') ⟨?_, ?_, ?_, ?_, ?_, ?_, ?_, ?_, ?_, ?_, ?_, ?_, ?_, ?_⟩
    · exact fun o p K j a b c d => ⟨lD_num a b c d, rC_lo (by decide)⟩
    · exact fun o p K a => ⟨lD_let a, rC_lo (by decide)⟩
    · exact fun o p K p1 K1 a b c d => ⟨lD_br a b c.1 d, rC_lo (by decide)⟩
    · exact fun o p K p1 K1 a => ⟨lD_pr1 a.1, rC_lo (by decide)⟩
    · exact fun o p K p1 K1 p2 K2 a b c => ⟨lD_pr2 a.1 b c.1, rC_lo (by decide)⟩
    · exact fun o p K p1 K1 a b => ⟨lD_sm1 a.1 b, rC_lo (by decide)⟩
    · exact fun o p K p1 K1 p2 K2 a b c d => ⟨lD_sm2 a.1 b c.1 d, rC_lo (by decide)⟩
    · intro o p K p1 K1 p2 K2 a b c d e f
      refine ⟨lD_cm a b c.1 d e.1 f, fun xs n Q m0 m => ⟨fun _ V j oo ho hw hv h1 h2 hS hk ct => ?_, fun e => absurd e (by decide), fun e => absurd e (by decide)⟩⟩
      exact r_cmp ho hS hw h1 h2 hk a b c.1 d e.1 f ct
    · intro o p K p1 K1 a b c
      refine ⟨lD_no a b c.1, fun xs n Q m0 m => ⟨fun _ V j oo ho hw hv h1 h2 hS hk ct => ?_, fun e => absurd e (by decide), fun e => absurd e (by decide)⟩⟩
      have hhe := rs_he hS
      refine hx_dn (hr184_40 (fun _ _ => ?_) (fun c => absurd (by rw [hhe]; exact a) c) (fun c => absurd (by rw [hhe]; exact a) c))
      refine rs175 hS (by decide) (tx_lt (by rw [a]; decide)) (by rw [List.length_append, List.length_replicate]; omega) (fun _ m2 s2 => ?_) (fun e => absurd e (by omega))
      show hxn xs n yp_m184 78 _ [.inl 1] m2 Q
      refine hx_dn (hr184_78 (fun _ => ?_) (fun c => absurd c (by decide)))
      rw [rep_snoc] at s2
      refine (c.2 xs n Q m0 m2).1 rfl V (j + 1) oo (by omega) (by omega) hv h1 h2 s2 (by omega) (fun m3 s3 => ?_)
      rw [rep_cons] at s3
      exact ct m3 s3
    · intro o p K p1 K1 a b c d
      refine ⟨lD_pa a b c.1 d, fun xs n Q m0 m => ⟨fun _ V j oo ho hw hv h1 h2 hS hk ct => ?_, fun e => absurd e (by decide), fun e => absurd e (by decide)⟩⟩
      have hhe := rs_he hS
      have hg := lD_grow c.1
      refine hx_dn (hr184_40 (fun c => absurd c (by rw [hhe, a]; decide)) (fun _ c => absurd (by rw [hhe]; exact a) c) (fun _ _ _ => ?_))
      refine rs175 hS (by decide) (tx_lt (by rw [a]; decide)) (by rw [List.length_append, List.length_replicate]; omega) (fun _ m2 s2 => ?_) (fun e => absurd e (by omega))
      show hxn xs n yp_m184 78 _ [.inl 1] m2 Q
      refine hx_dn (hr184_78 (fun _ => ?_) (fun c => absurd c (by decide)))
      refine (c.2 xs n Q m0 m2).2.2 rfl _ (by rw [List.length_append, List.length_append, List.length_replicate, List.length_singleton]; omega) (by rw [List.length_append, List.length_singleton]; omega) (by rw [wtop_app]) s2 (by omega) (fun m3 Kc W' hP s3 => ?_)
      have hle := rs_le s3
      have hL := rs_L s3
      exact r_par hP s3 (by omega) d hv h1 (by omega) ct
    · intro o p K p1 K1 a
      refine ⟨lD_pt1 a.1, fun xs n Q m0 m => ⟨fun e => absurd e (by decide), fun _ W hw hv h1 hS hk ct => ?_, fun e => absurd e (by decide)⟩⟩
      refine (a.2 xs n Q m0 m).1 rfl W 0 o rfl (by omega) hv (by omega) (by omega) (by rw [List.replicate_zero, List.append_nil]; exact hS) (by omega) (fun m2 s2 => ?_)
      rw [List.replicate_zero, List.append_nil] at s2
      exact ct m2 K1 W (.inl ⟨rfl, rfl⟩) s2
    · intro o p K p1 K1 p2 K2 a b c
      refine ⟨lD_pt2 a.1 b c.1, fun xs n Q m0 m => ⟨fun e => absurd e (by decide), fun _ W hw hv h1 hS hk ct => ?_, fun e => absurd e (by decide)⟩⟩
      have hg := lD_grow a.1
      have hol := rs_ol hS
      have hk2 : K2[K1.length]? = some (38, 0) := by
        rw [lD_pre c.1 K1.length (by rw [List.length_append, List.length_singleton]; omega)]
        exact lk_last
      refine (a.2 xs n Q m0 m).2.1 rfl W hw hv h1 hS hk (fun m1 Kc W' hP s1 => ?_)
      have hlt : p1 < L := tx_lt (by rw [b]; decide)
      have hL := rs_L s1
      refine r_and hP s1 b (by omega) (by omega) (by omega) (fun m2 s2 => ?_)
      refine (c.2 xs n Q m0 m2).1 rfl (W ++ [(11, (K1.length : Int))]) 0 o rfl (by rw [List.length_append, List.length_singleton]; omega) (by rw [List.length_append, List.length_singleton]; omega) (by rw [wtop_app]; exact (by decide : (11 : Int) ≠ 10)) (by rw [wtop_app]; exact (by decide : ¬ ((2 : Int) ≤ 11 ∧ (11 : Int) ≤ 6))) (by rw [List.replicate_zero, List.append_nil]; exact s2) (by rw [List.length_append, List.length_singleton]; omega) (fun m3 s3 => ?_)
      rw [List.replicate_zero, List.append_nil] at s3
      exact ct m3 K2 _ (.inr ⟨K1.length, hk2, rfl, rfl⟩) s3
    · intro o p K p1 K1 a b
      refine ⟨lD_cn1 a.1 b, fun xs n Q m0 m => ⟨fun e => absurd e (by decide), fun e => absurd e (by decide), fun _ W hw hv h1 hS hk ct => ?_⟩⟩
      exact (a.2 xs n Q m0 m).2.1 rfl W (by omega) hv (.inl h1) hS hk (fun m2 Kc W' hP s2 => ct m2 Kc W' (.inl hP) s2)
    · intro o p K p1 K1 p2 K2 a b c d
      refine ⟨lD_cn2 a.1 b c.1 d, fun xs n Q m0 m => ⟨fun e => absurd e (by decide), fun e => absurd e (by decide), fun _ W hw hv h1 hS hk ct => ?_⟩⟩
      have hg := lD_grow a.1
      have hol := rs_ol hS
      have hk2 : K2[K1.length]? = some (124, 0) := by
        rw [lD_pre c.1 K1.length (by rw [List.length_append, List.length_singleton]; omega)]
        exact lk_last
      refine (a.2 xs n Q m0 m).2.2 rfl W hw hv h1 hS hk (fun m1 Kc W' hP s1 => ?_)
      have hlt : p1 < L := tx_lt (by rw [b]; decide)
      have hL := rs_L s1
      refine r_or hP s1 b (by omega) (by omega) (by omega) (by omega) (fun m2 s2 => ?_)
      refine (c.2 xs n Q m0 m2).2.1 rfl _ (by rw [List.length_append, List.length_singleton]; omega) (by rw [List.length_append, List.length_singleton]; omega) (by rw [wtop_app]; exact .inr rfl) s2 (by rw [List.length_append, List.length_singleton]; omega) (fun m3 Kc W' hP s3 => ?_)
      exact ct m3 Kc W' (.inr ⟨K1.length, K2, hk2, rfl, hP⟩) s3
  exact h2.2
