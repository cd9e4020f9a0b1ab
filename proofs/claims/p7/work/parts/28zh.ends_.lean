section
/-! contracts by hand that say what lies at places at their ends; roads from behind the first questions on -/
section GXQ
variable {xs : List Int32} {gX : gx_M → Prop} {w0 : sx_W}
def gx_qB (eq : bx_Q) : Bool := eq.all (fun q => decide (q.2.2.1 = 0) && gx_mB [(q.1, q.2.1, q.2.1 + 1)])
def gx_qm (eq : bx_Q) (m : gx_M) : Prop := ∀ q ∈ eq, q.2.2.2.1 ≤ m q.1 q.2.1 ∧ m q.1 q.2.1 ≤ q.2.2.2.2
theorem gx_q_rd {q : Nat × Nat × ax_V} {w : sx_W} (hB : gx_mB [(q.1, q.2.1, q.2.1 + 1)] = true) (i1 : bx_in fx_S w) : bx_rd xs w q.1 q.2.1 = some (.int (fx_i w q.1 q.2.1)) := by
  obtain ⟨-, hnl⟩ := gx_mB_ok hB
  obtain ⟨t, r, a, g1, g2, rfl⟩ := hnl _ (List.mem_singleton.mpr rfl) q.2.1 (Nat.le_refl _) (Nat.lt_succ_self _)
  obtain ⟨vs, j1, j2, j3, -⟩ := fx_int i1 g1 g2
  have hc : q.1 < 100000 := by
    by_cases h : q.1 < 100000
    · exact h
    · have e1 : w.length ≤ q.1 := by rw [i1.1]; exact Nat.le_trans (by decide +kernel) (by omega : 100000 ≤ q.1)
      rw [List.getElem?_eq_none e1] at j1
      cases j1
  rw [bx_rd_w hc, j1]
  exact j3
theorem gx_q_of {eq : bx_Q} {w : sx_W} (hB : gx_qB eq = true) (i1 : bx_in fx_S w) (h : gx_qm eq (gx_m w)) : bx_cq xs eq w := by
  intro q hq v hv
  have hb := List.all_eq_true.mp hB q hq
  rw [Bool.and_eq_true, decide_eq_true_eq] at hb
  rw [gx_q_rd hb.2 i1] at hv
  cases hv
  obtain ⟨h1, h2⟩ := h q hq
  obtain ⟨c, k, t, lo, hi⟩ := q
  have h0 : t = 0 := hb.1
  subst h0
  exact ⟨fun e => absurd e (show ¬ ((0 : Nat) = 4) by decide), _, rfl, h1, h2⟩
theorem gx_q_to {eq : bx_Q} {w : sx_W} (hB : gx_qB eq = true) (i1 : bx_in fx_S w) (h : bx_cq xs eq w) : gx_qm eq (gx_m w) := by
  intro q hq
  have hb := List.all_eq_true.mp hB q hq
  rw [Bool.and_eq_true, decide_eq_true_eq] at hb
  obtain ⟨-, hg⟩ := h q hq _ (gx_q_rd hb.2 i1)
  obtain ⟨c, k, t, lo, hi⟩ := q
  have h0 : t = 0 := hb.1
  subst h0
  obtain ⟨x, e, h1, h2⟩ := hg
  cases e
  exact ⟨h1, h2⟩
theorem gx_Kq {mi pc dk d : Nat} {pre : ax_L} {e : Option ax_V} {npc : Nat} {el : ax_L} {eq : bx_Q} {mods : bx_M} {lm : List Nat} {ctr : Option (Nat × Bool)} {M : sx_M} {L : gx_L} {m : gx_M} {Q : gx_Q} (hK : bx_Kok yp_P xs bw_INV (gx_XW gX) (mi, pc, pre, [], [(some e, npc, el, eq)], mods, lm, dk, ctr)) (hM : yp_P.2.2.2.1[mi]? = some M) (hd : dk ≤ d) (hmods : gx_mB mods = true) (he : (match e with | none => true | some a => decide (a.1 = 0)) = true) (hpre : gx_pre pre L) (hI : gx_I m) (hX : gX m)
    (hB : gx_qB eq = true) (hq : ∀ r m', gx_end e r → gx_I m' → gX m' → gx_fw mods m m' → gx_qm eq m' → Q r m') : gx_to xs w0 d M pc L [] m Q := by
  intro lv sv w hl hs hw hm
  obtain ⟨hst, hnl⟩ := gx_mB_ok hmods
  have := gx_hs0 hs
  subst this
  subst hm
  obtain ⟨e1, he1, lv', w', h1, h2, h3, h4⟩ := hK M hM d hd lv w (gx_pre_ok hpre hl) ⟨gx_in_to hw.1 hI, hX⟩ (fun q hq => by cases hq)
  rw [List.mem_singleton] at he1
  subst he1
  obtain ⟨rv, h5, h6⟩ := h4
  obtain ⟨i1, i2⟩ := gx_in_of h1.1
  have hf := gx_fw_of hw.1 i1 hst h3
  have hsame : gx_same w w' := by
    intro c k
    by_cases hmod : ∃ q ∈ mods, q.1 = c ∧ q.2.1 ≤ k ∧ k < q.2.2
    · obtain ⟨q, hm, rfl, hk1, hk2⟩ := hmod
      obtain ⟨t, r, a, g1, g2, rfl⟩ := hnl q hm k hk1 hk2
      obtain ⟨vs, j1, j2, j3, -⟩ := fx_int hw.1 g1 g2
      obtain ⟨vs', j1', j2', j3', -⟩ := fx_int i1 g1 g2
      exact .inr ⟨_, _, by unfold gx_rd; rw [j1]; exact j3, by unfold gx_rd; rw [j1']; exact j3'⟩
    · left
      rcases h3 with h3 | h3
      · rw [hst] at h3; cases h3
      · have hc : c < 100000 ∨ ¬ c < 100000 := by omega
        rcases hc with hc | hc
        · have := h3 c k (fun q hm hx => hmod ⟨q, hm, hx⟩)
          rw [bx_rd_w hc, bx_rd_w hc] at this
          exact this
        · rw [(gx_m_far hw.1 hc).1, (gx_m_far i1 hc).1]
  have hgo : ∃ r : Option Int, gx_ro r rv ∧ gx_end e r := by
    unfold bx_co at h5
    split at h5
    · exact ⟨none, trivial, trivial⟩
    · rename_i a v
      obtain ⟨t, lo, hi⟩ := a
      obtain ⟨n4, hg⟩ := h5
      have h0 : t = 0 := of_decide_eq_true he
      subst h0
      obtain ⟨x, rfl, g1, g2⟩ := hg
      exact ⟨some x.toInt, ⟨x, rfl, rfl⟩, rfl, g1, g2⟩
    · exact h5.elim
  obtain ⟨r, r1, r2⟩ := hgo
  exact ⟨(rv, w'), r, h6, ⟨i1, hw.2.tr hsame⟩, r1, hq r _ r2 i2 h1.2 hf (gx_q_to hB i1 h2)⟩

theorem gx_K_ofq {mi pc dk : Nat} {pre : ax_L} {e : Option ax_V} {npc : Nat} {el : ax_L} {eq : bx_Q} {mods : bx_M} {lm : List Nat} {ctr : Option (Nat × Bool)} (hB : gx_qB eq = true) (hk : gx_kinds pre = true) (he : (match e with | none => true | some a => decide (a.1 = 0)) = true)
    (h : ∀ (M : sx_M) (w0 : sx_W) (v : List Int) (m : gx_M), yp_P.2.2.2.1[mi]? = some M → gx_pre0 pre v → gx_I m → gX m → (∀ c k, -2147483648 ≤ m c k ∧ m c k ≤ 2147483647) → gx_to xs w0 dk M pc (gx_L0 pre v) [] m (fun r m' => gx_rb r → gx_end e r ∧ gx_I m' ∧ gX m' ∧ gx_fw mods m m' ∧ gx_qm eq m')) : bx_Kok yp_P xs bw_INV (gx_XW gX) (mi, pc, pre, [], [(some e, npc, el, eq)], mods, lm, dk, ctr) := by
  intro M hM d0 hd lv w hcl hw hq
  obtain ⟨v, h1, h2⟩ := gx_pre0_ok hk hcl
  obtain ⟨i1, i2⟩ := gx_in_of hw.1
  obtain ⟨o, r, g1, g2, g3, g0⟩ := gx_to_up hd (h M w v (gx_m w) hM h1 i2 hw.2 (gx_m_bd w)) lv [] w h2 trivial ⟨i1, gx_same.rf⟩ rfl
  obtain ⟨g4, g5, g6, g7, g8⟩ := g0 (gx_ro_rb g3)
  refine ⟨(some e, npc, el, eq), List.mem_singleton.mpr rfl, lv, o.2, ⟨gx_in_to g2.1 g5, g6⟩, gx_q_of hB g2.1 g8, Or.inr (fun c k hm => ?_), ?_⟩
  · have hc : c < 100000 ∨ ¬ c < 100000 := by omega
    rcases hc with hc | hc
    · rw [bx_rd_w hc, bx_rd_w hc]
      exact g2.2.eq (g7 c k hm)
    · unfold bx_rd
      split
      · rfl
      · split
        · rfl
        · have e1 : w.length ≤ c := by rw [i1.1]; exact Nat.le_trans (by decide +kernel) (by omega : 100000 ≤ c)
          have e2 : o.2.length ≤ c := by rw [g2.1.1]; exact Nat.le_trans (by decide +kernel) (by omega : 100000 ≤ c)
          rw [List.getElem?_eq_none e1, List.getElem?_eq_none e2]
  · refine ⟨o.1, ?_, g1⟩
    unfold gx_end at g4
    cases e with
    | none =>
      cases r with
      | none =>
        cases ho : o.1 with
        | none => trivial
        | some u => rw [ho] at g3; exact g3.elim
      | some x => exact g4.elim
    | some a =>
      cases r with
      | none => exact g4.elim
      | some x =>
        obtain ⟨t, lo, hi⟩ := a
        obtain ⟨e0, k1, k2⟩ := g4
        dsimp only at e0 k1 k2
        subst e0
        cases ho : o.1 with
        | none => rw [ho] at g3; exact g3.elim
        | some u =>
          rw [ho] at g3
          obtain ⟨z, rfl, rfl⟩ := g3
          exact ⟨(fun h => by cases h), z, rfl, k1, k2⟩

end GXQ
/-- law from 21 on -/
theorem gu168_21 {xs : List Int32} {w0 : sx_W} {d : Nat} {Q : gx_Q} {m : gx_M} {x1 : Int}
    (h1 : gx_to xs w0 d yp_m169 0 [(0, .inr 86)] [] (gx_u (gx_u (gx_u (gx_u m 86 5 0) 86 6 x1) 86 10 0) 86 12 0) (fun r m' => gx_to xs w0 (d + 1) yp_m168 45 [(0, .inr 86)] (gx_rs r ++ []) m' Q)) : gx_to xs w0 (d + 1) yp_m168 21 [(0, .inr 86), (1, .inl x1)] [] m Q := by
  refine gx_blk (C := True) (npc := 42) (L' := [(0, .inr 86), (1, .inl x1)]) (st' := [.inr 86]) (m' := (gx_u (gx_u (gx_u (gx_u m 86 5 0) 86 6 x1) 86 10 0) 86 12 0)) [((21, .aload_n 0, 1, 0, 0, 0, 0), (0, 0, 0)), ((22, .iconst 0, 1, 0, 0, 0, 0), (0, 0, 0)), ((23, .putfield 132, 3, 10, 5, 5118, 0), (0, 86, 0)), ((26, .aload_n 0, 1, 0, 0, 0, 0), (0, 0, 0)), ((27, .iload_n 1, 1, 0, 0, 0, 0), (0, 0, 0)), ((28, .putfield 135, 3, 10, 6, 5119, 0), (0, 86, 0)), ((31, .aload_n 0, 1, 0, 0, 0, 0), (0, 0, 0)), ((32, .iconst 0, 1, 0, 0, 0, 0), (0, 0, 0)), ((33, .putfield 155, 3, 10, 10, 5123, 0), (0, 86, 0)), ((36, .aload_n 0, 1, 0, 0, 0, 0), (0, 0, 0)), ((37, .iconst 0, 1, 0, 0, 0, 0), (0, 0, 0)), ((38, .putfield 213, 3, 10, 12, 5125, 0), (0, 86, 0)), ((41, .aload_n 0, 1, 0, 0, 0, 0), (0, 0, 0))] (by decide +kernel) rfl trivial ?_
  exact gx_callv (E := (42, .invokevirtual 219, 3, 169, 0, 6050, 0)) (M' := yp_m169) (c := 86) [] [] rfl (by decide +kernel) rfl ⟨rfl, rfl⟩ rfl rfl (Nat.le_of_ble_eq_true rfl) (Nat.le_of_ble_eq_true rfl) (by decide +kernel) (gx_to_mono h1 (fun r m' h' => gx_to_pick [0] h'))

/-- sold from 20 on -/
theorem gu242_20 {xs : List Int32} {w0 : sx_W} {d : Nat} {Q : gx_Q} {m : gx_M} {x1 x2 x3 : Int} (r_x1 : 1 ≤ x1 ∧ x1 ≤ 6)
    (h1 : gx_to xs w0 d yp_m243 0 [(0, .inr 86), (1, .inl x1)] [] (gx_u m 86 4 0) (fun r m' => gx_to xs w0 (d + 1) yp_m242 30 [(0, .inr 86), (1, .inl x1), (2, .inl x2), (3, .inl x3)] (gx_rs r ++ []) m' Q)) : gx_to xs w0 (d + 1) yp_m242 20 [(0, .inr 86), (1, .inl x1), (2, .inl x2), (3, .inl x3)] [] m Q := by
  refine gx_blk (C := True) (npc := 27) (L' := [(0, .inr 86), (1, .inl x1), (2, .inl x2), (3, .inl x3)]) (st' := [.inl x1, .inr 86]) (m' := (gx_u m 86 4 0)) [((20, .aload_n 0, 1, 0, 0, 0, 0), (0, 0, 0)), ((21, .iconst 0, 1, 0, 0, 0, 0), (0, 0, 0)), ((22, .putfield 124, 3, 10, 4, 5117, 0), (0, 86, 0)), ((25, .aload_n 0, 1, 0, 0, 0, 0), (0, 0, 0)), ((26, .iload_n 1, 1, 0, 0, 0, 0), (0, 0, 0))] (by decide +kernel) rfl trivial ?_
  exact gx_callv (E := (27, .invokevirtual 361, 3, 243, 0, 7099, 0)) (M' := yp_m243) (c := 86) [.inl x1] [] rfl (by decide +kernel) rfl ⟨rfl, rfl⟩ rfl rfl (Nat.le_of_ble_eq_true rfl) (Nat.le_of_ble_eq_true rfl) (by decide +kernel) (gx_to_mono h1 (fun r m' h' => gx_to_pick [0, 1, 2, 3] h'))

/-- inOrder from 21 on -/
theorem gu213_21 {xs : List Int32} {w0 : sx_W} {d : Nat} {Q : gx_Q} {m : gx_M} {x1 x2 : Int}
    (h1 : gx_to xs w0 d yp_m191 0 [(0, .inr 86), (1, .inl x1)] [] m (fun r m' => gx_to xs w0 (d + 1) yp_m213 26 [(0, .inr 86), (2, .inl x2)] (gx_rs r ++ []) m' Q)) : gx_to xs w0 (d + 1) yp_m213 21 [(0, .inr 86), (1, .inl x1), (2, .inl x2)] [] m Q := by
  refine gx_blk (C := True) (npc := 23) (L' := [(0, .inr 86), (1, .inl x1), (2, .inl x2)]) (st' := [.inl x1, .inr 86]) (m' := m) [((21, .aload_n 0, 1, 0, 0, 0, 0), (0, 0, 0)), ((22, .iload_n 1, 1, 0, 0, 0, 0), (0, 0, 0))] (by decide +kernel) rfl trivial ?_
  exact gx_callv (E := (23, .invokevirtual 284, 3, 191, 0, 6136, 0)) (M' := yp_m191) (c := 86) [.inl x1] [] rfl (by decide +kernel) rfl ⟨rfl, rfl⟩ rfl rfl (Nat.le_of_ble_eq_true rfl) (Nat.le_of_ble_eq_true rfl) (by decide +kernel) (gx_to_mono h1 (fun r m' h' => gx_to_pick [0, 2] h'))
end
section
/-! sold: it ends with an empty tape -/
section GSF
variable {xs : List Int32} {w0 : sx_W} {d : Nat} {Q : gx_Q} {m : gx_M}
def gx_sdf : bx_M := [(86, 37, 38), (86, 38, 39), (102, 0, 260), (103, 0, 14), (112, 0, 8), (113, 0, 64), (114, 0, 1792)]
def gs_sdf (m0 : gx_M) (n : Nat) (m : gx_M) : Prop := gx_I m ∧ gx_X m ∧ gx_fw gx_sdf m0 m ∧ m 86 37 = n
theorem gs_lay_sdf {m0 m m' : gx_M} {n : Nat} (hs : gs_sdf m0 n m) (h : gs_st m n m') : gs_sdf m0 n m' :=
  ⟨h.1, gx_X_c.fw h.2.1 (by decide) hs.2.1, hs.2.2.1.tr (h.2.1.sub (fun q hq => ⟨q, by
    rw [gx_lay, List.mem_cons, List.mem_singleton] at hq
    rcases hq with rfl | rfl <;> simp [gx_sdf], rfl, Nat.le_refl _, Nat.le_refl _⟩)), h.2.2⟩
theorem gs_feel_sdf {m0 m m' : gx_M} {n : Nat} (hs : gs_sdf m0 n m) (hI : gx_I m') (hX : gx_X m') (h : gx_fw gx_feel m m') : gs_sdf m0 n m' :=
  ⟨hI, hX, hs.2.2.1.tr (h.sub (fun q hq => ⟨q, by
    rw [gx_feel, List.mem_cons, List.mem_singleton] at hq
    rcases hq with rfl | rfl <;> simp [gx_sdf], rfl, Nat.le_refl _, Nat.le_refl _⟩)), by rw [gx_feel_row h (by decide : (86 : Nat) ≠ 102) (by decide)]; exact hs.2.2.2⟩
theorem gs_113_sdf {m0 m : gx_M} {n : Nat} (hs : gs_sdf m0 n m) {z v : Int} (h1 : 0 ≤ z) (h2 : z ≤ 63) (h3 : 0 ≤ v) (h4 : v ≤ 999) : gs_sdf m0 n (gx_u m 113 z.toNat v) :=
  ⟨gx_I_w hs.1 113 (z := z) 0 63 0 999 (by decide +kernel) h1 h2 h3 h4, gx_X_c.fw (mods := [(113, 0, 64)]) (gx_fw.rf.w ⟨_, List.mem_singleton.mpr rfl, rfl, Nat.zero_le _, by show z.toNat < 64; omega⟩) (by decide) hs.2.1, hs.2.2.1.w ⟨(113, 0, 64), by simp [gx_sdf], rfl, Nat.zero_le _, by show z.toNat < 64; omega⟩, by rw [gx_u_off (by decide : (86 : Nat) ≠ 113)]; exact hs.2.2.2⟩
theorem gl_s117f (h : bw_H1 xs (gx_XW gx_X)) {m0 : gx_M} {n : Nat} (hn : 1 ≤ n ∧ n ≤ 6) {people what k : Int} (hk : 0 ≤ k ∧ k ≤ 5) (hQ : ∀ m', gs_sdf m0 n m' → gx_to xs w0 (d + 5) yp_m242 108 [(0, .inr 86), (1, .inl (n : Int)), (2, .inl people), (3, .inl what), (5, .inl (k + 1))] [] m' Q) : ∀ (j : Nat) (p : Int) (m : gx_M), 8 - p = j → 0 ≤ p → gs_sdf m0 n m → gx_to xs w0 (d + 5) yp_m242 117 [(0, .inr 86), (1, .inl (n : Int)), (2, .inl people), (3, .inl what), (5, .inl k), (6, .inl p)] [] m Q := by
  intro j
  induction j with
  | zero => exact fun p m hj h0 hs => gt242_117 (by omega) hk (by omega) (fun _ => hQ m hs) (fun c => by omega)
  | succ j ih =>
    intro p m hj h0 hs
    refine gt242_117 (by omega) hk (by omega) (fun c => by omega) (fun c => gc_has
      (fun _ => gt242_142 hs.1 (by omega) hk (by omega) (by omega) (fun e => by omega) (fun _ => gc_worthOf h hs.1 hs.2.1 ?_ (by omega) (fun v m' v1 v2 g1 g2 g3 => gt242_158 (by omega) hk (by omega) (by omega) (ih (p + 1) _ (by omega) (by omega) (gs_113_sdf (gs_feel_sdf hs g1 g2 g3) (by omega) (by omega) v1 v2)))))
      (fun _ => gt242_142 hs.1 (by omega) hk (by omega) (by omega) (fun _ => ih (p + 1) _ (by omega) (by omega) (gs_113_sdf hs (by omega) (by omega) (by omega) (by omega))) (fun e => absurd rfl e)))
    exact gx_I_at hs.1 112 (z := k) 0 7 0 39 (by decide +kernel) (by omega) (by omega)
theorem gl_s108f (h : bw_H1 xs (gx_XW gx_X)) {m0 : gx_M} {n : Nat} (hn : 1 ≤ n ∧ n ≤ 6) {people what : Int} (hp : -2147483648 ≤ people ∧ people ≤ 2147483647) (hw : what = 10 ∨ (0 ≤ what ∧ what ≤ (n : Int) - 1) ∨ (20 ≤ what ∧ what ≤ 27)) (hQ : ∀ v m', gs_sdf m0 n m' → Q (some v) m') : ∀ (j : Nat) (k : Int) (m : gx_M), n - k = j → 0 ≤ k → gs_sdf m0 n m → gx_to xs w0 (d + 5) yp_m242 108 [(0, .inr 86), (1, .inl (n : Int)), (2, .inl people), (3, .inl what), (5, .inl k)] [] m Q := by
  intro j
  induction j with
  | zero =>
    intro k m hj h0 hs
    refine gt242_108 (by omega) (by omega) (fun _ c => gc_laysSold hn hs.1 hs.2.2.2 hp (fun v m' g1 g2 => gt242_196 (fun c' => ?_) (fun _ => gt242_214 (hQ _ m' (gs_lay_sdf hs g1))))) (fun _ c => ?_) (fun c => by omega)
    · exact gc_gets (d := d + 2) hn g1.1 g2 (by omega) (fun q => gt242_214 (hQ _ m' (gs_lay_sdf hs g1)))
    · rw [gx_w_id (by omega) (by omega)]
      exact gc_pays (d := d + 1) hn hs.1 hs.2.2.2 hp (by omega) (fun v m' g => gt242_190 (hQ _ m' (gs_lay_sdf hs g)))
  | succ j ih =>
    intro k m hj h0 hs
    exact gt242_108 (by omega) (by omega) (fun c => by omega) (fun c => by omega) (fun c => gl_s117f h hn (by omega) (fun m' g => ih (k + 1) m' (by omega) (by omega) g) 8 0 m (by omega) (by omega) hs)
theorem gc_soldf (h : bw_H1 xs (gx_XW gx_X)) (hI : gx_I m) (hX : gx_X m) {n people what : Int} (hn : 1 ≤ n ∧ n ≤ 6) (hp : -2147483648 ≤ people ∧ people ≤ 2147483647) (hQ : ∀ v m', gx_I m' → gx_X m' → gx_fw gx_sdf (gx_u m 86 4 0) m' → Q (some v) m') : gx_to xs w0 (d + 5) yp_m242 20 [(0, .inr 86), (1, .inl n), (2, .inl people), (3, .inl what)] [] m Q := by
  refine gu242_20 hn ?_
  have hI1 : gx_I (gx_u m 86 4 0) := gx_I_w hI 86 (z := 4) 4 4 0 260 (by decide +kernel) (by omega) (by omega) (by omega) (by omega)
  refine gc_tk (d := d + 3) (by omega) hI1 (fun v m2 hv ht => ?_)
  obtain ⟨n0, rfl⟩ : ∃ k : Nat, n = (k : Int) := ⟨n.toNat, by omega⟩
  have hf2 : gx_fw gx_sdf (gx_u m 86 4 0) m2 := (ht.2.1.sub (fun q hq => ⟨q, by
    rw [gx_tk, List.mem_cons, List.mem_singleton] at hq
    rcases hq with rfl | rfl <;> simp [gx_sdf], rfl, Nat.le_refl _, Nat.le_refl _⟩))
  have hX1 : gx_X (gx_u m 86 4 0) := gx_X_c.fw (mods := [(86, 4, 5)]) (gx_fw.rf.w ⟨_, List.mem_singleton.mpr rfl, rfl, by decide, by decide⟩) (by decide) hX
  have hs : gs_sdf (gx_u m 86 4 0) n0 m2 := ⟨ht.1, gx_X_c.fw hf2 (by decide) hX1, hf2, ht.2.2⟩
  have hno2 : ∀ v, Q (some v) m2 := fun v => hQ v m2 hs.1 hs.2.1 hs.2.2.1
  have hgo : what = 10 ∨ (0 ≤ what ∧ what ≤ (n0 : Int) - 1) ∨ (20 ≤ what ∧ what ≤ 27) → gx_to xs w0 (d + 5) yp_m242 108 [(0, .inr 86), (1, .inl (n0 : Int)), (2, .inl people), (3, .inl what), (5, .inl 0)] [] m2 Q := fun hw => gl_s108f h (by omega) hp hw (fun v m' g => hQ v m' g.1 g.2.1 g.2.2.1) n0 0 m2 (by omega) (by omega) hs
  refine gt242_30 ht.1 (by omega) (fun _ _ _ => hno2 _) (fun _ e _ => hgo (.inl e)) (fun _ _ => gc_in
    (fun a b => gt242_50 ht.1 (by omega) (fun _ _ => hno2 _) (fun _ _ => hgo (.inr (.inl ⟨a, b⟩))) (fun e => by omega))
    (fun _ => gt242_50 ht.1 (by omega) (fun e => absurd rfl e) (fun e => absurd rfl e) (fun _ => gc_in
      (fun a b => gt242_61 ht.1 (fun e => by omega) (fun e => by omega) (fun _ => gc_has
        (fun _ => gt242_72 ht.1 (fun e => by omega) (fun e => by omega) (fun _ _ => hno2 _) (fun _ _ => hgo (.inr (.inr ⟨a, b⟩))))
        (fun _ => gt242_72 ht.1 (fun _ _ => hno2 _) (fun _ _ => hno2 _) (fun e => absurd rfl e) (fun e => absurd rfl e))))
      (fun _ => gt242_61 ht.1 (fun _ _ => hno2 _) (fun _ _ => hno2 _) (fun e => absurd rfl e))))) (fun _ => hno2 _)
theorem gk_fsold (h : bw_H1 xs (gx_XW gx_X)) : bx_Kok yp_P xs bw_INV (gx_XW gx_X) bf_sold := by
  refine gx_K_ofq (by decide +kernel) (by decide) rfl (fun M w0 v m hM hv hI hX _ => ?_)
  cases (Option.some.inj (hM.symm.trans rfl) : M = yp_m242)
  match v, hv with
  | x1 :: x2 :: x3 :: r, hv =>
    refine gc_soldf (d := 3) h hI hX (by have : 1 ≤ x1 ∧ x1 ≤ 6 := hv.1.2; omega) hv.2.1.2 (fun v m' hI' hX' hf hb => ⟨⟨rfl, hb v rfl⟩, hI', hX', ?_, fun q hq => ?_⟩)
    · have h1 : gx_fw gx_sd m (gx_u m 86 4 0) := gx_fw.rf.w ⟨(86, 4, 5), by simp [gx_sd], rfl, Nat.le_refl _, by decide⟩
      exact h1.tr (hf.sub (fun q hq => ⟨q, List.mem_cons_of_mem _ hq, rfl, Nat.le_refl _, Nat.le_refl _⟩))
    · have hq' : q ∈ ([(86, 4, (0, 0, 0))] : bx_Q) := hq
      rw [List.mem_singleton] at hq'
      subst hq'
      have h4 : m' 86 4 = 0 := (hf 86 4 (by decide)).trans gx_u_self
      exact ⟨Int.le_of_eq h4.symm, Int.le_of_eq h4⟩
end GSF
end
section
/-! inOrder: it ends with an empty tape -/
section GOF
variable {xs : List Int32} {w0 : sx_W} {d : Nat} {Q : gx_Q} {m : gx_M}
section GOB
variable {X : sx_W → Prop}
theorem bp_facts (h : bw_H1 xs X) : bx_Kok yp_P xs bw_INV X bf_acts := bx_chk_K h.1 h.2 (List.forall_mem_cons.mpr ⟨bp_164 h, (List.forall_mem_cons.mpr ⟨bp_193 h, (List.forall_mem_cons.mpr ⟨bp_208 h, (List.forall_mem_cons.mpr ⟨bp_224 h, (List.forall_mem_cons.mpr ⟨bp_248 h, (List.forall_mem_cons.mpr ⟨bp_273 h, (List.forall_mem_cons.mpr ⟨bp_290 h, (List.forall_mem_cons.mpr ⟨bp_302 h, (List.forall_mem_cons.mpr ⟨bp_313 h, (List.forall_mem_cons.mpr ⟨bp_326 h, (List.forall_mem_cons.mpr ⟨bp_342 h, (List.forall_mem_cons.mpr ⟨bp_355 h, (List.forall_mem_cons.mpr ⟨bp_371 h, (List.forall_mem_cons.mpr ⟨bp_376 h, (List.forall_mem_cons.mpr ⟨bp_379 h, (List.forall_mem_cons.mpr ⟨bp_384 h, (List.forall_mem_cons.mpr ⟨bp_390 h, bx_Tnil⟩)⟩)⟩)⟩)⟩)⟩)⟩)⟩)⟩)⟩)⟩)⟩)⟩)⟩)⟩)⟩)⟩) (M := yp_m191) rfl bc_facts
end GOB
def gx_odf : bx_M := [(86, 5, 6), (86, 6, 7), (86, 7, 8), (86, 8, 9), (86, 32, 33), (87, 0, 1131), (88, 0, 1131), (102, 0, 260), (103, 0, 14), (104, 0, 16), (105, 0, 16), (106, 0, 16), (107, 0, 16), (108, 0, 16), (109, 0, 6)]
def go_odf (m0 : gx_M) (n : Nat) (m : gx_M) : Prop := gx_I m ∧ gx_X m ∧ gx_fw gx_odf m0 m ∧ m 86 32 = n ∧ lo_d n (m 109)
theorem gl_o99f (h : bw_H1 xs (gx_XW gx_X)) {m0 : gx_M} {n : Nat} (hn : n ≤ 6) {what : Int} (hw : -1 ≤ what ∧ what ≤ 5) (hQ : ∀ v m', gx_I m' → gx_X m' → gx_fw gx_odf m0 m' → Q (some v) m') : ∀ (c : Nat) (v : Int) (m : gx_M), (46656 - lo_e n (m 109)).toNat ≤ c → 0 ≤ v ∧ v ≤ 1 → go_odf m0 n m → gx_to xs w0 (d + 7) yp_m213 99 [(0, .inr 86), (2, .inl what), (3, .inl v)] [] m Q := by
  intro c
  induction c using Nat.strongRecOn with
  | _ c ih =>
    intro v m hc hv hs
    have hno : ∀ v, Q (some v) m := fun v => hQ v m hs.1 hs.2.1 hs.2.2.1
    refine gt213_99 hs.1 hw hv (fun _ _ _ => hno _) (fun _ _ _ => hno _) (fun _ => gc_next (d := d + 5) hn hs.1 hs.2.2.2.1 hs.2.2.2.2
      (gt213_107 hs.1 hw hv (fun _ _ _ => hno _) (fun _ _ _ => hno _) (fun _ _ _ => hno _) (fun _ _ _ => hno _) (fun e => absurd rfl e)) (fun m1 g1 g2 => ?_))
    have hf1 : gx_fw gx_odf m m1 := g1.2.1.sub (fun q hq => ⟨q, by rw [gx_rw, List.mem_singleton] at hq; subst hq; simp [gx_odf], rfl, Nat.le_refl _, Nat.le_refl _⟩)
    have hX1 := gx_X_c.fw g1.2.1 (by decide) hs.2.1
    have hno1 : ∀ v, Q (some v) m1 := fun v => hQ v m1 g1.1 hX1 (hs.2.2.1.tr hf1)
    refine gt213_107 g1.1 hw hv (fun _ _ _ => hno1 _) (fun _ _ _ => hno1 _) (fun _ _ _ => hno1 _) (fun _ _ _ => hno1 _) (fun _ => gc_done h hn g1.1 hX1 g1.2.2.1 (fun v2 m2 v2b s => gt213_114 ?_))
    have e109 := gx_do_row s.2.2.1 (by decide : (109 : Nat) ≠ 87) (by decide) (by decide)
    have b1 := lo_e_bd n (r := m 109) (fun i hi => go_bd hs.1 (by omega))
    have b2 := lo_e_bd n (r := m1 109) (fun i hi => go_bd g1.1 (by omega))
    have p6 := lo_p6 n (by omega)
    refine ih (46656 - lo_e n (m2 109)).toNat ?_ v2 m2 (Nat.le_refl _) v2b ⟨s.1, s.2.1, (hs.2.2.1.tr hf1).tr (s.2.2.1.sub (fun q hq => ⟨q, ?_, rfl, Nat.le_refl _, Nat.le_refl _⟩)), s.2.2.2, by rw [e109]; exact g1.2.2.2⟩
    · rw [e109]
      omega
    · simp only [gx_do, List.mem_cons, List.not_mem_nil, or_false] at hq
      rcases hq with rfl | rfl | rfl <;> simp [gx_odf]
theorem gl_o73f (h : bw_H1 xs (gx_XW gx_X)) {m0 : gx_M} {n : Nat} (hn : n ≤ 6) {what : Int} (hw : -1 ≤ what ∧ what ≤ 5) (hQ : ∀ v m', gx_I m' → gx_X m' → gx_fw gx_odf m0 m' → Q (some v) m') : ∀ (j k : Nat) (m : gx_M), n - k = j → k ≤ n → gx_I m → gx_X m → gx_fw gx_odf m0 m → m 86 32 = n → (∀ i : Nat, i < k → m 109 i = i) → gx_to xs w0 (d + 7) yp_m213 73 [(0, .inr 86), (2, .inl what), (3, .inl (k : Int))] [] m Q := by
  intro j
  induction j with
  | zero =>
    intro k m hj hk hI hX hf h32 hr
    refine gt213_73 hI (by omega) (fun _ => gc_done h hn hI hX h32 (fun v m' hv s => gt213_98 ?_)) (fun c => by omega) (fun c => by omega)
    have e109 := gx_do_row s.2.2.1 (by decide : (109 : Nat) ≠ 87) (by decide) (by decide)
    refine gl_o99f h hn hw hQ _ v m' (Nat.le_refl _) hv ⟨s.1, s.2.1, hf.tr (s.2.2.1.sub (fun q hq => ⟨q, ?_, rfl, Nat.le_refl _, Nat.le_refl _⟩)), s.2.2.2, fun a b ha hb e => ?_⟩
    · simp only [gx_do, List.mem_cons, List.not_mem_nil, or_false] at hq
      rcases hq with rfl | rfl | rfl <;> simp [gx_odf]
    · rw [e109, hr a (by omega), hr b (by omega)] at e
      omega
  | succ j ih =>
    intro k m hj hk hI hX hf h32 hr
    refine gt213_73 hI (by omega) (fun c => by omega) (fun c => by omega) (fun c => ?_)
    have w1 := gx_I_w hI 109 (z := (k : Int)) (v := (k : Int)) 0 5 0 5 (by decide +kernel) (by omega) (by omega) (by omega) (by omega)
    rw [Int.toNat_natCast] at w1 ⊢
    have := ih (k + 1) (gx_u m 109 k (k : Int)) (by omega) (by omega) w1 (gx_X_c.fw (mods := gx_rw) (gx_fw.rf.w ⟨_, List.mem_singleton.mpr rfl, rfl, Nat.zero_le _, by show k < 6; omega⟩) (by decide) hX) (hf.w ⟨(109, 0, 6), by simp [gx_odf], rfl, Nat.zero_le _, by show k < 6; omega⟩) (by rw [gx_u_off (by decide : (86 : Nat) ≠ 109)]; exact h32) (fun i hi => by
      rw [gx_u_row]
      unfold lf_up
      by_cases e : i = k
      · rw [if_pos e, e]
      · rw [if_neg e]; exact hr i (by omega))
    rw [show ((k + 1 : Nat) : Int) = (k : Int) + 1 by omega] at this
    exact this
theorem gc_orderf (h : bw_H1 xs (gx_XW gx_X)) (hI : gx_I m) (hX : gx_X m) {n0 what : Int} (hn0 : 1 ≤ n0 ∧ n0 ≤ 160) (hQ : ∀ v m', gx_I m' → gx_X m' → gx_fw gx_od m m' → m' 86 4 = 0 → Q (some v) m') : gx_to xs w0 (d + 7) yp_m213 21 [(0, .inr 86), (1, .inl n0), (2, .inl what)] [] m Q := by
  refine gu213_21 (gx_Kq (bp_facts h) rfl (by omega) (by decide +kernel) rfl ⟨⟨rfl, rfl⟩, ⟨rfl, hn0.1, hn0.2⟩, trivial⟩ hI hX (by decide +kernel) (fun r m1 he hI1 hX1 hf hqm => ?_))
  obtain ⟨v, rfl, v1, v2⟩ := gx_end_i he
  have hf1 : gx_fw gx_od m m1 := hf.sub (fun q hq => ⟨q, by
    simp only [List.mem_cons, List.not_mem_nil, or_false] at hq
    rcases hq with rfl | rfl | rfl | rfl | rfl | rfl | rfl | rfl | rfl | rfl | rfl <;> simp [gx_od], rfl, Nat.le_refl _, Nat.le_refl _⟩)
  have h4 : m1 86 4 = 0 := by have := hqm (86, 4, (0, 0, 0)) List.mem_cons_self; dsimp only at this; omega
  have hno1 : ∀ v, Q (some v) m1 := fun v => hQ v m1 hI1 hX1 hf1 h4
  have hb := gx_I_n hI1 86 32 0 16 (by decide +kernel)
  refine gt213_26 hI1 (fun _ _ => hno1 _) (fun _ c => gc_in (fun a b => gt213_54 (fun _ => ?_) (fun e => by omega)) (fun _ => gt213_54 (fun e => absurd rfl e) (fun _ => hno1 _))) (fun _ => hno1 _)
  refine gx_K (bp_100 h) rfl (Nat.zero_le _) (by decide +kernel) rfl ⟨⟨rfl, rfl⟩, ⟨rfl, rfl⟩, trivial⟩ hI1 hX1 (fun r m2 he hI2 hX2 hf2 => ?_)
  rw [gx_end_0 he]
  have e86 : m2 86 = m1 86 := hf2.row (fun q hq e => by rw [List.mem_singleton] at hq; subst hq; cases e)
  obtain ⟨n, hn⟩ : ∃ n : Nat, m1 86 32 = n := ⟨(m1 86 32).toNat, by omega⟩
  refine gt213_71 (gl_o73f h (n := n) (by omega) (by omega) (m0 := m1) (fun v m' a1 a2 a3 => hQ v m' a1 a2 (hf1.tr (a3.sub (fun q hq => ⟨q, List.mem_cons_of_mem _ hq, rfl, Nat.le_refl _, Nat.le_refl _⟩))) ((a3 86 4 (by decide)).trans h4)) n 0 m2 rfl (by omega) hI2 hX2 (hf2.sub (fun q hq => ⟨q, by rw [List.mem_singleton] at hq; subst hq; simp [gx_odf], rfl, Nat.le_refl _, Nat.le_refl _⟩)) (by rw [e86]; exact hn) (fun i hi => absurd hi (Nat.not_lt_zero _)))
theorem gk_forder (h : bw_H1 xs (gx_XW gx_X)) : bx_Kok yp_P xs bw_INV (gx_XW gx_X) bf_order := by
  refine gx_K_ofq (by decide +kernel) (by decide) rfl (fun M w0 v m hM hv hI hX _ => ?_)
  cases (Option.some.inj (hM.symm.trans rfl) : M = yp_m213)
  match v, hv with
  | x1 :: x2 :: r, hv =>
    refine gc_orderf (d := 1) h hI hX (by have : 1 ≤ x1 ∧ x1 ≤ 160 := hv.1.2; omega) (fun v m' hI' hX' hf h4 hb => ⟨⟨rfl, hb v rfl⟩, hI', hX', hf, fun q hq => ?_⟩)
    have hq' : q ∈ ([(86, 4, (0, 0, 0))] : bx_Q) := hq
    rw [List.mem_singleton] at hq'
    subst hq'
    exact ⟨Int.le_of_eq h4.symm, Int.le_of_eq h4⟩
end GOF
end
section
/-! the contracts by hand hold -/
theorem bw_all {xs : List Int32} (hL : xs.length ≤ 4096) : ∃ X : sx_W → Prop, (∀ w, ax_gw xs yq_W0 w → X w) ∧ bw_H xs X := by
  have hk : bx_keeps xs bw_PC (gx_XW gx_X) := by
    intro w w' h hX
    refine gx_X_c (gx_m w) (gx_m w') (fun q hq k h1 h2 => ?_) hX
    have hc : q.1 < 100000 := by
      have : ∀ q ∈ bw_PC, q.1 < 100000 := by decide
      exact this q hq
    have e := h q.1 k ⟨q, hq, rfl, h1, h2⟩
    rw [bx_rd_w hc, bx_rd_w hc] at e
    unfold gx_m fx_i
    rw [e]
  have h1 : bw_H1 xs (gx_XW gx_X) := ⟨hL, hk⟩
  refine ⟨gx_XW gx_X, fun w hw => ?_, hL, hk, ?_⟩
  · -- no clause stands at first
    have h0 : ∃ r, yq_W0[86]? = some (10, r) ∧ ax_nth r 13 = some (0, 0, 0) := ⟨_, rfl, rfl⟩
    obtain ⟨r, e1, e2⟩ := h0
    obtain ⟨x, g1, -, g3⟩ := ax_gw_at hw e1
    obtain ⟨v, v1, z, rfl, z1, z2⟩ := ax_seg_nth g3 e2
    have e : gx_m w 86 13 = 0 := by
      unfold gx_m
      rw [gx_rd_i (x := z) (by unfold gx_rd; rw [g1]; exact v1)]
      have z1' : 0 ≤ z.toInt := z1
      have z2' : z.toInt ≤ 0 := z2
      omega
    intro q hq hlt
    rw [e] at hlt
    omega
  · intro K hK
    simp only [bw_hand, List.mem_cons, List.not_mem_nil, or_false] at hK
    rcases hK with rfl | rfl | rfl | rfl | rfl | rfl | rfl | rfl | rfl | rfl
    · exact gk_linked gx_X_c
    · exact gk_share h1
    · exact gk_order h1
    · exact gk_sold h1
    · exact gk_law
    · exact gk_isBarred h1
    · exact gk_ring h1
    · exact gk_byLaw 10 (by decide)
    · exact gk_byLaw 999 (by decide)
    · exact gk_byLaw 99 (by decide)
end
