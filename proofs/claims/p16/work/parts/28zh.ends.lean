/-! contracts by hand that say what lies at places at their ends; roads from behind the first questions on -/
section GXQ
variable {xs : List Int32} {gX : gx_M → Prop} {w0 : sx_W}
def gx_qB (eq : bx_Q) : Bool := eq.all (fun q => decide (q.2.2.1 = 0) && gx_mB [(q.1, q.2.1, q.2.1 + 1)])
def gx_qm (eq : bx_Q) (m : gx_M) : Prop := ∀ q ∈ eq, q.2.2.2.1 ≤ m q.1 q.2.1 ∧ m q.1 q.2.1 ≤ q.2.2.2.2
theorem gx_q_rd {q : Nat × Nat × ax_V} {w : sx_W} (hB : gx_mB [(q.1, q.2.1, q.2.1 + 1)] = true) (i1 : bx_in fx_S w) : bx_rd xs w q.1 q.2.1 = some (.int (fx_i w q.1 q.2.1)) := by
  obtain ⟨-, hnl⟩ := gx_mB_ok hB
  obtain ⟨t, r, a, g1, g2, rfl⟩ := hnl _ (List.mem_singleton.mpr rfl) q.2.1 (Nat.le_refl _) (Nat.lt_succ_self _)
  obtain ⟨vs, j1, j2, j3, -⟩ := fx_int i1 g1 g2
  have hc : q.1 < 100000 := by
    by_cases h : q.1 < 100000
    · exact h
    · have e1 : w.length ≤ q.1 := by rw [i1.1]; exact Nat.le_trans (by decide +kernel) (by omega : 100000 ≤ q.1)
      rw [List.getElem?_eq_none e1] at j1
      cases j1
  rw [bx_rd_w hc, j1]
  exact j3
theorem gx_q_of {eq : bx_Q} {w : sx_W} (hB : gx_qB eq = true) (i1 : bx_in fx_S w) (h : gx_qm eq (gx_m w)) : bx_cq xs eq w := by
  intro q hq v hv
  have hb := List.all_eq_true.mp hB q hq
  rw [Bool.and_eq_true, decide_eq_true_eq] at hb
  rw [gx_q_rd hb.2 i1] at hv
  cases hv
  obtain ⟨h1, h2⟩ := h q hq
  obtain ⟨c, k, t, lo, hi⟩ := q
  have h0 : t = 0 := hb.1
  subst h0
  exact ⟨fun e => absurd e (show ¬ ((0 : Nat) = 4) by decide), _, rfl, h1, h2⟩
theorem gx_q_to {eq : bx_Q} {w : sx_W} (hB : gx_qB eq = true) (i1 : bx_in fx_S w) (h : bx_cq xs eq w) : gx_qm eq (gx_m w) := by
  intro q hq
  have hb := List.all_eq_true.mp hB q hq
  rw [Bool.and_eq_true, decide_eq_true_eq] at hb
  obtain ⟨-, hg⟩ := h q hq _ (gx_q_rd hb.2 i1)
  obtain ⟨c, k, t, lo, hi⟩ := q
  have h0 : t = 0 := hb.1
  subst h0
  obtain ⟨x, e, h1, h2⟩ := hg
  cases e
  exact ⟨h1, h2⟩
theorem gx_Kq {mi pc dk d : Nat} {pre : ax_L} {e : Option ax_V} {npc : Nat} {el : ax_L} {eq : bx_Q} {mods : bx_M} {lm : List Nat} {ctr : Option (Nat × Bool)} {M : sx_M} {L : gx_L} {m : gx_M} {Q : gx_Q} (hK : bx_Kok yp_P xs bw_INV (gx_XW gX) (mi, pc, pre, [], [(some e, npc, el, eq)], mods, lm, dk, ctr)) (hM : yp_P.2.2.2.1[mi]? = some M) (hd : dk ≤ d) (hmods : gx_mB mods = true) (he : (match e with | none => true | some a => decide (a.1 = 0)) = true) (hpre : gx_pre pre L) (hI : gx_I m) (hX : gX m)
    (hB : gx_qB eq = true) (hq : ∀ r m', gx_end e r → gx_I m' → gX m' → gx_fw mods m m' → gx_qm eq m' → Q r m') : gx_to xs w0 d M pc L [] m Q := by
  intro lv sv w hl hs hw hm
  obtain ⟨hst, hnl⟩ := gx_mB_ok hmods
  have := gx_hs0 hs
  subst this
  subst hm
  obtain ⟨e1, he1, lv', w', h1, h2, h3, h4⟩ := hK M hM d hd lv w (gx_pre_ok hpre hl) ⟨gx_in_to hw.1 hI, hX⟩ (fun q hq => by cases hq)
  rw [List.mem_singleton] at he1
  subst he1
  obtain ⟨rv, h5, h6⟩ := h4
  obtain ⟨i1, i2⟩ := gx_in_of h1.1
  have hf := gx_fw_of hw.1 i1 hst h3
  have hsame : gx_same w w' := by
    intro c k
    by_cases hmod : ∃ q ∈ mods, q.1 = c ∧ q.2.1 ≤ k ∧ k < q.2.2
    · obtain ⟨q, hm, rfl, hk1, hk2⟩ := hmod
      obtain ⟨t, r, a, g1, g2, rfl⟩ := hnl q hm k hk1 hk2
      obtain ⟨vs, j1, j2, j3, -⟩ := fx_int hw.1 g1 g2
      obtain ⟨vs', j1', j2', j3', -⟩ := fx_int i1 g1 g2
      exact .inr ⟨_, _, by unfold gx_rd; rw [j1]; exact j3, by unfold gx_rd; rw [j1']; exact j3'⟩
    · left
      rcases h3 with h3 | h3
      · rw [hst] at h3; cases h3
      · have hc : c < 100000 ∨ ¬ c < 100000 := by omega
        rcases hc with hc | hc
        · have := h3 c k (fun q hm hx => hmod ⟨q, hm, hx⟩)
          rw [bx_rd_w hc, bx_rd_w hc] at this
          exact this
        · rw [(gx_m_far hw.1 hc).1, (gx_m_far i1 hc).1]
  have hgo : ∃ r : Option Int, gx_ro r rv ∧ gx_end e r := by
    unfold bx_co at h5
    split at h5
    · exact ⟨none, trivial, trivial⟩
    · rename_i a v
      obtain ⟨t, lo, hi⟩ := a
      obtain ⟨n4, hg⟩ := h5
      have h0 : t = 0 := of_decide_eq_true he
      subst h0
      obtain ⟨x, rfl, g1, g2⟩ := hg
      exact ⟨some x.toInt, ⟨x, rfl, rfl⟩, rfl, g1, g2⟩
    · exact h5.elim
  obtain ⟨r, r1, r2⟩ := hgo
  exact ⟨(rv, w'), r, h6, ⟨i1, hw.2.tr hsame⟩, r1, hq r _ r2 i2 h1.2 hf (gx_q_to hB i1 h2)⟩

theorem gx_K_ofq {mi pc dk : Nat} {pre : ax_L} {e : Option ax_V} {npc : Nat} {el : ax_L} {eq : bx_Q} {mods : bx_M} {lm : List Nat} {ctr : Option (Nat × Bool)} (hB : gx_qB eq = true) (hk : gx_kinds pre = true) (he : (match e with | none => true | some a => decide (a.1 = 0)) = true)
    (h : ∀ (M : sx_M) (w0 : sx_W) (v : List Int) (m : gx_M), yp_P.2.2.2.1[mi]? = some M → gx_pre0 pre v → gx_I m → gX m → (∀ c k, -2147483648 ≤ m c k ∧ m c k ≤ 2147483647) → gx_to xs w0 dk M pc (gx_L0 pre v) [] m (fun r m' => gx_rb r → gx_end e r ∧ gx_I m' ∧ gX m' ∧ gx_fw mods m m' ∧ gx_qm eq m')) : bx_Kok yp_P xs bw_INV (gx_XW gX) (mi, pc, pre, [], [(some e, npc, el, eq)], mods, lm, dk, ctr) := by
  intro M hM d0 hd lv w hcl hw hq
  obtain ⟨v, h1, h2⟩ := gx_pre0_ok hk hcl
  obtain ⟨i1, i2⟩ := gx_in_of hw.1
  obtain ⟨o, r, g1, g2, g3, g0⟩ := gx_to_up hd (h M w v (gx_m w) hM h1 i2 hw.2 (gx_m_bd w)) lv [] w h2 trivial ⟨i1, gx_same.rf⟩ rfl
  obtain ⟨g4, g5, g6, g7, g8⟩ := g0 (gx_ro_rb g3)
  refine ⟨(some e, npc, el, eq), List.mem_singleton.mpr rfl, lv, o.2, ⟨gx_in_to g2.1 g5, g6⟩, gx_q_of hB g2.1 g8, Or.inr (fun c k hm => ?_), ?_⟩
  · have hc : c < 100000 ∨ ¬ c < 100000 := by omega
    rcases hc with hc | hc
    · rw [bx_rd_w hc, bx_rd_w hc]
      exact g2.2.eq (g7 c k hm)
    · unfold bx_rd
      split
      · rfl
      · split
        · rfl
        · have e1 : w.length ≤ c := by rw [i1.1]; exact Nat.le_trans (by decide +kernel) (by omega : 100000 ≤ c)
          have e2 : o.2.length ≤ c := by rw [g2.1.1]; exact Nat.le_trans (by decide +kernel) (by omega : 100000 ≤ c)
          rw [List.getElem?_eq_none e1, List.getElem?_eq_none e2]
  · refine ⟨o.1, ?_, g1⟩
    unfold gx_end at g4
    cases e with
    | none =>
      cases r with
      | none =>
        cases ho : o.1 with
        | none => trivial
        | some u => rw [ho] at g3; exact g3.elim
      | some x => exact g4.elim
    | some a =>
      cases r with
      | none => exact g4.elim
      | some x =>
        obtain ⟨t, lo, hi⟩ := a
        obtain ⟨e0, k1, k2⟩ := g4
        dsimp only at e0 k1 k2
        subst e0
        cases ho : o.1 with
        | none => rw [ho] at g3; exact g3.elim
        | some u =>
          rw [ho] at g3
          obtain ⟨z, rfl, rfl⟩ := g3
          exact ⟨(fun h => by cases h), z, rfl, k1, k2⟩

end GXQ
/-- law from 21 on -/
theorem gu168_21 {xs : List Int32} {w0 : sx_W} {d : Nat} {Q : gx_Q} {m : gx_M} {x1 : Int}
    (h1 : gx_to xs w0 d yp_m169 0 [(0, .inr 86)] [] (gx_u (gx_u (gx_u (gx_u m 86 5 0) 86 6 x1) 86 10 0) 86 12 0) (fun r m' => gx_to xs w0 (d + 1) yp_m168 45 [(0, .inr 86)] (gx_rs r ++ []) m' Q)) : gx_to xs w0 (d + 1) yp_m168 21 [(0, .inr 86), (1, .inl x1)] [] m Q := by
  refine gx_blk (C := True) (npc := 42) (L' := [(0, .inr 86), (1, .inl x1)]) (st' := [.inr 86]) (m' := (gx_u (gx_u (gx_u (gx_u m 86 5 0) 86 6 x1) 86 10 0) 86 12 0)) [((21, .aload_n 0, 1, 0, 0, 0, 0), (0, 0, 0)), ((22, .iconst 0, 1, 0, 0, 0, 0), (0, 0, 0)), ((23, .putfield 132, 3, 10, 5, 5118, 0), (0, 86, 0)), ((26, .aload_n 0, 1, 0, 0, 0, 0), (0, 0, 0)), ((27, .iload_n 1, 1, 0, 0, 0, 0), (0, 0, 0)), ((28, .putfield 135, 3, 10, 6, 5119, 0), (0, 86, 0)), ((31, .aload_n 0, 1, 0, 0, 0, 0), (0, 0, 0)), ((32, .iconst 0, 1, 0, 0, 0, 0), (0, 0, 0)), ((33, .putfield 155, 3, 10, 10, 5123, 0), (0, 86, 0)), ((36, .aload_n 0, 1, 0, 0, 0, 0), (0, 0, 0)), ((37, .iconst 0, 1, 0, 0, 0, 0), (0, 0, 0)), ((38, .putfield 213, 3, 10, 12, 5125, 0), (0, 86, 0)), ((41, .aload_n 0, 1, 0, 0, 0, 0), (0, 0, 0))] (by decide +kernel) rfl trivial ?_
  exact gx_callv (E := (42, .invokevirtual 219, 3, 169, 0, 6050, 0)) (M' := yp_m169) (c := 86) [] [] rfl (by decide +kernel) rfl ⟨rfl, rfl⟩ rfl rfl (Nat.le_of_ble_eq_true rfl) (Nat.le_of_ble_eq_true rfl) (by decide +kernel) (gx_to_mono h1 (fun r m' h' => gx_to_pick [0] h'))

/-- sold from 20 on -/
theorem gu242_20 {xs : List Int32} {w0 : sx_W} {d : Nat} {Q : gx_Q} {m : gx_M} {x1 x2 x3 : Int} (r_x1 : 1 ≤ x1 ∧ x1 ≤ 6)
    (h1 : gx_to xs w0 d yp_m243 0 [(0, .inr 86), (1, .inl x1)] [] (gx_u m 86 4 0) (fun r m' => gx_to xs w0 (d + 1) yp_m242 30 [(0, .inr 86), (1, .inl x1), (2, .inl x2), (3, .inl x3)] (gx_rs r ++ []) m' Q)) : gx_to xs w0 (d + 1) yp_m242 20 [(0, .inr 86), (1, .inl x1), (2, .inl x2), (3, .inl x3)] [] m Q := by
  refine gx_blk (C := True) (npc := 27) (L' := [(0, .inr 86), (1, .inl x1), (2, .inl x2), (3, .inl x3)]) (st' := [.inl x1, .inr 86]) (m' := (gx_u m 86 4 0)) [((20, .aload_n 0, 1, 0, 0, 0, 0), (0, 0, 0)), ((21, .iconst 0, 1, 0, 0, 0, 0), (0, 0, 0)), ((22, .putfield 124, 3, 10, 4, 5117, 0), (0, 86, 0)), ((25, .aload_n 0, 1, 0, 0, 0, 0), (0, 0, 0)), ((26, .iload_n 1, 1, 0, 0, 0, 0), (0, 0, 0))] (by decide +kernel) rfl trivial ?_
  exact gx_callv (E := (27, .invokevirtual 361, 3, 243, 0, 7099, 0)) (M' := yp_m243) (c := 86) [.inl x1] [] rfl (by decide +kernel) rfl ⟨rfl, rfl⟩ rfl rfl (Nat.le_of_ble_eq_true rfl) (Nat.le_of_ble_eq_true rfl) (by decide +kernel) (gx_to_mono h1 (fun r m' h' => gx_to_pick [0, 1, 2, 3] h'))

/-- inOrder from 21 on -/
theorem gu213_21 {xs : List Int32} {w0 : sx_W} {d : Nat} {Q : gx_Q} {m : gx_M} {x1 x2 : Int}
    (h1 : gx_to xs w0 d yp_m191 0 [(0, .inr 86), (1, .inl x1)] [] m (fun r m' => gx_to xs w0 (d + 1) yp_m213 26 [(0, .inr 86), (2, .inl x2)] (gx_rs r ++ []) m' Q)) : gx_to xs w0 (d + 1) yp_m213 21 [(0, .inr 86), (1, .inl x1), (2, .inl x2)] [] m Q := by
  refine gx_blk (C := True) (npc := 23) (L' := [(0, .inr 86), (1, .inl x1), (2, .inl x2)]) (st' := [.inl x1, .inr 86]) (m' := m) [((21, .aload_n 0, 1, 0, 0, 0, 0), (0, 0, 0)), ((22, .iload_n 1, 1, 0, 0, 0, 0), (0, 0, 0))] (by decide +kernel) rfl trivial ?_
  exact gx_callv (E := (23, .invokevirtual 284, 3, 191, 0, 6136, 0)) (M' := yp_m191) (c := 86) [.inl x1] [] rfl (by decide +kernel) rfl ⟨rfl, rfl⟩ rfl rfl (Nat.le_of_ble_eq_true rfl) (Nat.le_of_ble_eq_true rfl) (by decide +kernel) (gx_to_mono h1 (fun r m' h' => gx_to_pick [0, 2] h'))
