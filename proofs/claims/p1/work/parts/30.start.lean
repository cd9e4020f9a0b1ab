/-! from the law's entry to its end -/
theorem yq_flat : yp_P.1.flatten = lw_tbl := by
  show List.flatten [k2_sels lw_privs, tables_1_1, tables_1_2, tables_1_3, tables_1_4, tables_1_5, tables_1_6, tables_1_7] = k2_sels lw_privs ++ tables_1
  unfold tables_1
  simp only [List.flatten_cons, List.flatten_nil, List.append_nil]
theorem yq_nestIn : ∀ w ∈ yp_nest, w ∈ lw_tbl := by
  intro w hw
  have h := yp_and yp_nestIn
  obtain ⟨i, hi⟩ := List.getElem?_of_mem hw
  have hl : yp_nest.length = yp_nestq.length := by simpa using h.2
  have hlt : i < yp_nest.length := (List.getElem?_eq_some_iff.mp hi).1
  have hz : (yp_nest.zip yp_nestq)[i]? = some (w, yp_nestq[i]'(by omega)) := by
    rw [List.getElem?_zip_eq_some]
    exact ⟨hi, List.getElem?_eq_getElem _⟩
  have h1 := List.all_eq_true.mp h.1 _ (List.mem_of_getElem? hz)
  rw [decide_eq_true_eq] at h1
  rw [← yq_flat]
  dsimp only at h1
  generalize yp_nestq[i]'(by omega) = q at h1
  cases hc : yp_P.1[q / 1000]? with
  | none => rw [hc] at h1; cases h1
  | some ch =>
    rw [hc] at h1
    exact List.mem_flatten.mpr ⟨ch, List.mem_of_getElem? hc, List.mem_of_getElem? h1⟩
theorem yq_Tok {l : Launch} {D : va_G} {cA : Nat → ClassId} {N0 b : Nat} {xs : List Int32} : ax_Tok yp_P yq_T l D cA N0 b xs := by
  have h0 : ax_Tok yp_P yq_T0 l D cA N0 b xs := ax_Tok_nil
  have h1 : ax_Tok yp_P yq_T1 l D cA N0 b xs := ax_Tok_add yp_Pok h0 (M := yp_m0) rfl (by decide) yq_r0
  have h2 : ax_Tok yp_P yq_T2 l D cA N0 b xs := ax_Tok_add yp_Pok h1 (M := yp_m160) rfl (by decide) yq_r1
  have h3 : ax_Tok yp_P yq_T3 l D cA N0 b xs := ax_Tok_add yp_Pok h2 (M := yp_m129) rfl (by decide) yq_r2
  have h4 : ax_Tok yp_P yq_T4 l D cA N0 b xs := ax_Tok_add yp_Pok h3 (M := yp_m254) rfl (by decide) yq_r3
  have h5 : ax_Tok yp_P yq_T5 l D cA N0 b xs := ax_Tok_add yp_Pok h4 (M := yp_m256) rfl (by decide) yq_r4
  have h6 : ax_Tok yp_P yq_T6 l D cA N0 b xs := ax_Tok_add yp_Pok h5 (M := yp_m135) rfl (by decide) yq_r5
  have h7 : ax_Tok yp_P yq_T7 l D cA N0 b xs := ax_Tok_add yp_Pok h6 (M := yp_m136) rfl (by decide) yq_r6
  have h8 : ax_Tok yp_P yq_T8 l D cA N0 b xs := ax_Tok_add yp_Pok h7 (M := yp_m135) rfl (by decide) yq_r7
  have h9 : ax_Tok yp_P yq_T9 l D cA N0 b xs := ax_Tok_add yp_Pok h8 (M := yp_m136) rfl (by decide) yq_r8
  have h10 : ax_Tok yp_P yq_T10 l D cA N0 b xs := ax_Tok_add yp_Pok h9 (M := yp_m259) rfl (by decide) yq_r9
  have h11 : ax_Tok yp_P yq_T11 l D cA N0 b xs := ax_Tok_add yp_Pok h10 (M := yp_m212) rfl (by decide) yq_r10
  have h12 : ax_Tok yp_P yq_T12 l D cA N0 b xs := ax_Tok_add yp_Pok h11 (M := yp_m212) rfl (by decide) yq_r11
  have h13 : ax_Tok yp_P yq_T l D cA N0 b xs := ax_Tok_add yp_Pok h12 (M := yp_m212) rfl (by decide) yq_r12
  exact h13
theorem yq_D (s : State) (args : Array Value) (hts : ∀ w ∈ lw_tbl, w.before args s = true) : ∃ D : va_G, ∀ (c : Nat) (q : vw_C), yp_P.2.1[c]? = some q → u_Kn s q.1 q.2.1 q.2.2 (D.1 c) (D.2 c) := by
  have h : ∀ c : Nat, ∃ (cC : ClassId) (iS : Nat → Nat), ∀ q : vw_C, yp_P.2.1[c]? = some q → u_Kn s q.1 q.2.1 q.2.2 cC iS := by
    intro c
    cases hq : yp_P.2.1[c]? with
    | none => exact ⟨0, fun _ => 0, fun q h => by cases h⟩
    | some q0 =>
      obtain ⟨n, hn, -⟩ := yp_made c q0 hq
      have hl := (yp_kind c q0 hq).1
      obtain ⟨cC, iS, hk⟩ := u_known (ws := lw_tbl) (C := q0.1) (T := q0.2.1) (N := q0.2.2) (n := n) hts (fun w hw => by
        obtain ⟨j, hj, rfl⟩ := List.mem_map.mp hw
        rw [← yq_flat]
        exact (hl j (List.mem_range.mp hj)).1) (hts _ (by rw [← yq_flat]; exact hn))
      exact ⟨cC, iS, fun q h => by cases h; exact hk⟩
  exact ⟨(fun c => Classical.choose (h c), fun c => Classical.choose (Classical.choose_spec (h c))), fun c q hq => Classical.choose_spec (Classical.choose_spec (h c)) q hq⟩
theorem yq_arr {s : State} {args : Array Value} {ty : FieldType} (h : (Cond.arrayClass ty).before args s = true) : ∃ c : ClassId, ArrOfT s c ty ∧ s.vm.findClass ("[" ++ ty.toString) = some c := by
  obtain ⟨c, k, comp, h1, h2, h3⟩ := Cond.arrayClass_spec h
  exact ⟨c, fun n z => ⟨fun k h => (by cases h), k, h2, comp, h3⟩, h1⟩
theorem yq_true {xs : List Int32} {o : Option (List ax_O)} (h : ax_true o = true) : ∃ os, o = some os ∧ ∀ q ∈ os, ∀ r w, ax_gO xs q r w → r = some (.int 1) := by
  unfold ax_true at h
  split at h
  · cases h
  · rename_i os
    refine ⟨os, rfl, fun q hq r w hg => ?_⟩
    have h1 := List.all_eq_true.mp h q hq
    rw [decide_eq_true_eq] at h1
    have h2 := hg.2.1
    rw [h1] at h2
    cases r with
    | none => exact h2.elim
    | some v =>
      obtain ⟨x, rfl, g1, g2⟩ := h2
      have : x = 1 := Int32.toInt_inj.mp (show x.toInt = 1 by dsimp only at g1 g2; omega)
      rw [this]
theorem yq_list {L : Nat} (f : Nat → Int32) : ((List.range L).map f).length = L ∧ ∀ j, j < L → ((List.range L).map f).getD j 0 = f j := by
  refine ⟨by simp, fun j hj => ?_⟩
  rw [List.getD_eq_getElem?_getD, List.getElem?_map, List.getElem?_range hj]
  rfl
