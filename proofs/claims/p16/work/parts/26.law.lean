/-! from the law's entry to its end -/
theorem yq_flat : yp_P.1.flatten = lw_tbl := by
  show List.flatten [k2_sels lw_privs, tables_1_1, tables_1_2, tables_1_3, tables_1_4, tables_1_5, tables_1_6, tables_1_7] = k2_sels lw_privs ++ tables_1
  unfold tables_1
  simp only [List.flatten_cons, List.flatten_nil, List.append_nil]
theorem yq_nestIn : ∀ w ∈ yp_nest, w ∈ lw_tbl := by
  intro w hw
  have h := yp_and yp_nestIn
  obtain ⟨i, hi⟩ := List.getElem?_of_mem hw
  have hl : yp_nest.length = yp_nestq.length := by simpa using h.2
  have hlt : i < yp_nest.length := (List.getElem?_eq_some_iff.mp hi).1
  have hz : (yp_nest.zip yp_nestq)[i]? = some (w, yp_nestq[i]'(by omega)) := by
    rw [List.getElem?_zip_eq_some]
    exact ⟨hi, List.getElem?_eq_getElem _⟩
  have h1 := List.all_eq_true.mp h.1 _ (List.mem_of_getElem? hz)
  rw [decide_eq_true_eq] at h1
  rw [← yq_flat]
  dsimp only at h1
  generalize yp_nestq[i]'(by omega) = q at h1
  cases hc : yp_P.1[q / 1000]? with
  | none => rw [hc] at h1; cases h1
  | some ch =>
    rw [hc] at h1
    exact List.mem_flatten.mpr ⟨ch, List.mem_of_getElem? hc, List.mem_of_getElem? h1⟩
theorem yq_D (s : State) (args : Array Value) (hts : ∀ w ∈ lw_tbl, w.before args s = true) : ∃ D : va_G, ∀ (c : Nat) (q : vw_C), yp_P.2.1[c]? = some q → u_Kn s q.1 q.2.1 q.2.2 (D.1 c) (D.2 c) := by
  have h : ∀ c : Nat, ∃ (cC : ClassId) (iS : Nat → Nat), ∀ q : vw_C, yp_P.2.1[c]? = some q → u_Kn s q.1 q.2.1 q.2.2 cC iS := by
    intro c
    cases hq : yp_P.2.1[c]? with
    | none => exact ⟨0, fun _ => 0, fun q h => by cases h⟩
    | some q0 =>
      obtain ⟨n, hn, -⟩ := yp_made c q0 hq
      have hl := (yp_kind c q0 hq).1
      obtain ⟨cC, iS, hk⟩ := u_known (ws := lw_tbl) (C := q0.1) (T := q0.2.1) (N := q0.2.2) (n := n) hts (fun w hw => by
        obtain ⟨j, hj, rfl⟩ := List.mem_map.mp hw
        rw [← yq_flat]
        exact (hl j (List.mem_range.mp hj)).1) (hts _ (by rw [← yq_flat]; exact hn))
      exact ⟨cC, iS, fun q h => by cases h; exact hk⟩
  exact ⟨(fun c => Classical.choose (h c), fun c => Classical.choose (Classical.choose_spec (h c))), fun c q hq => Classical.choose_spec (Classical.choose_spec (h c)) q hq⟩
theorem yq_arr {s : State} {args : Array Value} {ty : FieldType} (h : (Cond.arrayClass ty).before args s = true) : ∃ c : ClassId, ArrOfT s c ty ∧ s.vm.findClass ("[" ++ ty.toString) = some c := by
  obtain ⟨c, k, comp, h1, h2, h3⟩ := Cond.arrayClass_spec h
  exact ⟨c, fun n z => ⟨fun k h => (by cases h), k, h2, comp, h3⟩, h1⟩
theorem yq_list {L : Nat} (f : Nat → Int32) : ((List.range L).map f).length = L ∧ ∀ j, j < L → ((List.range L).map f).getD j 0 = f j := by
  refine ⟨by simp, fun j hj => ?_⟩
  rw [List.getD_eq_getElem?_getD, List.getElem?_map, List.getElem?_range hj]
  rfl

