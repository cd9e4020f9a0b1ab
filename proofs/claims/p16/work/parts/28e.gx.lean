/-! BY HAND, 6: switches by a table; what 32 bits say of a name -/
section GXD
variable {xs : List Int32} {w0 : sx_W} {d : Nat} {M : sx_M} {pc : Nat} {L : gx_L} {st : List gx_V} {m : gx_M} {Q : gx_Q}
noncomputable def gx_isTsw (M : sx_M) (pc dt : Nat) (lo hi : Int) (ts : List Nat) : Bool := match sx_row M pc with
  | some (_, .tableswitch d lo' hi' offs, _) => decide (lo' = lo) && decide (hi' = hi) && decide ((pc : Int) + d = (dt : Int)) && decide (offs.toList.map (fun o => (pc : Int) + o) = ts.map (fun (t : Nat) => (t : Int))) && decide (lo + ts.length = hi + 1)
  | _ => false
noncomputable def gx_sw (xs : List Int32) (w0 : sx_W) (d : Nat) (M : sx_M) (L : gx_L) (st : List gx_V) (m : gx_M) (Q : gx_Q) (x : Int) : List Nat → Int → Prop
  | [], _ => True
  | t :: ts, v => (x = v → gx_to xs w0 d M t L st m Q) ∧ gx_sw xs w0 d M L st m Q x ts (v + 1)
theorem gx_sw_n {x v : Int} : gx_sw xs w0 d M L st m Q x [] v := trivial
theorem gx_sw_c {x v : Int} {t : Nat} {ts : List Nat} (h : x = v → gx_to xs w0 d M t L st m Q) (h' : gx_sw xs w0 d M L st m Q x ts (v + 1)) : gx_sw xs w0 d M L st m Q x (t :: ts) v := ⟨h, h'⟩
theorem gx_sw_at {x : Int} : ∀ (ts : List Nat) (v : Int) (j t : Nat), gx_sw xs w0 d M L st m Q x ts v → ts[j]? = some t → x = v + j → gx_to xs w0 d M t L st m Q
  | [], v, j, t, _, h, _ => by cases h
  | t0 :: ts, v, 0, t, h, hj, hx => by
    cases hj
    exact h.1 (by omega)
  | t0 :: ts, v, j + 1, t, h, hj, hx => gx_sw_at ts (v + 1) j t h.2 hj (by omega)
theorem gx_tsw {x : Int} (dt : Nat) (lo hi : Int) (ts : List Nat) (hE : gx_isTsw M pc dt lo hi ts = true) (hd : x < lo ∨ hi < x → gx_to xs w0 d M dt L st m Q) (h : gx_sw xs w0 d M L st m Q x ts lo) : gx_to xs w0 d M pc L (.inl x :: st) m Q := by
  unfold gx_isTsw at hE
  split at hE
  · rename_i p dd lo' hi' offs rest hrow
    obtain ⟨len, a, k, q, z⟩ := rest
    simp only [Bool.and_eq_true, decide_eq_true_eq] at hE
    obtain ⟨⟨⟨⟨rfl, rfl⟩, hdt⟩, hts⟩, hlen⟩ := hE
    have hp : p = pc := sx_row_pc hrow
    subst hp
    intro lv sv w hl hs hw hm
    obtain ⟨u, s1, rfl, g1, g2⟩ := gx_hs1 hs
    obtain ⟨z', rfl, rfl⟩ := gx_g_int g1
    by_cases hc : z'.toInt < lo' ∨ hi' < z'.toInt
    · obtain ⟨o, ro, k1, k2, k3, k4⟩ := hd hc lv s1 w hl g2 hw hm
      refine ⟨o, ro, sx_rn_step hrow rfl rfl (r := (dt, lv, s1, w, 0, 0)) ?_ ⟨rfl, rfl⟩ k1, k2, k3, k4⟩
      dsimp only [sx_step]
      unfold sx_tsw
      dsimp only
      rw [if_pos hc]
      unfold sx_jmp
      rw [if_pos (by omega), hdt, Int.toNat_natCast]
      rfl
    · have hj : (z'.toInt - lo').toNat < ts.length := by omega
      have ht := List.getElem?_eq_getElem hj
      have hr := gx_sw_at ts lo' (z'.toInt - lo').toNat _ h ht (by omega)
      obtain ⟨o, ro, k1, k2, k3, k4⟩ := hr lv s1 w hl g2 hw hm
      have ho : (offs.toList.map (fun o => (p : Int) + o))[(z'.toInt - lo').toNat]? = some ((ts[(z'.toInt - lo').toNat] : Nat) : Int) := by
        rw [hts, List.getElem?_map, ht]
        rfl
      rw [List.getElem?_map] at ho
      cases hof : offs.toList[(z'.toInt - lo').toNat]? with
      | none => rw [hof] at ho; cases ho
      | some off =>
        rw [hof] at ho
        have ho' : (p : Int) + off = ((ts[(z'.toInt - lo').toNat] : Nat) : Int) := by simpa using ho
        rw [Array.getElem?_toList] at hof
        refine ⟨o, ro, sx_rn_step hrow rfl rfl (r := (ts[(z'.toInt - lo').toNat], lv, s1, w, 0, 0)) ?_ ⟨rfl, rfl⟩ k1, k2, k3, k4⟩
        dsimp only [sx_step]
        unfold sx_tsw
        dsimp only
        rw [if_neg hc, hof]
        dsimp only
        unfold sx_jmp
        rw [if_pos (by omega), ho', Int.toNat_natCast]
        rfl
  · cases hE
theorem gx_to_int {i : Nat} {x : Int} (hm : (i, .inl x) ∈ L) (h : -2147483648 ≤ x ∧ x ≤ 2147483647 → gx_to xs w0 d M pc L st m Q) : gx_to xs w0 d M pc L st m Q := by
  intro lv sv w hl hs hw hmm
  obtain ⟨u, -, z, -, rfl⟩ := hl _ hm
  exact h ⟨ax_lo z, ax_hi z⟩ lv sv w hl hs hw hmm
theorem gx_to_s {x : Int} (h : -2147483648 ≤ x ∧ x ≤ 2147483647 → gx_to xs w0 d M pc L (.inl x :: st) m Q) : gx_to xs w0 d M pc L (.inl x :: st) m Q := by
  intro lv sv w hl hs hw hmm
  obtain ⟨u, s1, rfl, g1, g2⟩ := gx_hs1 hs
  obtain ⟨z, rfl, rfl⟩ := gx_g_int g1
  exact h ⟨ax_lo z, ax_hi z⟩ lv _ w hl hs hw hmm
theorem gx_to_m (h : (∀ c k, -2147483648 ≤ m c k ∧ m c k ≤ 2147483647) → gx_to xs w0 d M pc L st m Q) : gx_to xs w0 d M pc L st m Q := by
  intro lv sv w hl hs hw hmm
  exact h (fun c k => hmm ▸ gx_m_bd w c k) lv sv w hl hs hw hmm
end GXD
/-! bits -/
theorem gx_oi {x : Int} (h1 : -2147483648 ≤ x) (h2 : x ≤ 2147483647) : (Int32.ofInt x).toInt = x := by
  rw [Int32.toInt_ofInt]
  exact ax_bm h1 h2
theorem gx_and_bd (x y : Int) (h : 0 ≤ y ∧ y ≤ 2147483647) : 0 ≤ gx_and x y ∧ gx_and x y ≤ y := by
  have := ax_and_bd (Int32.ofInt x) (Int32.ofInt y) (by rw [gx_oi (by omega) h.2]; exact h.1)
  rw [gx_oi (by omega) h.2] at this
  exact this
def gx_has (s k : Int) : Prop := gx_and (gx_shr s k) 1 = 1
