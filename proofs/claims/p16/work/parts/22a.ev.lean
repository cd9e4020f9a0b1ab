/-! THE SIMPLE MACHINE'S RUNS AS A FUNCTION: what a method comes to from a place on, where nothing is made -/
def sx_isRet (I : Instr) : Bool := match I with
  | .return_ => true
  | .ireturn => true
  | .lreturn => true
  | _ => false
abbrev sx_O : Type := Option Value × sx_W
def sx_callOk (P : sx_P) (M' : sx_M) (w : sx_W) (st : List Value) : Bool := decide (M'.2.2.2.2.1 ≤ st.length) && decide (sx_csum (st.drop M'.2.2.2.2.1) ≤ 8) && decide (sx_csum (st.take M'.2.2.2.2.1) ≤ M'.2.2.1) && sx_recv P M' w (st.take M'.2.2.2.2.1).reverse
noncomputable def sx_row (M : sx_M) (pc : Nat) : Option sx_E := sx_fnd pc M.2.2.2.2.2.2.2
noncomputable def sx_ev1 (P : sx_P) (xs : List Int32) (f : Nat → sx_M → Nat → sx_L → List Value → sx_W → Option sx_O) (d : Nat) (M : sx_M) (pc : Nat) (lv : sx_L) (st : List Value) (w : sx_W) : Option sx_O := match sx_row M pc with
  | none => none
  | some E => if sx_isRet E.2.1 = true then (sx_retOk M.2.2.2.1 E.2.1 st).map (fun r => (r, w))
    else if sx_isCall E = true then (match P.2.2.2.1[E.2.2.2.1]?, d with
      | some M', d' + 1 => if sx_callOk P M' w st = true then (match f d' M' 0 (lv_args 0 (st.take M'.2.2.2.2.1).reverse) [] w with
        | some o => f (d' + 1) M (pc + 3) lv (o.1.toList ++ st.drop M'.2.2.2.2.1) o.2
        | none => none) else none
      | _, _ => none)
    else (match sx_step P xs M.2.2.1 E lv st w with
      | some r => if r.2.2.2.2.1 = 0 ∧ r.2.2.2.2.2 = 0 then f d M r.1 r.2.1 r.2.2.1 r.2.2.2.1 else none
      | none => none)
noncomputable def sx_ev (P : sx_P) (xs : List Int32) : Nat → Nat → sx_M → Nat → sx_L → List Value → sx_W → Option sx_O
  | 0 => fun _ _ _ _ _ _ => none
  | n + 1 => sx_ev1 P xs (sx_ev P xs n)
section SXV
variable {P : sx_P} {l : Launch} {D : va_G} {cA : Nat → ClassId} {N0 b : Nat} {xs : List Int32}
theorem sx_ev_ok (hP : sx_Pok P) : ∀ (n d : Nat) (M : sx_M) (pc : Nat) (lv : sx_L) (st : List Value) (w : sx_W) (o : sx_O), sx_Mok P M → sx_ev P xs n d M pc lv st w = some o → ∀ (mc ms : Nat) (F : Option Value → sx_W → Prop), F o.1 o.2 →
    ∀ (p : Program) (e : Env) (R : Room) (s : State) (m : MethodId) (args : Array Value) (below : List Frame) (meth : Method) (c : Code) (Q : State → Prop), sx_Fx P D cA N0 b M.2.2.1 xs M.1.cls M.2.1 p R s m args c → (sx_isIni M = true → meth.name = "<init>") → d + 1 ≤ R.frames → 64 * (d + 1) ≤ R.locals → mc ≤ R.cells → ms ≤ R.slots →
    (∀ E ∈ M.2.2.2.2.2.2.2, ∀ (cells slots : Nat) (w : sx_W) (lv : sx_L) (st : List Value) (r : Option Value), sx_dec M.2.1 E = true → cells ≤ mc → slots ≤ ms → sx_retOk M.2.2.2.1 E.2.1 st = some r → F r w → sx_G p l e R s m args below meth c Q P D cA N0 b M.2.2.1 cells slots w E.1 lv st) →
    ∀ (cells slots : Nat), cells ≤ mc → slots ≤ ms → sx_G p l e R s m args below meth c Q P D cA N0 b M.2.2.1 cells slots w pc lv st := by
  intro n
  induction n with
  | zero => intro d M pc lv st w o hM h; cases h
  | succ n ih =>
    intro d M pc lv st w o hM h mc ms F hF p e R s m args below meth c Q hFx hini hfr hlo hce hsl hend cells slots hcS hsS
    unfold sx_ev sx_ev1 at h
    split at h
    · cases h
    · rename_i E hE
      unfold sx_row at hE
      rw [sx_fnd_eq] at hE
      have hEm := List.mem_of_find?_eq_some hE
      have hEp : E.1 = pc := by simpa using List.find?_some hE
      obtain ⟨hdec, hrow⟩ := hM E hEm
      by_cases hr : sx_isRet E.2.1 = true
      · rw [if_pos hr] at h
        cases hq : sx_retOk M.2.2.2.1 E.2.1 st with
        | none => rw [hq] at h; cases h
        | some r =>
          rw [hq] at h
          cases h
          rw [← hEp]
          exact hend E hEm cells slots w lv st r hdec hcS hsS hq hF
      · rw [if_neg hr] at h
        unfold sx_rowOk at hrow
        by_cases hcall : sx_isCall E = true
        · rw [if_pos hcall] at h hrow
          split at h
          · rename_i M' d' hM'
            rw [hM'] at hrow
            dsimp only at hrow
            have hM'm := List.mem_of_getElem? hM'
            obtain ⟨hm', -⟩ := hP.2.2 M' hM'm
            split at h
            · rename_i hc0
              simp only [sx_callOk, Bool.and_eq_true, decide_eq_true_eq] at hc0
              obtain ⟨⟨⟨k1, k2⟩, k3⟩, k4⟩ := hc0
              split at h
              · rename_i o1 ho1
                have hst : st = (st.take M'.2.2.2.2.1).reverse.reverse ++ st.drop M'.2.2.2.2.1 := by rw [List.reverse_reverse, List.take_append_drop]
                have havl : (st.take M'.2.2.2.2.1).reverse.length = M'.2.2.2.2.1 := by rw [List.length_reverse, List.length_take]; omega
                have hcs : sx_csum (st.take M'.2.2.2.2.1).reverse ≤ M'.2.2.1 := by unfold sx_csum at k3 ⊢; rw [List.map_reverse, List.sum_reverse]; exact k3
                have hdE : decode M.2.1 E.1 = .ok (E.2.1, E.2.2.1) := by
                  unfold sx_dec at hdec
                  rw [Bool.and_eq_true, decide_eq_true_eq] at hdec
                  exact hdec.1
                have hC : sx_C P l D cA N0 b xs M' d' 0 0 (st.take M'.2.2.2.2.1).reverse w (fun r w' => r = o1.1 ∧ w' = o1.2) := sx_met hm' hcs (fun p2 e2 s2 m2 args2 below2 meth2 c2 hFx2 hini2 hret2 hlk2 =>
                  ih d' M' 0 _ [] w o1 (hP.row hM'm) ho1 0 0 (fun r w' => r = o1.1 ∧ w' = o1.2) ⟨rfl, rfl⟩ p2 e2 (sx_rm d' 0 0) s2 m2 args2 below2 meth2 c2 _ hFx2 hini2 (Nat.le_refl _) (Nat.le_refl _) (Nat.le_refl _) (Nat.le_refl _) (fun E2 hE2 cells slots w2 lv2 st2 r2 hd2 hc2 hs2 hr2 hF2 => sx_ret_G hFx2 hP.2.1 hret2 hlk2 hd2 hc2 hs2 hr2 hF2) 0 0 (Nat.le_refl _) (Nat.le_refl _))
                have hg := sx_call_G (Q := Q) (lv := lv) (cells := cells) (slots := slots) (e := e) (below := below) (meth := meth) hFx hP.2.1 hdE hm' hrow havl k4 k2 hC (by omega) (by omega) (by omega) (by omega) (fun r w' hh => by
                  obtain ⟨rfl, rfl⟩ := hh
                  rw [hEp]
                  exact ih (d' + 1) M _ lv _ _ o hM h mc ms F hF p e R s m args below meth c Q hFx hini hfr hlo hce hsl hend cells slots hcS hsS)
                rw [← hst, hEp] at hg
                exact hg
              · cases h
            · cases h
          · cases h
        · rw [if_neg hcall] at h hrow
          split at h
          · rename_i r hstep
            split at h
            · rename_i hz
              have hg := ih d M _ _ _ _ o hM h mc ms F hF p e R s m args below meth c Q hFx hini hfr hlo hce hsl hend (cells + r.2.2.2.2.1) (slots + r.2.2.2.2.2) (by omega) (by omega)
              rw [← hEp]
              exact sx_step_G hFx hP.1 hini hdec hrow hstep (by omega) (by omega) hg
            · cases h
          · cases h
/-- a contract out of a run -/
theorem sx_ev_C (hP : sx_Pok P) {n d : Nat} {M : sx_M} (hM : M ∈ P.2.2.2.1) {av : List Value} {w : sx_W} {o : sx_O} (hfit : sx_csum av ≤ M.2.2.1) (h : sx_ev P xs n d M 0 (lv_args 0 av) [] w = some o) : sx_C P l D cA N0 b xs M d 0 0 av w (fun r w' => r = o.1 ∧ w' = o.2) :=
  sx_met (hP.2.2 M hM).1 hfit (fun p2 e2 s2 m2 args2 below2 meth2 c2 hFx2 hini2 hret2 hlk2 =>
    sx_ev_ok hP n d M 0 _ [] w o (hP.row hM) h 0 0 (fun r w' => r = o.1 ∧ w' = o.2) ⟨rfl, rfl⟩ p2 e2 (sx_rm d 0 0) s2 m2 args2 below2 meth2 c2 _ hFx2 hini2 (Nat.le_refl _) (Nat.le_refl _) (Nat.le_refl _) (Nat.le_refl _) (fun E2 hE2 cells slots w2 lv2 st2 r2 hd2 hc2 hs2 hr2 hF2 => sx_ret_G hFx2 hP.2.1 hret2 hlk2 hd2 hc2 hs2 hr2 hF2) 0 0 (Nat.le_refl _) (Nat.le_refl _))
/-! runs grow -/
def sx_fle (f g : Nat → sx_M → Nat → sx_L → List Value → sx_W → Option sx_O) : Prop := ∀ d M pc lv st w o, f d M pc lv st w = some o → g d M pc lv st w = some o
theorem sx_ev1_le {f g : Nat → sx_M → Nat → sx_L → List Value → sx_W → Option sx_O} (h : sx_fle f g) : sx_fle (sx_ev1 P xs f) (sx_ev1 P xs g) := by
  intro d M pc lv st w o ho
  unfold sx_ev1 at ho ⊢
  split at ho
  · cases ho
  · rename_i E hE
    split at ho
    · rename_i hr; rw [if_pos hr]; exact ho
    · rename_i hr
      rw [if_neg hr]
      split at ho
      · rename_i hc
        rw [if_pos hc]
        split at ho
        · rename_i M' d' hM'
          split at ho
          · rename_i hk
            rw [if_pos hk]
            split at ho
            · rename_i o1 ho1
              rw [h _ _ _ _ _ _ _ ho1]
              exact h _ _ _ _ _ _ _ ho
            · cases ho
          · cases ho
        · cases ho
      · rename_i hc
        rw [if_neg hc]
        split at ho
        · rename_i r hs
          split at ho
          · rename_i hz
            rw [if_pos hz]
            exact h _ _ _ _ _ _ _ ho
          · cases ho
        · cases ho
theorem sx_ev_succ : ∀ n : Nat, sx_fle (sx_ev P xs n) (sx_ev P xs (n + 1))
  | 0 => fun _ _ _ _ _ _ _ h => by cases h
  | n + 1 => sx_ev1_le (sx_ev_succ n)
theorem sx_ev_le {n k : Nat} (h : n ≤ k) : sx_fle (sx_ev P xs n) (sx_ev P xs k) := by
  induction h with
  | refl => exact fun _ _ _ _ _ _ _ h => h
  | step _ ih => exact fun _ _ _ _ _ _ _ h => sx_ev_succ _ _ _ _ _ _ _ _ (ih _ _ _ _ _ _ _ h)
/-- from a place on the run comes to o -/
noncomputable def sx_rn (P : sx_P) (xs : List Int32) (d : Nat) (M : sx_M) (pc : Nat) (lv : sx_L) (st : List Value) (w : sx_W) (o : sx_O) : Prop := ∃ n, sx_ev P xs n d M pc lv st w = some o
theorem sx_rn_fun {d : Nat} {M : sx_M} {pc : Nat} {lv : sx_L} {st : List Value} {w : sx_W} {o o' : sx_O} (h : sx_rn P xs d M pc lv st w o) (h' : sx_rn P xs d M pc lv st w o') : o = o' := by
  obtain ⟨n, h⟩ := h
  obtain ⟨k, h'⟩ := h'
  have e1 := sx_ev_le (Nat.le_max_left n k) _ _ _ _ _ _ _ h
  have e2 := sx_ev_le (Nat.le_max_right n k) _ _ _ _ _ _ _ h'
  exact Option.some.inj (e1.symm.trans e2)
theorem sx_rn_ret {d : Nat} {M : sx_M} {pc : Nat} {lv : sx_L} {st : List Value} {w : sx_W} {E : sx_E} {r : Option Value} (hE : sx_row M pc = some E) (hr : sx_isRet E.2.1 = true) (h : sx_retOk M.2.2.2.1 E.2.1 st = some r) : sx_rn P xs d M pc lv st w (r, w) := by
  refine ⟨1, ?_⟩
  unfold sx_ev sx_ev1
  rw [hE]
  dsimp only
  rw [if_pos hr, h]
  rfl
theorem sx_rn_step {d : Nat} {M : sx_M} {pc : Nat} {lv : sx_L} {st : List Value} {w : sx_W} {E : sx_E} {r : sx_R} {o : sx_O} (hE : sx_row M pc = some E) (hr : sx_isRet E.2.1 = false) (hc : sx_isCall E = false) (hs : sx_step P xs M.2.2.1 E lv st w = some r) (hz : r.2.2.2.2.1 = 0 ∧ r.2.2.2.2.2 = 0) (h : sx_rn P xs d M r.1 r.2.1 r.2.2.1 r.2.2.2.1 o) : sx_rn P xs d M pc lv st w o := by
  obtain ⟨n, h⟩ := h
  refine ⟨n + 1, ?_⟩
  unfold sx_ev sx_ev1
  rw [hE]
  dsimp only
  rw [if_neg (by rw [hr]; decide), if_neg (by rw [hc]; decide), hs]
  dsimp only
  rw [if_pos hz]
  exact h
theorem sx_rn_call {d : Nat} {M M' : sx_M} {pc : Nat} {lv : sx_L} {st : List Value} {w : sx_W} {E : sx_E} {o1 o : sx_O} (hE : sx_row M pc = some E) (hr : sx_isRet E.2.1 = false) (hc : sx_isCall E = true) (hM' : P.2.2.2.1[E.2.2.2.1]? = some M') (hk : sx_callOk P M' w st = true)
    (h1 : sx_rn P xs d M' 0 (lv_args 0 (st.take M'.2.2.2.2.1).reverse) [] w o1) (h : sx_rn P xs (d + 1) M (pc + 3) lv (o1.1.toList ++ st.drop M'.2.2.2.2.1) o1.2 o) : sx_rn P xs (d + 1) M pc lv st w o := by
  obtain ⟨n, h⟩ := h
  obtain ⟨k, h1⟩ := h1
  refine ⟨max n k + 1, ?_⟩
  unfold sx_ev sx_ev1
  rw [hE]
  dsimp only
  rw [if_neg (by rw [hr]; decide), if_pos hc, hM']
  dsimp only
  rw [if_pos hk, sx_ev_le (Nat.le_max_right n k) _ _ _ _ _ _ _ h1]
  exact sx_ev_le (Nat.le_max_left n k) _ _ _ _ _ _ _ h
/-- with more room for calls, too -/
theorem sx_ev_up : ∀ (n d d' : Nat) (M : sx_M) (pc : Nat) (lv : sx_L) (st : List Value) (w : sx_W) (o : sx_O), d ≤ d' → sx_ev P xs n d M pc lv st w = some o → sx_ev P xs n d' M pc lv st w = some o := by
  intro n
  induction n with
  | zero => intro d d' M pc lv st w o _ h; cases h
  | succ n ih =>
    intro d d' M pc lv st w o hd ho
    unfold sx_ev sx_ev1 at ho ⊢
    split at ho
    · cases ho
    · rename_i E hE
      split at ho
      · rename_i hr; rw [if_pos hr]; exact ho
      · rename_i hr
        rw [if_neg hr]
        split at ho
        · rename_i hc
          rw [if_pos hc]
          split at ho
          · rename_i M' d0 hM'
            cases d' with
            | zero => omega
            | succ d1 =>
              split at ho
              · rename_i hk
                rw [hM']; dsimp only; rw [if_pos hk]
                split at ho
                · rename_i o1 ho1
                  rw [ih _ d1 _ _ _ _ _ _ (by omega) ho1]
                  exact ih _ _ _ _ _ _ _ _ hd ho
                · cases ho
              · cases ho
          · cases ho
        · rename_i hc
          rw [if_neg hc]
          split at ho
          · rename_i r hs
            split at ho
            · rename_i hz
              rw [if_pos hz]
              exact ih _ _ _ _ _ _ _ _ hd ho
            · cases ho
          · cases ho
theorem sx_rn_up {d d' : Nat} {M : sx_M} {pc : Nat} {lv : sx_L} {st : List Value} {w : sx_W} {o : sx_O} (hd : d ≤ d') (h : sx_rn P xs d M pc lv st w o) : sx_rn P xs d' M pc lv st w o := by
  obtain ⟨n, h⟩ := h
  exact ⟨n, sx_ev_up n d d' M pc lv st w o hd h⟩
end SXV
