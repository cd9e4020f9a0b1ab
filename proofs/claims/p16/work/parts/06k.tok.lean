/-! contracts, one behind another -/
def ax_eqW : ax_W → ax_W → Bool
  | [], [] => true
  | (t, r) :: w, (t', r') :: w' => decide (t = t') && decide (r = r') && ax_eqW w w'
  | _, _ => false
theorem ax_eqW_ok : ∀ (a b : ax_W), ax_eqW a b = true → a = b
  | [], [], _ => rfl
  | [], _ :: _, h => by cases h
  | _ :: _, [], h => by cases h
  | (t, r) :: w, (t', r') :: w', h => by
    simp only [ax_eqW, Bool.and_eq_true, decide_eq_true_eq] at h
    rw [h.1.1, h.1.2, ax_eqW_ok w w' h.2]
def ax_eqs (o : Option (List ax_O)) (k : List (Option ax_V × ax_W)) : Bool := match o with
  | none => false
  | some os => os.all (fun o => k.any (fun q => decide (o.2.1 = q.1) && ax_eqW o.2.2 q.2))
section AXK
variable {P : sx_P} {T : ax_T} {l : Launch} {D : va_G} {cA : Nat → ClassId} {N0 b : Nat} {xs : List Int32}
theorem ax_Tok_nil {t : List (Nat × Nat × Nat) × List Nat} : ax_Tok P ([], t) l D cA N0 b xs := fun k hk => by cases hk
theorem ax_Tok_add (hP : sx_Pok P) {ks : List ax_K} {t : List (Nat × Nat × Nat) × List Nat} (hT : ax_Tok P (ks, t) l D cA N0 b xs) {k : ax_K} {n : Nat} {M : sx_M} (hM : P.2.2.2.1[k.1]? = some M) (hfit : ax_csum k.2.1 ≤ M.2.2.1)
    (h : ax_eqs (ax_run P (ks, t) n k.2.2.2.2.1 M k.2.2.2.2.2.1 k.2.2.2.2.2.2 ([], 0, ax_args 0 k.2.1, [], k.2.2.1, 0, 0)) k.2.2.2.1 = true) : ax_Tok P (ks ++ [k], t) l D cA N0 b xs := by
  intro q hq M' hM' av w hav hw
  rcases List.mem_append.mp hq with hq | hq
  · exact hT q hq M' hM' av w hav hw
  · rw [List.mem_singleton] at hq
    subst hq
    cases hM.symm.trans hM'
    unfold ax_eqs at h
    split at h
    · cases h
    · rename_i os hos
      have hm := List.mem_of_getElem? hM
      have hm' := (hP.2.2 M hm).1
      refine sx_met hm' (by rw [ax_gs_csum hav]; exact hfit) (fun p2 e2 s2 m2 args2 below2 meth2 c2 hFx2 hini2 hret2 hlk2 => ?_)
      refine ax_run_ok hP hT n _ M _ _ _ os (hP.row hm) hos _ (fun o ho r w' hg => ?_) p2 e2 _ s2 m2 args2 below2 meth2 c2 _ hFx2 hini2 (Nat.le_refl _) (Nat.le_refl _) (Nat.le_refl _) (Nat.le_refl _) (fun E2 hE2 cells slots w2 lv2 st2 r2 hd2 hc2 hs2 hr2 hF2 => sx_ret_G hFx2 hP.2.1 hret2 hlk2 hd2 hc2 hs2 hr2 hF2) _ [] w ⟨fun i q hq => by simp at hq, fun q hq => (ax_args_ok 0 hav q hq).2, rfl, hw⟩ (Nat.zero_le _) (Nat.zero_le _)
      obtain ⟨z, hz, hz2⟩ := List.any_eq_true.mp (List.all_eq_true.mp h o ho)
      rw [Bool.and_eq_true, decide_eq_true_eq] at hz2
      exact ⟨z, hz, by rw [← hz2.1]; exact hg.2.1, by rw [← ax_eqW_ok _ _ hz2.2]; exact hg.2.2⟩
/-- every way back answers true -/
def ax_true (o : Option (List ax_O)) : Bool := match o with
  | none => false
  | some os => os.all (fun o => decide (o.2.1 = some (0, 1, 1)))
/-- the road to a place, where it is one road -/
noncomputable def ax_to (P : sx_P) (T : ax_T) (tgt : Nat) : Nat → Nat → sx_M → Nat → Nat → ax_S → Option ax_S
  | 0, _, _, _, _, _ => none
  | n + 1, d, M, mc, ms, S => if S.2.1 = tgt then some S else match S with
    | (env, pc, l, st, w, c, s) => match sx_fnd pc M.2.2.2.2.2.2.2 with
      | none => none
      | some E => if sx_isCall E then (match P.2.2.2.1[E.2.2.2.1]? with
          | none => none
          | some M' => if M'.2.2.2.2.1 ≤ st.length ∧ ax_csum (st.drop M'.2.2.2.2.1) ≤ 8 ∧ ax_recv P M' w (st.take M'.2.2.2.2.1).reverse = true then
              (match ax_con1 env E.2.2.2.1 (st.take M'.2.2.2.2.1).reverse w T.1 with
              | some k => if k.2.2.2.2.1 + 1 ≤ d ∧ c + k.2.2.2.2.2.1 ≤ mc ∧ s + k.2.2.2.2.2.2 ≤ ms then (match k.2.2.2.1 with
                | [o] => ax_to P T tgt n d M mc ms (env, pc + 3, l, o.1.toList ++ st.drop M'.2.2.2.2.1, o.2, c + k.2.2.2.2.2.1, s + k.2.2.2.2.2.2)
                | _ => none) else none
              | none => none) else none)
          else (match ax_step P M.2.2.1 E S with
          | some [S'] => if S'.2.2.2.2.2.1 ≤ mc ∧ S'.2.2.2.2.2.2 ≤ ms then ax_to P T tgt n d M mc ms S' else none
          | _ => none)
theorem ax_to_ok (hP : sx_Pok P) (hT : ax_Tok P T l D cA N0 b xs) {tgt d mc ms : Nat} {M : sx_M} (hM : sx_Mok P M) {p : Program} {e : Env} {R : Room} {s : State} {m : MethodId} {args : Array Value} {below : List Frame} {meth : Method} {c : Code} {Q : State → Prop} (hFx : sx_Fx P D cA N0 b M.2.2.1 xs M.1.cls M.2.1 p R s m args c) (hini : sx_isIni M = true → meth.name = "<init>") (hfr : d + 1 ≤ R.frames) (hlo : 64 * (d + 1) ≤ R.locals) (hce : mc ≤ R.cells) (hsl : ms ≤ R.slots) {S1 : ax_S}
    (hend : ∀ (lv : sx_L) (st : List Value) (w : sx_W), ax_ok xs S1 lv st w → sx_G p l e R s m args below meth c Q P D cA N0 b M.2.2.1 S1.2.2.2.2.2.1 S1.2.2.2.2.2.2 w S1.2.1 lv st) :
    ∀ (n : Nat) (S : ax_S), ax_to P T tgt n d M mc ms S = some S1 → ∀ (lv : sx_L) (st : List Value) (w : sx_W), ax_ok xs S lv st w → sx_G p l e R s m args below meth c Q P D cA N0 b M.2.2.1 S.2.2.2.2.2.1 S.2.2.2.2.2.2 w S.2.1 lv st := by
  intro n
  induction n with
  | zero => intro S h; cases h
  | succ n ih =>
    intro S h lv st w hok
    unfold ax_to at h
    by_cases ht : S.2.1 = tgt
    · rw [if_pos ht] at h
      cases h
      exact hend lv st w hok
    · rw [if_neg ht] at h
      obtain ⟨env, pc, al, ast, aw, cc, cs⟩ := S
      obtain ⟨he, hl, hs, hw⟩ := hok
      dsimp only at he hl hs hw h ⊢
      split at h
      · cases h
      · rename_i E hE
        rw [sx_fnd_eq] at hE
        have hEm := List.mem_of_find?_eq_some hE
        have hEp : E.1 = pc := by simpa using List.find?_some hE
        obtain ⟨hdec, hrow⟩ := hM E hEm
        unfold sx_rowOk at hrow
        by_cases hcall : sx_isCall E = true
        · rw [if_pos hcall] at h hrow
          split at h
          · cases h
          · rename_i M' hM'
            rw [hM'] at hrow
            dsimp only at hrow
            have hM'm := List.mem_of_getElem? hM'
            obtain ⟨hm', -⟩ := hP.2.2 M' hM'm
            split at h
            · rename_i hc0
              obtain ⟨k1, k2, k4⟩ := hc0
              generalize hna : M'.2.2.2.2.1 = na at h k1 k2 k4
              have hlen := ax_gs_len hs
              have hav : ax_gs xs (ast.take na).reverse (st.take na).reverse := ax_gs_rev (ax_gs_take na hs)
              have hrest := ax_gs_drop na hs
              have hst : st = (st.take na).reverse.reverse ++ st.drop na := by rw [List.reverse_reverse, List.take_append_drop]
              have havl : (st.take na).reverse.length = M'.2.2.2.2.1 := by rw [List.length_reverse, List.length_take, hna]; omega
              have hrc := ax_recv_ok (P := P) hw hav k4
              have hcsum : sx_csum (st.drop na) ≤ 8 := by rw [ax_gs_csum hrest]; exact k2
              have hdE : decode M.2.1 E.1 = .ok (E.2.1, E.2.2.1) := by
                unfold sx_dec at hdec
                rw [Bool.and_eq_true, decide_eq_true_eq] at hdec
                exact hdec.1
              split at h
              · rename_i k hk
                obtain ⟨g1, g2, g3, g4⟩ := ax_con1_ok hk
                split at h
                · rename_i hb
                  obtain ⟨b1, b2, b3⟩ := hb
                  split at h
                  · rename_i o ho
                    have hC := hT k g1 M' (by rw [g2]; exact hM') _ w (ax_leL_ok he _ _ _ g3 hav) (ax_leW_ok he _ _ _ g4 hw)
                    have hg := sx_call_G (Q := Q) (lv := lv) (cells := cc) (slots := cs) (e := e) (below := below) (meth := meth) hFx hP.2.1 hdE hm' hrow havl hrc hcsum hC (by omega) (by omega) (by omega) (by omega) (fun r w' ⟨o', ho', hgo, hgw⟩ => by
                      rw [ho, List.mem_singleton] at ho'
                      subst ho'
                      rw [hEp]
                      exact ih _ h lv _ w' ⟨he, hl, ax_gs_app (ax_go_list hgo) hrest, hgw⟩)
                    rw [← hst, hEp] at hg
                    exact hg
                  · cases h
                · cases h
              · cases h
            · cases h
        · rw [if_neg hcall] at h hrow
          split at h
          · rename_i S' hSs
            rw [← hEp] at hSs
            obtain ⟨r, hstep, S2, hS2, g1, g2, g3, g4⟩ := ax_step_ok hSs he hl hs hw
            rw [List.mem_singleton] at hS2
            subst hS2
            split at h
            · rename_i hb
              have hg := ih S2 h r.2.1 r.2.2.1 r.2.2.2.1 g2
              rw [g1, g3, g4] at hg
              rw [← hEp]
              exact sx_step_G hFx hP.1 hini hdec hrow hstep (by omega) (by omega) hg
            · cases h
          · cases h
end AXK
