/-! the reader's run holds the machine's run -/
section AXV
variable {P : sx_P} {T : ax_T} {l : Launch} {D : va_G} {cA : Nat → ClassId} {N0 b : Nat} {xs : List Int32}
/-- the contracts that are given hold -/
def ax_Tok (P : sx_P) (T : ax_T) (l : Launch) (D : va_G) (cA : Nat → ClassId) (N0 b : Nat) (xs : List Int32) : Prop := ∀ k ∈ T.1, ∀ M : sx_M, P.2.2.2.1[k.1]? = some M → ∀ (av : List Value) (w : sx_W), ax_gs xs k.2.1 av → ax_gw xs k.2.2.1 w →
  sx_C P l D cA N0 b xs M k.2.2.2.2.1 k.2.2.2.2.2.1 k.2.2.2.2.2.2 av w (fun r w' => ∃ o ∈ k.2.2.2.1, ax_go xs o.1 r ∧ ax_gw xs o.2 w')
theorem ax_run_ok (hP : sx_Pok P) (hT : ax_Tok P T l D cA N0 b xs) : ∀ (n d : Nat) (M : sx_M) (mc ms : Nat) (S : ax_S) (outs : List ax_O), sx_Mok P M → ax_run P T n d M mc ms S = some outs → ∀ (F : Option Value → sx_W → Prop), (∀ o ∈ outs, ∀ r w, ax_gO xs o r w → F r w) →
    ∀ (p : Program) (e : Env) (R : Room) (s : State) (m : MethodId) (args : Array Value) (below : List Frame) (meth : Method) (c : Code) (Q : State → Prop), sx_Fx P D cA N0 b M.2.2.1 xs M.1.cls M.2.1 p R s m args c → (sx_isIni M = true → meth.name = "<init>") → d + 1 ≤ R.frames → 64 * (d + 1) ≤ R.locals → mc ≤ R.cells → ms ≤ R.slots →
    (∀ E ∈ M.2.2.2.2.2.2.2, ∀ (cells slots : Nat) (w : sx_W) (lv : sx_L) (st : List Value) (r : Option Value), sx_dec M.2.1 E = true → cells ≤ mc → slots ≤ ms → sx_retOk M.2.2.2.1 E.2.1 st = some r → F r w → sx_G p l e R s m args below meth c Q P D cA N0 b M.2.2.1 cells slots w E.1 lv st) →
    ∀ (lv : sx_L) (st : List Value) (w : sx_W), ax_ok xs S lv st w → S.2.2.2.2.2.1 ≤ mc → S.2.2.2.2.2.2 ≤ ms → sx_G p l e R s m args below meth c Q P D cA N0 b M.2.2.1 S.2.2.2.2.2.1 S.2.2.2.2.2.2 w S.2.1 lv st := by
  intro n
  induction n with
  | zero => intro d M mc ms S outs hM h; cases h
  | succ n ih =>
    intro d M mc ms S outs hM h F hF p e R s m args below meth c Q hFx hini hfr hlo hce hsl hend lv st w hok hcS hsS
    obtain ⟨env, pc, al, ast, aw, cc, cs⟩ := S
    obtain ⟨he, hl, hs, hw⟩ := hok
    dsimp only at he hl hs hw hcS hsS ⊢
    unfold ax_run at h
    dsimp only at h
    split at h
    · cases h
    · rename_i E hE
      rw [sx_fnd_eq] at hE
      have hEm := List.mem_of_find?_eq_some hE
      have hEp : E.1 = pc := by simpa using List.find?_some hE
      obtain ⟨hdec, hrow⟩ := hM E hEm
      split at h
      · rename_i r hr
        cases h
        obtain ⟨r', h1, h2⟩ := ax_ret_ok he hr hs
        rw [← hEp]
        exact hend E hEm cc cs w lv st r' hdec hcS hsS h1 (hF _ (List.mem_singleton.mpr rfl) r' w ⟨he, h2, hw⟩)
      · unfold sx_rowOk at hrow
        by_cases hcall : sx_isCall E = true
        · rw [if_pos hcall] at h hrow
          split at h
          · cases h
          · rename_i M' hM'
            rw [hM'] at hrow
            dsimp only at hrow
            have hM'm := List.mem_of_getElem? hM'
            obtain ⟨hm', -⟩ := hP.2.2 M' hM'm
            split at h
            · rename_i hc0
              obtain ⟨k1, k2, k3, k4⟩ := hc0
              generalize hna : M'.2.2.2.2.1 = na at h k1 k2 k3 k4
              have hlen := ax_gs_len hs
              have hav : ax_gs xs (ast.take na).reverse (st.take na).reverse := ax_gs_rev (ax_gs_take na hs)
              have hrest := ax_gs_drop na hs
              have hst : st = (st.take na).reverse.reverse ++ st.drop na := by rw [List.reverse_reverse, List.take_append_drop]
              have havl : (st.take na).reverse.length = M'.2.2.2.2.1 := by rw [List.length_reverse, List.length_take, hna]; omega
              have hrc := ax_recv_ok (P := P) hw hav k4
              have hcsum : sx_csum (st.drop na) ≤ 8 := by rw [ax_gs_csum hrest]; exact k2
              have hdE : decode M.2.1 E.1 = .ok (E.2.1, E.2.2.1) := by
                unfold sx_dec at hdec
                rw [Bool.and_eq_true, decide_eq_true_eq] at hdec
                exact hdec.1
              have call : ∀ (d0 mc0 ms0 : Nat) (F0 : Option Value → sx_W → Prop), d0 + 1 ≤ d → cc + mc0 ≤ mc → cs + ms0 ≤ ms → sx_C P l D cA N0 b xs M' d0 mc0 ms0 (st.take na).reverse w F0 →
                  (∀ (r : Option Value) (w' : sx_W), F0 r w' → sx_G p l e R s m args below meth c Q P D cA N0 b M.2.2.1 (cc + mc0) (cs + ms0) w' (pc + 3) lv (r.toList ++ st.drop na)) → sx_G p l e R s m args below meth c Q P D cA N0 b M.2.2.1 cc cs w pc lv st := by
                intro d0 mc0 ms0 F0 q1 q2 q3 hC kk
                have hg := sx_call_G (Q := Q) (lv := lv) (cells := cc) (slots := cs) (e := e) (below := below) (meth := meth) hFx hP.2.1 hdE hm' hrow havl hrc hcsum hC (by omega) (by omega) (by omega) (by omega) (by rw [hEp]; exact kk)
                rw [← hst, hEp] at hg
                exact hg
              split at h
              · rename_i k hk
                obtain ⟨g1, g2, g3, g4⟩ := ax_con1_ok hk
                split at h
                · rename_i hb
                  obtain ⟨b1, b2, b3⟩ := hb
                  refine call k.2.2.2.2.1 k.2.2.2.2.2.1 k.2.2.2.2.2.2 _ b1 b2 b3 (hT k g1 M' (by rw [g2]; exact hM') _ w (ax_leL_ok he _ _ _ g3 hav) (ax_leW_ok he _ _ _ g4 hw)) (fun r w' ⟨o, ho, hgo, hgw⟩ => ?_)
                  obtain ⟨x, hx, hxm⟩ := ax_all_mem h o ho
                  exact ih d M mc ms _ x hM hx F (fun o' ho' => hF o' (hxm o' ho')) p e R s m args below meth c Q hFx hini hfr hlo hce hsl hend lv _ w' ⟨he, hl, ax_gs_app (ax_go_list hgo) hrest, hgw⟩ b2 b3
                · cases h
              · split at h
                · cases h
                · rename_i d'
                  split at h
                  · rename_i hb
                    obtain ⟨b2, b3⟩ := hb
                    generalize hmc : (ax_bud E.2.2.2.1 T.2.1).1 = mc' at h b2
                    generalize hms : (ax_bud E.2.2.2.1 T.2.1).2 = ms' at h b3
                    split at h
                    · cases h
                    · rename_i os hos
                      split at h
                      · cases h
                      · rename_i os' hos'
                        refine call d' mc' ms' (fun r w' => ∃ o ∈ os', ax_gO xs o r w') (Nat.le_refl _) b2 b3 ?_ (fun r w' ⟨o, ho, hgo⟩ => ?_)
                        · refine sx_met hm' (by rw [ax_gs_csum hav]; unfold ax_csum at k3 ⊢; rw [List.map_reverse, List.sum_reverse]; exact k3) (fun p2 e2 s2 m2 args2 below2 meth2 c2 hFx2 hini2 hret2 hlk2 => ?_)
                          refine ih d' M' mc' ms' _ os (hP.row hM'm) hos (fun r w' => ∃ o ∈ os', ax_gO xs o r w') (fun o ho r w' hg => ?_) p2 e2 (sx_rm d' mc' ms') s2 m2 args2 below2 meth2 c2 _ hFx2 hini2 (Nat.le_refl _) (Nat.le_refl _) (Nat.le_refl _) (Nat.le_refl _) (fun E2 hE2 cells slots w2 lv2 st2 r2 hd2 hc2 hs2 hr2 hF2 => sx_ret_G hFx2 hP.2.1 hret2 hlk2 hd2 hc2 hs2 hr2 hF2) _ [] w ⟨he, fun q hq => (ax_args_ok 0 hav q hq).2, rfl, hw⟩ (Nat.zero_le _) (Nat.zero_le _)
                          by_cases hmg : T.2.2.contains E.2.2.2.1 = true
                          · rw [if_pos hmg] at hos'
                            cases hq : ax_mrg os with
                            | none => rw [hq] at hos'; cases hos'
                            | some q =>
                              rw [hq] at hos'
                              cases hos'
                              exact ⟨q, List.mem_singleton.mpr rfl, ax_mrg_ok os q hq o ho hg⟩
                          · rw [if_neg hmg] at hos'
                            cases hos'
                            exact ⟨o, ho, hg⟩
                        · obtain ⟨x, hx, hxm⟩ := ax_all_mem h o ho
                          exact ih (d' + 1) M mc ms _ x hM hx F (fun o' ho' => hF o' (hxm o' ho')) p e R s m args below meth c Q hFx hini hfr hlo hce hsl hend lv _ w' ⟨hgo.1, hl, ax_gs_app (ax_go_list hgo.2.1) hrest, hgo.2.2⟩ b2 b3
                  · cases h
            · cases h
        · rw [if_neg hcall] at h hrow
          split at h
          · cases h
          · rename_i Ss hSs
            rw [← hEp] at hSs
            obtain ⟨r, hstep, S', hS', g1, g2, g3, g4⟩ := ax_step_ok hSs he hl hs hw
            obtain ⟨x, hx, hxm⟩ := ax_all_mem h S' hS'
            split at hx
            · rename_i hb
              have hg := ih d M mc ms S' x hM hx F (fun o' ho' => hF o' (hxm o' ho')) p e R s m args below meth c Q hFx hini hfr hlo hce hsl hend r.2.1 r.2.2.1 r.2.2.2.1 g2 hb.1 hb.2
              rw [g1, g3, g4] at hg
              rw [← hEp]
              exact sx_step_G hFx hP.1 hini hdec hrow hstep (by omega) (by omega) hg
            · cases hx
/-- a contract out of the reader's run -/
theorem ax_contract (hP : sx_Pok P) (hT : ax_Tok P T l D cA N0 b xs) {n d mi mc ms : Nat} {M : sx_M} {al : List ax_V} {aw : ax_W} {outs : List ax_O} (hM : P.2.2.2.1[mi]? = some M) (hfit : ax_csum al ≤ M.2.2.1) (h : ax_run P T n d M mc ms ([], 0, ax_args 0 al, [], aw, 0, 0) = some outs) :
    ∀ (av : List Value) (w : sx_W), ax_gs xs al av → ax_gw xs aw w → sx_C P l D cA N0 b xs M d mc ms av w (fun r w' => ∃ o ∈ outs.map (fun o => (o.2.1, o.2.2)), ax_go xs o.1 r ∧ ax_gw xs o.2 w') := by
  intro av w hav hw
  have hm := List.mem_of_getElem? hM
  have hm' := (hP.2.2 M hm).1
  refine sx_met hm' (by rw [ax_gs_csum hav]; exact hfit) (fun p2 e2 s2 m2 args2 below2 meth2 c2 hFx2 hini2 hret2 hlk2 => ?_)
  exact ax_run_ok hP hT n d M mc ms _ outs (hP.row hm) h _ (fun o ho r w' hg => ⟨_, List.mem_map.mpr ⟨o, ho, rfl⟩, hg.2⟩) p2 e2 (sx_rm d mc ms) s2 m2 args2 below2 meth2 c2 _ hFx2 hini2 (Nat.le_refl _) (Nat.le_refl _) (Nat.le_refl _) (Nat.le_refl _) (fun E2 hE2 cells slots w2 lv2 st2 r2 hd2 hc2 hs2 hr2 hF2 => sx_ret_G hFx2 hP.2.1 hret2 hlk2 hd2 hc2 hs2 hr2 hF2) _ [] w ⟨fun i q hq => by simp at hq, fun q hq => (ax_args_ok 0 hav q hq).2, rfl, hw⟩ (Nat.zero_le _) (Nat.zero_le _)
end AXV
