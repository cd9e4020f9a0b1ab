section
/-! frames, calls, ends -/
def sx_B (P : sx_P) (D : va_G) (cA : Nat → ClassId) (N0 b : Nat) (xs : List Int32) (w : sx_W) (U : State) : Prop := sx_H P D cA N0 b w U.heap ∧ sx_K P D cA U ∧ va_X b xs.length (fun j => xs.getD j 0) U U.heap ∧ b < N0
def sx_Q (P : sx_P) (D : va_G) (cA : Nat → ClassId) (N0 b : Nat) (xs : List Int32) (F : Option Value → sx_W → Prop) : Array Value → State → Outcome → State → Prop := fun _ st oc t => (∃ (r : Option Value) (w' : sx_W), oc = .returned (r.map (sx_sh N0 b)) ∧ F r w' ∧ sx_B P D cA N0 b xs w' t) ∧ va_F (fun q => N0 ≤ q) st t
def sx_rm (d mc ms : Nat) : Room := { frames := d + 1, cells := mc, slots := ms, locals := 64 * (d + 1) }
def sx_words (P : sx_P) (M : sx_M) : List Cond := Cond.code M.1 M.2.1 M.2.2.1 M.2.2.2.1 :: P.1.flatten.filter goodWord
/-- a method's CONTRACT at given arguments and a given world: it returns, F holds of its answer and the world behind it; at most mc cells of ms slots are new; frames nest d deep at most -/
def sx_C (P : sx_P) (l : Launch) (D : va_G) (cA : Nat → ClassId) (N0 b : Nat) (xs : List Int32) (M : sx_M) (d mc ms : Nat) (av : List Value) (w : sx_W) (F : Option Value → sx_W → Prop) : Prop :=
  Met l M.1 (sx_words P M) (sx_rm d mc ms) (va_Pc (sx_st N0 b av) (sx_B P D cA N0 b xs w)) (sx_Q P D cA N0 b xs F) mc ms (fun q => N0 ≤ q)
def sx_isNest (w : Cond) : Bool := match w with
  | .fieldLinkNest .. => true
  | .methodLinkNest .. => true
  | _ => false
def sx_isIni (M : sx_M) : Bool := decide (M.1.name = "<init>")
/-- a method of the program is as its words say -/
noncomputable def sx_mOk (P : sx_P) (M : sx_M) : Bool := match M with
  | (y, cc, nL, ret, n, isS, (q1, q2, q3, q4), rows) => plainName y.cls && sx_wd P q1 (.code y cc nL ret) && sx_wd P q4 (.initialized y.cls) && decide (nL ≤ 45) && decide (y.cls ≠ "java/lang/invoke/MethodHandle") && decide (y.cls ≠ "java/lang/invoke/VarHandle") &&
    (if isS then sx_wd P q2 (.static y) && decide ((parseMethodDescriptor y.desc).map (fun d => d.parameters.length) = some n)
     else sx_wd P q2 (.instanceMethod y) && decide ((parseMethodDescriptor y.desc).map (fun d => d.parameters.length + 1) = some n) && (decide (y.name = "<init>") || sx_wd P q3 (.selects y.cls y y))) &&
    rows.all (fun E => sx_dec cc E)
theorem sx_B.moved {P : sx_P} {D : va_G} {cA : Nat → ClassId} {N0 b : Nat} {xs : List Int32} {w : sx_W} {U V : State} (h : sx_B P D cA N0 b xs w U) (hh : V.heap = U.heap) (ha : U.vm.Alike V.vm) (hn : ∀ w ∈ P.2.2.2.2, va_Nw w U → va_Nw w V) : sx_B P D cA N0 b xs w V :=
  ⟨by rw [hh]; exact h.1, ⟨va_K.moved ha h.2.1.1, fun w hw => hn w hw (h.2.1.2 w hw)⟩, by rw [hh]; exact va_X.moved ha h.2.2.1, h.2.2.2⟩
theorem sx_nest_warm {s U : State} (hW : s.WarmedH U.vm) {w : Cond} (hw : sx_isNest w = true) (h : va_Nw w s) : va_Nw w U := by
  cases w <;> first | (cases hw; done) | exact va_Nw.warmF hW h | exact va_Nw.warmM hW h
theorem sx_nest_same {s U : State} (hW : s.vm = U.vm) {w : Cond} (hw : sx_isNest w = true) (h : va_Nw w s) : va_Nw w U := by
  cases w <;> first | (cases hw; done) | exact va_Nw.same rfl hW h
theorem sx_blind {P : sx_P} {D : va_G} {cA : Nat → ClassId} {N0 b : Nat} {xs : List Int32} {w : sx_W} {av : List Value} (hn : ∀ w ∈ P.2.2.2.2, sx_isNest w = true) : FrameBlind (va_Pc av (sx_B P D cA N0 b xs w)) :=
  fun a U g mk h => ⟨h.1, h.2.moved (U := U) (V := U.calling g mk a) rfl (Vm.Alike.refl U.vm) (fun w hw k => sx_nest_same (s := U) (U := U.calling g mk a) rfl (hn w hw) k)⟩
section SXC
variable {p : Program} {l : Launch} {e : Env} {R : Room} {s : State} {m : MethodId} {args : Array Value} {below : List Frame} {meth : Method} {c : Code} {Q : State → Prop}
variable {P : sx_P} {D : va_G} {cA : Nat → ClassId} {N0 b nL : Nat} {xs : List Int32} {own : String} {cc : ByteArray}
theorem sx_start (hF : sx_Fx P D cA N0 b nL xs own cc p R s m args c) (hn : ∀ w ∈ P.2.2.2.2, sx_isNest w = true) {w : sx_W} {H : Heap} {locs : List Loc} (hH : sx_H P D cA N0 b w H) (hS : va_S (fun q => N0 ≤ q) s.heap H locs) : ∀ U : State, U.heap = H → s.WarmedH U.vm → sx_B P D cA N0 b xs w U := by
  intro U hU hW
  refine ⟨by rw [hU]; exact hH, ⟨va_K.moved hW.alike hF.2.2.2.2.2.1.1, fun w hw => sx_nest_warm hW (hn w hw) (hF.2.2.2.2.2.1.2 w hw)⟩, ?_, hF.2.2.2.2.2.2.2.2.1⟩
  have hX := va_X.moved hW.alike hF.2.2.2.2.2.2.2.1
  rw [hU]
  exact hX.kept (hS.2.1 b (Nat.lt_of_lt_of_le hF.2.2.2.2.2.2.2.2.1 hF.2.2.2.2.2.2.1) (Nat.not_le.mpr hF.2.2.2.2.2.2.2.2.1))
theorem sx_back {H : Heap} {locs : List Loc} {cells slots mc ms pc : Nat} {ls : Array Slot} {st0 rest : List Value} {F : Option Value → sx_W → Prop} {a : Array Value} (hr : va_Run p l e R s m args below meth c H locs cells slots mc ms (F0 m pc ls st0) rest (sx_Q P D cA N0 b xs F a) (fun q => N0 ≤ q)) (hS : va_S (fun q => N0 ≤ q) s.heap H locs)
    (kk : ∀ (r : Option Value) (w' : sx_W), F r w' → ∀ (H1 : Heap) (locs1 : List Loc), sx_H P D cA N0 b w' H1 → va_S (fun q => N0 ≤ q) s.heap H1 locs1 → W p l e R s m args below meth c H1 locs1 (cells + mc) (slots + ms) Q (F0 m (pc + 3) ls ((r.map (sx_sh N0 b)).toList ++ rest))) : W p l e R s m args below meth c H locs cells slots Q (F0 m pc ls st0) := by
  intro T hT X
  obtain ⟨v, st₀, t, T', L, h0, X', hL, e1, e2, ⟨⟨r, w', hv, hF, hB⟩, hz, hk⟩, st⟩ := hr T hT X
  cases hv
  rw [h0] at hz hk
  obtain ⟨t2, a1, b1⟩ := kk r w' hF T'.heap (locs ++ L) (by rw [e1]; exact hB.1)
    ⟨Nat.le_trans hS.1 (by rw [e1]; exact hz), fun q h1 h2 => by rw [e1, hk q (Nat.lt_of_lt_of_le h1 hS.1) h2]; exact hS.2.1 q h1 h2, fun q hq => by
      rcases List.mem_append.mp hq with h | h
      · exact hS.2.2 q h
      · exact hL q h⟩ T' rfl X'
  exact ⟨t2, st t2 a1, b1⟩
/-- how a call's entry names its method: kind 0 virtual, 1 special, 2 static; a nest mate's 10 more -/
noncomputable def sx_link (P : sx_P) (own : String) (E : sx_E) (M : sx_M) : Bool := match E with
  | (_, I, len, _, k, q, z) => decide (len = 3) && match I with
    | .invokevirtual i => !M.2.2.2.2.2.1 && !sx_isIni M && (if k = 0 then sx_wd P q (.methodLink own i M.1) else match P.2.2.2.2[q]? with
      | some (.methodLinkNest o j y _) => decide (o = own) && decide (j = i) && decide (y = M.1)
      | _ => false)
    | .invokespecial i => sx_isIni M && !M.2.2.2.2.2.1 && (if k = 0 then sx_wd P q (.methodLink own i M.1) else match P.2.2.2.2[q]? with
      | some (.methodLinkNest o j y _) => decide (o = own) && decide (j = i) && decide (y = M.1)
      | _ => false) && decide (M.2.2.2.1 = none)
    | .invokestatic i => M.2.2.2.2.2.1 && (if k = 0 then sx_wd P q (.methodLink own i M.1) else match P.2.2.2.2[q]? with
      | some (.methodLinkNest o j y _) => decide (o = own) && decide (j = i) && decide (y = M.1)
      | _ => false)
    | _ => false
/-- a receiver is an object of the method's own kind -/
def sx_recv (P : sx_P) (M : sx_M) (w : sx_W) (av : List Value) : Bool := M.2.2.2.2.2.1 || match av with
  | .ref a :: _ => sx_isIni M || match w[a]? with
    | some (ci, _) => decide (ci < 100) && match P.2.1[ci]? with
      | some (C, _, _) => decide (C = M.1.cls)
      | none => false
    | none => false
  | _ => false
theorem sx_words_ok (hF : sx_Fx P D cA N0 b nL xs own cc p R s m args c) {M : sx_M} {q : Nat} (h : sx_wd P q (.code M.1 M.2.1 M.2.2.1 M.2.2.2.1) = true) : ∀ w ∈ sx_words P M, ∀ (a' : Array Value) (U : State), s.WarmedH U.vm → w.before a' U = true := by
  have hg : ∀ w ∈ sx_words P M, w ∈ P.1.flatten ∧ goodWord w = true := fun w hw => by
    rcases List.mem_cons.mp hw with rfl | hw
    · exact sx_wd_mem h
    · exact List.mem_filter.mp hw
  exact fun w hw a' U hW => word_at hW (good_of_word (hg w hw).2) (hF.2.2.2.2.1 w (hg w hw).1 (hg w hw).2)
theorem sx_st_len (st : List Value) : (sx_st N0 b st).length = st.length := List.length_map ..
theorem sx_call_G (hF : sx_Fx P D cA N0 b nL xs own cc p R s m args c) (hn : ∀ w ∈ P.2.2.2.2, sx_isNest w = true) {E : sx_E} {M : sx_M} (hd : decode cc E.1 = .ok (E.2.1, E.2.2.1)) (hm : sx_mOk P M = true) (hl : sx_link P own E M = true) {av rest : List Value} {lv : sx_L} {w : sx_W} {cells slots d mc ms : Nat} {F : Option Value → sx_W → Prop}
    (hav : av.length = M.2.2.2.2.1) (hrc : sx_recv P M w av = true) (hcs : sx_csum rest ≤ 8) (hC : sx_C P l D cA N0 b xs M d mc ms av w F) (hfr : d + 2 ≤ R.frames) (hlo : 64 * (d + 2) ≤ R.locals) (hce : cells + mc ≤ R.cells) (hsl : slots + ms ≤ R.slots)
    (kk : ∀ (r : Option Value) (w' : sx_W), F r w' → sx_G p l e R s m args below meth c Q P D cA N0 b nL (cells + mc) (slots + ms) w' (E.1 + 3) lv (r.toList ++ rest)) : sx_G p l e R s m args below meth c Q P D cA N0 b nL cells slots w E.1 lv (av.reverse ++ rest) := by
  obtain ⟨pc, I, len, a0, k, q, z⟩ := E
  obtain ⟨y, bytes, maxL, ret, n, isS, ⟨q1, q2, q3, q4⟩, rows⟩ := M
  dsimp only at hd hav kk ⊢
  intro H locs ls hH hS hls
  simp only [sx_mOk, Bool.and_eq_true, decide_eq_true_eq] at hm
  obtain ⟨⟨⟨⟨⟨⟨⟨hpl, m1⟩, m4⟩, hmax⟩, hy1⟩, hy2⟩, m2⟩, -⟩ := hm
  have hws := sx_words_ok (M := (y, bytes, maxL, ret, n, isS, (q1, q2, q3, q4), rows)) hF m1
  have hst := sx_start hF hn hH hS
  have back : ∀ st0 : List Value, va_Run p l e R s m args below meth c H locs cells slots mc ms (F0 m pc ls st0) (sx_st N0 b rest) (sx_Q P D cA N0 b xs F (sx_st N0 b av).toArray) (fun q => N0 ≤ q) → W p l e R s m args below meth c H locs cells slots Q (F0 m pc ls st0) := fun st0 hr => sx_back hr hS (fun r w' hFr H1 locs1 hH1 hS1 => by
    have k1 := kk r w' hFr H1 locs1 ls hH1 hS1 hls
    have e1 : sx_st N0 b (r.toList ++ rest) = (r.map (sx_sh N0 b)).toList ++ sx_st N0 b rest := by
      unfold sx_st
      rw [List.map_append]
      cases r <;> rfl
    rw [e1] at k1
    exact k1)
  have hbl := sx_blind (P := P) (D := D) (cA := cA) (N0 := N0) (b := b) (xs := xs) (w := w) (av := sx_st N0 b av) hn
  have hW8 : 2 * (F0 m pc ls ([] : List Value)).monitorRoom + ((sx_st N0 b rest).map fun v => v.category).sum ≤ 8 := by
    rw [sx_csum_sh]
    show 2 * 0 + _ ≤ 8
    omega
  have hrm1 : (sx_rm d mc ms).frames + 1 ≤ R.frames := hfr
  have hrm2 : 8 + (maxL + 11) + (sx_rm d mc ms).locals ≤ R.locals := by show 8 + (maxL + 11) + 64 * (d + 1) ≤ R.locals; omega
  have hfix : CallFix p m c cc nL s args (P.1.flatten.filter goodWord) own := ⟨hF.1, hF.2.1, hF.2.2.1, hF.2.2.2.1, fun w hw => hF.2.2.2.2.1 w (List.mem_filter.mp hw).1 (List.mem_filter.mp hw).2⟩
  have hcode : Cond.code y bytes maxL ret ∈ sx_words P (y, bytes, maxL, ret, n, isS, (q1, q2, q3, q4), rows) := List.mem_cons_self
  have hpar : ∀ (k : Nat), (parseMethodDescriptor y.desc).map (fun d => d.parameters.length) = some k → ∀ sig, parseMethodDescriptor y.desc = some sig → k = sig.parameters.length := fun k h sig hs => by
    rw [hs] at h
    exact (Option.some.inj h).symm
  simp only [sx_link] at hl
  rw [Bool.and_eq_true, decide_eq_true_eq] at hl
  obtain ⟨hlen3, hl⟩ := hl
  subst hlen3
  have nest : ∀ {i : Nat}, (match P.2.2.2.2[q]? with | some (.methodLinkNest o j y' _) => decide (o = own) && decide (j = i) && decide (y' = y) | _ => false) = true → ∃ host : String, va_Nw (.methodLinkNest own i y host) s := by
    intro i h
    split at h
    · rename_i o j y' host hq
      simp only [Bool.and_eq_true, decide_eq_true_eq] at h
      obtain ⟨⟨rfl, rfl⟩, rfl⟩ := h
      exact ⟨host, hF.2.2.2.2.2.1.2 _ (List.mem_of_getElem? hq)⟩
    · cases h
  cases I
  case invokevirtual i =>
    simp only [Bool.and_eq_true, Bool.not_eq_true'] at hl
    obtain ⟨⟨rfl, hni⟩, hlk⟩ := hl
    rw [if_neg (by decide), Bool.and_eq_true, Bool.and_eq_true, decide_eq_true_eq, Bool.or_eq_true, decide_eq_true_eq] at m2
    obtain ⟨⟨m2, hpd⟩, m3⟩ := m2
    have hni' : ¬ y.name = "<init>" := by simpa [sx_isIni] using hni
    have m3 := m3.resolve_left hni'
    have hpd' : (parseMethodDescriptor y.desc).map (fun d => d.parameters.length) = some (n - 1) := by
      cases hp : parseMethodDescriptor y.desc with
      | none => rw [hp] at hpd; cases hpd
      | some sig => rw [hp] at hpd; simp at hpd ⊢; omega
    unfold sx_recv at hrc
    rw [Bool.false_or] at hrc
    split at hrc
    · rename_i a1 As
      rw [hni, Bool.false_or] at hrc
      split at hrc
      · rename_i ci fs hw
        rw [Bool.and_eq_true, decide_eq_true_eq] at hrc
        obtain ⟨hci, hrc⟩ := hrc
        split at hrc
        · rename_i C T N hcl
          rw [decide_eq_true_eq] at hrc
          subst hrc
          have hpv : PreV s H y.cls (N0 + a1) (va_Pc (sx_st N0 b (.ref a1 :: As)) (sx_B P D cA N0 b xs w)) (sx_st N0 b As) := ⟨hbl, va_recv hF.2.2.2.2.2.1.1 (sx_obj hH hw hci) (ci := ci) (q0 := 0) hcl rfl, fun U hU hW => ⟨rfl, hst U hU hW⟩⟩
          have hstk : sx_st N0 b ((.ref a1 :: As).reverse ++ rest) = (sx_st N0 b As).reverse ++ .ref (N0 + a1) :: sx_st N0 b rest := by
            unfold sx_st
            rw [List.map_append, List.map_reverse, List.map_cons, List.reverse_cons, List.append_assoc]
            rfl
          have hln : (sx_st N0 b As).length = n - 1 := by rw [sx_st_len]; simp at hav; omega
          rw [hstk]
          by_cases hk : k = 0
          · rw [if_pos hk] at hlk
            exact back _ (va_runV hfix hC ⟨⟨rfl, rfl, hrm1, hrm2, hws, hcode, sx_wd_at hF m1, sx_wd_at hF m4, ⟨hy1, hy2⟩, hpar _ hpd', sx_wd_at hF hlk⟩, sx_wd_at hF m2, sx_wd_at hF m3⟩ hpv rfl hln hls.1 rfl hW8 hd ⟨hce, hsl⟩)
          · rw [if_neg hk] at hlk
            obtain ⟨host, hno⟩ := nest hlk
            exact back _ (va_runVN (host := host) hfix hC ⟨⟨⟨rfl, rfl, hrm1, hrm2, hws, hcode⟩, sx_wd_at hF m1, sx_wd_at hF m4, ⟨hy1, hy2⟩, hpar _ hpd', va_Nw.use rfl hno⟩, sx_wd_at hF m2, sx_wd_at hF m3⟩ hpv rfl hln hls.1 rfl hW8 hd ⟨hce, hsl⟩)
        · cases hrc
      · cases hrc
    · cases hrc
  case invokespecial i =>
    simp only [Bool.and_eq_true, Bool.not_eq_true', decide_eq_true_eq] at hl
    obtain ⟨⟨⟨hni, rfl⟩, hlk⟩, hret⟩ := hl
    subst hret
    have hni' : y.name = "<init>" := by simpa [sx_isIni] using hni
    rw [if_neg (by decide), Bool.and_eq_true, Bool.and_eq_true, decide_eq_true_eq] at m2
    obtain ⟨⟨m2, hpd⟩, -⟩ := m2
    have hpd' : (parseMethodDescriptor y.desc).map (fun d => d.parameters.length) = some (n - 1) := by
      cases hp : parseMethodDescriptor y.desc with
      | none => rw [hp] at hpd; cases hpd
      | some sig => rw [hp] at hpd; simp at hpd ⊢; omega
    have hn0 : 0 < n := by
      cases hp : parseMethodDescriptor y.desc with
      | none => rw [hp] at hpd; cases hpd
      | some sig => rw [hp] at hpd; simp at hpd; omega
    unfold sx_recv at hrc
    rw [Bool.false_or] at hrc
    split at hrc
    · rename_i a1 As
      have hln : (sx_st N0 b As).length = n - 1 := by rw [sx_st_len]; simp at hav; omega
      have hps : PreS s H (va_Pc (sx_st N0 b (.ref a1 :: As)) (sx_B P D cA N0 b xs w)) (.ref (N0 + a1) :: sx_st N0 b As) := ⟨hbl, fun U hU hW => ⟨rfl, hst U hU hW⟩⟩
      have hstk : sx_st N0 b ((.ref a1 :: As).reverse ++ rest) = (sx_st N0 b As).reverse ++ .ref (N0 + a1) :: sx_st N0 b rest := by
        unfold sx_st
        rw [List.map_append, List.map_reverse, List.map_cons, List.reverse_cons, List.append_assoc]
        rfl
      rw [hstk]
      by_cases hk : k = 0
      · rw [if_pos hk] at hlk
        exact back _ (va_runI hfix hC ⟨⟨rfl, rfl, hrm1, hrm2, hws, hcode, sx_wd_at hF m1, sx_wd_at hF m4, ⟨hy1, hy2⟩, hpar _ hpd', sx_wd_at hF hlk⟩, hni', sx_wd_at hF m2⟩ hps rfl hln hls.1 rfl hW8 hd ⟨hce, hsl⟩)
      · rw [if_neg hk] at hlk
        obtain ⟨host, hno⟩ := nest hlk
        exact back _ (va_runIN (host := host) hfix hC ⟨⟨⟨rfl, rfl, hrm1, hrm2, hws, hcode⟩, sx_wd_at hF m1, sx_wd_at hF m4, ⟨hy1, hy2⟩, hpar _ hpd', va_Nw.use rfl hno⟩, hni', sx_wd_at hF m2⟩ hps rfl hln hls.1 rfl hW8 hd ⟨hce, hsl⟩)
    · cases hrc
  case invokestatic i =>
    simp only [Bool.and_eq_true] at hl
    obtain ⟨rfl, hlk⟩ := hl
    rw [if_pos rfl, Bool.and_eq_true, decide_eq_true_eq] at m2
    obtain ⟨m2, hpd⟩ := m2
    have hps : PreS s H (va_Pc (sx_st N0 b av) (sx_B P D cA N0 b xs w)) (sx_st N0 b av) := ⟨hbl, fun U hU hW => ⟨rfl, hst U hU hW⟩⟩
    have hstk : sx_st N0 b (av.reverse ++ rest) = (sx_st N0 b av).reverse ++ sx_st N0 b rest := by
      unfold sx_st
      rw [List.map_append, List.map_reverse]
    have hln : (sx_st N0 b av).length = n := by rw [sx_st_len]; exact hav
    rw [hstk]
    by_cases hk : k = 0
    · rw [if_pos hk] at hlk
      exact back _ (va_runS hfix hC ⟨⟨rfl, rfl, hrm1, hrm2, hws, hcode, sx_wd_at hF m1, sx_wd_at hF m4, ⟨hy1, hy2⟩, hpar _ hpd, sx_wd_at hF hlk⟩, sx_wd_at hF m2⟩ hps rfl hln hls.1 rfl hW8 hd ⟨hce, hsl⟩)
    · rw [if_neg hk] at hlk
      obtain ⟨host, hno⟩ := nest hlk
      exact back _ (va_runSN (host := host) hfix hC ⟨⟨⟨rfl, rfl, hrm1, hrm2, hws, hcode⟩, sx_wd_at hF m1, sx_wd_at hF m4, ⟨hy1, hy2⟩, hpar _ hpd, va_Nw.use rfl hno⟩, sx_wd_at hF m2, trivial⟩ hps rfl hln hls.1 rfl hW8 hd ⟨hce, hsl⟩)
  all_goals (cases hl)
end SXC
section SXE
variable {p : Program} {l : Launch} {e : Env} {R : Room} {s : State} {m : MethodId} {args : Array Value} {below : List Frame} {meth : Method} {c : Code} {Q : State → Prop}
variable {P : sx_P} {D : va_G} {cA : Nat → ClassId} {N0 b nL : Nat} {xs : List Int32} {own : String} {cc : ByteArray}
/-- an answer as the method's descriptor has it -/
def sx_retOk (ret : Option FieldType) (I : Instr) (st : List Value) : Option (Option Value) := match I, ret, st with
  | .return_, none, [] => some none
  | .ireturn, some ty, [.int v] => if narrow ty (.int v) = .int v then some (some (.int v)) else none
  | .lreturn, some .long, [.long v] => some (some (.long v))
  | _, _, _ => none
def sx_MQ (P : sx_P) (D : va_G) (cA : Nat → ClassId) (N0 b : Nat) (xs : List Int32) (F : Option Value → sx_W → Prop) (mc ms : Nat) (s : State) (args : Array Value) (below : List Frame) : State → Prop := MQ below (sx_Q P D cA N0 b xs F) args s mc ms (fun q => N0 ≤ q)
theorem sx_ret_G (hF : sx_Fx P D cA N0 b nL xs own cc p R s m args c) (hn : ∀ w ∈ P.2.2.2.2, sx_isNest w = true) {ret : Option FieldType} (hr : meth.sig.returnType = ret) (hlocks : meth.locks = false) {E : sx_E} (hdec : sx_dec cc E = true) {F : Option Value → sx_W → Prop} {mc ms cells slots : Nat} (hce : cells ≤ mc) (hsl : slots ≤ ms) {w : sx_W} {lv : sx_L} {st : List Value} {r : Option Value}
    (hs : sx_retOk ret E.2.1 st = some r) (hq : F r w) : sx_G p l e R s m args below meth c (sx_MQ P D cA N0 b xs F mc ms s args below) P D cA N0 b nL cells slots w E.1 lv st := by
  obtain ⟨pc, I, len, a, k, q, z⟩ := E
  unfold sx_dec at hdec
  rw [Bool.and_eq_true, decide_eq_true_eq, Bool.or_eq_true, decide_eq_true_eq] at hdec
  obtain ⟨hd, hlen⟩ := hdec
  dsimp only at hd hlen hs
  show sx_G p l e R s m args below meth c _ P D cA N0 b nL cells slots w pc lv st
  intro H locs ls hH hS hl
  have hst := sx_start hF hn hH hS
  refine W.widen hce hsl ?_
  have hqq : ∀ t : State, t.heap = H → s.WarmedH t.vm → sx_Q P D cA N0 b xs F args s (.returned (r.map (sx_sh N0 b))) t := fun t ht hW => ⟨⟨r, w, rfl, hq, hst t ht hW⟩, hS.F ht⟩
  unfold sx_retOk at hs
  split at hs
  · cases hs
    have hd' : decode cc pc = .ok (.return_, 1) := by
      rcases hlen with h1 | h1
      · cases h1
      · rw [hd, ← h1]; rfl
    exact W.vret hF.1 hF.2.1 hr hqq hS.2.2 hd'
  · rename_i ty v
    have hd' : decode cc pc = .ok (.ireturn, 1) := by
      rcases hlen with h1 | h1
      · cases h1
      · rw [hd, ← h1]; rfl
    by_cases hn : narrow ty (.int v) = .int v
    · rw [if_pos hn] at hs
      cases hs
      exact W.zret hF.1 hF.2.1 hr hn hqq hS.2.2 hd'
    · rw [if_neg hn] at hs; cases hs
  · rename_i v
    cases hs
    have hd' : decode cc pc = .ok (.lreturn, 1) := by
      rcases hlen with h1 | h1
      · cases h1
      · rw [hd, ← h1]; rfl
    exact W.lret hF.1 hF.2.1 hr hqq hS.2.2 hd'
  · cases hs
end SXE
end
section
/-! THE READER OF ROADS: the simple machine over intervals. A value: (0, lo, hi) an int between; (1, lo, hi) a long between; (2, k, _) the cell k; (3, ..) the script; (4, i, _) the script's number i (8: its length) -/
abbrev ax_V : Type := Nat × Int × Int
/-- a row by runs -/
abbrev ax_A : Type := List (Nat × ax_V)
abbrev ax_W : Type := List (Nat × ax_A)
abbrev ax_N : Type := List (Int × Int)
abbrev ax_L : Type := List (Nat × ax_V)
/-- numbers of the script, pc, locals, operands, world, cells, slots -/
abbrev ax_S : Type := ax_N × Nat × ax_L × List ax_V × ax_W × Nat × Nat
abbrev ax_O : Type := ax_N × Option ax_V × ax_W
def ax_var (xs : List Int32) (i : Nat) : Int32 := if i = 8 then Int32.ofNat xs.length else xs.getD i 0
def ax_g (xs : List Int32) (a : ax_V) (v : Value) : Prop := match a.1 with
  | 0 => ∃ x : Int32, v = .int x ∧ a.2.1 ≤ x.toInt ∧ x.toInt ≤ a.2.2
  | 1 => ∃ x : Int64, v = .long x ∧ a.2.1 ≤ x.toInt ∧ x.toInt ≤ a.2.2
  | 2 => v = .ref a.2.1.toNat
  | 3 => v = .retAddr 0
  | 4 => v = .int (ax_var xs a.2.1.toNat)
  | 5 => v = .null
  | _ => False
def ax_env (xs : List Int32) (env : ax_N) : Prop := ∀ (i : Nat) (q : Int × Int), env[i]? = some q → q.1 ≤ (ax_var xs i).toInt ∧ (ax_var xs i).toInt ≤ q.2
def ax_iv (env : ax_N) (a : ax_V) : Option (Int × Int) := match a.1 with
  | 0 => some (a.2.1, a.2.2)
  | 4 => env[a.2.1.toNat]?
  | _ => none
def ax_top : ax_V := (0, -2147483648, 2147483647)
def ax_topL : ax_V := (1, -9223372036854775808, 9223372036854775807)
def ax_seg (xs : List Int32) : ax_A → List Value → Prop
  | [], vs => vs = []
  | (n, a) :: r, vs => n ≤ vs.length ∧ (∀ v ∈ vs.take n, ax_g xs a v) ∧ ax_seg xs r (vs.drop n)
def ax_len : ax_A → Nat
  | [] => 0
  | (n, _) :: r => n + ax_len r
def ax_nth : ax_A → Nat → Option ax_V
  | [], _ => none
  | (n, a) :: r, k => if k < n then some a else ax_nth r (k - n)
def ax_con (n : Nat) (a : ax_V) (r : ax_A) : ax_A := if n = 0 then r else match r with
  | [] => [(n, a)]
  | (m, b) :: r' => if a = b then (n + m, a) :: r' else (n, a) :: (m, b) :: r'
def ax_app : ax_A → ax_A → ax_A
  | [], r => r
  | (n, a) :: l, r => ax_con n a (ax_app l r)
def ax_take : ax_A → Nat → ax_A
  | [], _ => []
  | (n, a) :: r, k => if k ≤ n then ax_con k a [] else (n, a) :: ax_take r (k - n)
def ax_drop : ax_A → Nat → ax_A
  | [], _ => []
  | (n, a) :: r, k => if k < n then (n - k, a) :: r else ax_drop r (k - n)
def ax_put (r : ax_A) (k : Nat) (a : ax_V) : ax_A := ax_app (ax_take r k) (ax_con 1 a (ax_drop r (k + 1)))
/-- two values as one -/
def ax_join (env : ax_N) (a b : ax_V) : Option ax_V := if a = b then some a else match ax_iv env a, ax_iv env b with
  | some p, some q => some (0, min p.1 q.1, max p.2 q.2)
  | _, _ => if a.1 = 1 ∧ b.1 = 1 then some (1, min a.2.1 b.2.1, max a.2.2 b.2.2) else none
def ax_jmap (env : ax_N) (a : ax_V) : ax_A → Option ax_A
  | [] => some []
  | (n, b) :: r => match ax_join env a b, ax_jmap env a r with
    | some c, some r' => some (ax_con n c r')
    | _, _ => none
def ax_jall (env : ax_N) : ax_A → Option ax_V
  | [] => none
  | [(_, a)] => some a
  | (_, a) :: r => match ax_jall env r with
    | some b => ax_join env a b
    | none => none
/-- a value laid at some place from l to h -/
def ax_weak (env : ax_N) (r : ax_A) (l h : Nat) (a : ax_V) : Option ax_A := match ax_jmap env a (ax_take (ax_drop r l) (h + 1 - l)) with
  | some m => some (ax_app (ax_take r l) (ax_app m (ax_drop r (h + 1))))
  | none => none
def ax_gw (xs : List Int32) : ax_W → sx_W → Prop
  | [], w => w = []
  | (t, r) :: l, w => match w with
    | [] => False
    | x :: w' => x.1 = t ∧ ax_seg xs r x.2 ∧ ax_gw xs l w'
def ax_gl (xs : List Int32) (l : ax_L) (lv : sx_L) : Prop := ∀ q ∈ l, ∃ v, sx_get lv q.1 = some v ∧ ax_g xs q.2 v
def ax_gs (xs : List Int32) : List ax_V → List Value → Prop
  | [], st => st = []
  | a :: l, st => match st with
    | [] => False
    | v :: st' => ax_g xs a v ∧ ax_gs xs l st'
noncomputable def ax_get (l : ax_L) (i : Nat) : Option ax_V := (sx_ff (fun q => Nat.beq q.1 i) l).map (fun q => q.2)
def ax_set (l : ax_L) (i : Nat) (a : ax_V) : ax_L := (i, a) :: l.filter (fun q => !(q.1 == i) && !(q.1 + 1 == i && q.2.1 == 1))
def ax_set2 (l : ax_L) (i : Nat) (a : ax_V) : ax_L := (i, a) :: l.filter (fun q => !(q.1 == i) && (!(q.1 == i + 1) && !(q.1 + 1 == i && q.2.1 == 1)))
def ax_cat (a : ax_V) : Nat := if a.1 = 1 then 2 else 1
def ax_csum (st : List ax_V) : Nat := (st.map ax_cat).sum
def ax_args : Nat → List ax_V → ax_L
  | _, [] => []
  | i, a :: l => (i, a) :: ax_args (i + ax_cat a) l
/-! numbers -/
def ax_ex (f : Int32 → Int32 → Option Int32) (p q : Int × Int) : Option ax_V := if p.1 = p.2 ∧ q.1 = q.2 then (f (Int32.ofInt p.1) (Int32.ofInt q.1)).map (fun z => (0, z.toInt, z.toInt)) else none
def ax_rg (l h : Int) : ax_V := if -2147483648 ≤ l ∧ h ≤ 2147483647 then (0, l, h) else ax_top
def ax_iadd (env : ax_N) (a b : ax_V) : Option ax_V := match ax_iv env a, ax_iv env b with
  | some p, some q => some (ax_rg (p.1 + q.1) (p.2 + q.2))
  | _, _ => none
def ax_isub (env : ax_N) (a b : ax_V) : Option ax_V := match ax_iv env a, ax_iv env b with
  | some p, some q => some (ax_rg (p.1 - q.2) (p.2 - q.1))
  | _, _ => none
def ax_imul (env : ax_N) (a b : ax_V) : Option ax_V := match ax_iv env a, ax_iv env b with
  | some p, some q => if 0 ≤ p.1 ∧ 0 ≤ q.1 then some (ax_rg (p.1 * q.1) (p.2 * q.2)) else (ax_ex (fun x y => some (x * y)) p q).or (some ax_top)
  | _, _ => none
def ax_iand (env : ax_N) (a b : ax_V) : Option ax_V := match ax_iv env a, ax_iv env b with
  | some p, some q => if q.1 = -1 ∧ q.2 = -1 then some a else (ax_ex (fun x y => some (x &&& y)) p q).or (if q.1 = q.2 ∧ 0 ≤ q.1 then some (0, 0, q.2) else some ax_top)
  | _, _ => none
/-- an operation that is known of single numbers alone -/
def ax_gen (f : Int32 → Int32 → Int32) (env : ax_N) (a b : ax_V) : Option ax_V := match ax_iv env a, ax_iv env b with
  | some p, some q => (ax_ex (fun x y => some (f x y)) p q).or (some ax_top)
  | _, _ => none
def ax_ishr (env : ax_N) (a b : ax_V) : Option ax_V := match ax_iv env a, ax_iv env b with
  | some p, some q => if p.1 = 0 ∧ p.2 = 0 then some (0, 0, 0) else (ax_ex (fun x y => some (x >>> (y &&& 31))) p q).or (some ax_top)
  | _, _ => none
def ax_quo (f : Int32 → Int32 → Option Int32) (env : ax_N) (a b : ax_V) : Option ax_V := match ax_iv env a, ax_iv env b with
  | some p, some q => if 0 < q.1 ∨ q.2 < 0 then (ax_ex f p q).or (some ax_top) else none
  | _, _ => none
def ax_lex (f : Int64 → Int64 → Int64) (a b : ax_V) : Option ax_V := if a.1 = 1 ∧ b.1 = 1 then (if a.2.1 = a.2.2 ∧ b.2.1 = b.2.2 then some (1, (f (Int64.ofInt a.2.1) (Int64.ofInt b.2.1)).toInt, (f (Int64.ofInt a.2.1) (Int64.ofInt b.2.1)).toInt) else some ax_topL) else none
def ax_lsh (f : Int64 → Int32 → Int64) (env : ax_N) (a b : ax_V) : Option ax_V := if a.1 = 1 then (match ax_iv env b with
  | some q => if a.2.1 = 0 ∧ a.2.2 = 0 then some (1, 0, 0) else if a.2.1 = a.2.2 ∧ q.1 = q.2 then some (1, (f (Int64.ofInt a.2.1) (Int32.ofInt q.1)).toInt, (f (Int64.ofInt a.2.1) (Int32.ofInt q.1)).toInt) else some ax_topL
  | none => none) else none
/-! branches: what is known of the numbers where a comparison holds or doesn't -/
def ax_upd (env : ax_N) (a : ax_V) (p : Int × Int) : ax_N := if a.1 = 4 then env.set a.2.1.toNat p else env
def ax_ltT (p q : Int × Int) : (Int × Int) × (Int × Int) := ((p.1, min p.2 (q.2 - 1)), (max q.1 (p.1 + 1), q.2))
def ax_ltF (p q : Int × Int) : (Int × Int) × (Int × Int) := ((max p.1 q.1, p.2), (q.1, min q.2 p.2))
def ax_eqT (p q : Int × Int) : (Int × Int) × (Int × Int) := ((max p.1 q.1, min p.2 q.2), (max p.1 q.1, min p.2 q.2))
def ax_neq (p q : Int × Int) : Int × Int := if q.1 = q.2 then (if p.1 = q.1 then p.1 + 1 else p.1, if p.2 = q.1 then p.2 - 1 else p.2) else p
def ax_eqF (p q : Int × Int) : (Int × Int) × (Int × Int) := (ax_neq p q, ax_neq q p)
def ax_cut (k : ClassFile.Cond) (t : Bool) (p q : Int × Int) : (Int × Int) × (Int × Int) := match k with
  | .eq => if t then ax_eqT p q else ax_eqF p q
  | .ne => if t then ax_eqF p q else ax_eqT p q
  | .lt => if t then ax_ltT p q else ax_ltF p q
  | .ge => if t then ax_ltF p q else ax_ltT p q
  | .gt => if t then ((ax_ltT q p).2, (ax_ltT q p).1) else ((ax_ltF q p).2, (ax_ltF q p).1)
  | .le => if t then ((ax_ltF q p).2, (ax_ltF q p).1) else ((ax_ltT q p).2, (ax_ltT q p).1)
def ax_emp (c : (Int × Int) × (Int × Int)) : Bool := decide (c.1.2 < c.1.1) || decide (c.2.2 < c.2.1)
/-- a branch's ways -/
def ax_way (k : ClassFile.Cond) (t : Bool) (env : ax_N) (a b : ax_V) (p q : Int × Int) (pc : Nat) (l : ax_L) (st : List ax_V) (w : ax_W) (c s : Nat) : List ax_S :=
  if ax_emp (ax_cut k t p q) then [] else [(ax_upd (ax_upd env a (ax_cut k t p q).1) b (ax_cut k t p q).2, pc, l, st, w, c, s)]
def ax_br (k : ClassFile.Cond) (off : Int) (a b : ax_V) (env : ax_N) (pc : Nat) (l : ax_L) (st : List ax_V) (w : ax_W) (c s : Nat) : Option (List ax_S) := match ax_iv env a, ax_iv env b with
  | some p, some q => if 0 ≤ (pc : Int) + off ∧ ¬ (a.1 = 4 ∧ b.1 = 4) then some (ax_way k true env a b p q ((pc : Int) + off).toNat l st w c s ++ ax_way k false env a b p q (pc + 3) l st w c s) else none
  | _, _ => none
def ax_fit (env : ax_N) (ty : FieldType) (a : ax_V) : Bool := match ty with
  | .int => (ax_iv env a).isSome
  | .boolean => match ax_iv env a with
    | some p => decide (0 ≤ p.1) && decide (p.2 ≤ 1)
    | none => false
  | .long => a.1 == 1
  | .object _ => a.1 == 2
  | .array _ => a.1 == 2
  | _ => false
/-- one value of a constant kind for a field at first -/
def ax_dv (t : FieldType) : ax_V := match t with
  | .long => (1, 0, 0)
  | .object _ => (5, 0, 0)
  | .array _ => (5, 0, 0)
  | _ => (0, 0, 0)
def ax_rep (f : Nat → ax_V) : Nat → Nat → ax_A
  | _, 0 => []
  | i, n + 1 => ax_con 1 (f i) (ax_rep f (i + 1) n)
def ax_ret (env : ax_N) (ret : Option FieldType) (I : Instr) (st : List ax_V) : Option (Option ax_V) := match I with
  | .return_ => match ret, st with
    | none, [] => some none
    | _, _ => none
  | .ireturn => match ret, st with
    | some ty, [a] => if (ty = .int ∧ (ax_iv env a).isSome = true) ∨ (ty = .boolean ∧ ax_fit env .boolean a = true) then some (some a) else none
    | _, _ => none
  | .lreturn => match ret, st with
    | some ty, [a] => if ty = .long ∧ a.1 = 1 then some (some a) else none
    | _, _ => none
  | _ => none
end
section
/-! the reader's steps and runs -/
def ax_nofp (t : FieldType) : Bool := match t with
  | .float => false
  | .double => false
  | _ => true
def ax_1 (env : ax_N) (pc : Nat) (l : ax_L) (st : List ax_V) (w : ax_W) (c s : Nat) : Option (List ax_S) := some [(env, pc, l, st, w, c, s)]
def ax_b2 (g : ax_N → ax_V → ax_V → Option ax_V) (env : ax_N) (pc : Nat) (l : ax_L) (st : List ax_V) (w : ax_W) (c s : Nat) : Option (List ax_S) := match st with
  | b :: a :: r => match g env a b with
    | some x => ax_1 env (pc + 1) l (x :: r) w c s
    | none => none
  | _ => none
noncomputable def ax_ld (t : Nat) (n i : Nat) (env : ax_N) (pc : Nat) (l : ax_L) (st : List ax_V) (w : ax_W) (c s : Nat) : Option (List ax_S) := match ax_get l i with
  | some a => if (t = 0 ∧ (a.1 = 0 ∨ a.1 = 4)) ∨ (t = 1 ∧ a.1 = 1) ∨ (t = 2 ∧ (a.1 = 2 ∨ a.1 = 3)) then ax_1 env (pc + n) l (a :: st) w c s else none
  | none => none
def ax_sto (t : Nat) (n nL i : Nat) (env : ax_N) (pc : Nat) (l : ax_L) (st : List ax_V) (w : ax_W) (c s : Nat) : Option (List ax_S) := match st with
  | a :: r => if t = 1 then (if a.1 = 1 ∧ i + 1 < nL then ax_1 env (pc + n) (ax_set2 l i a) r w c s else none)
    else if i < nL ∧ ((t = 0 ∧ (a.1 = 0 ∨ a.1 = 4)) ∨ (t = 2 ∧ a.1 = 2)) then ax_1 env (pc + n) (ax_set l i a) r w c s else none
  | _ => none
def ax_tsw1 (pc : Nat) (off : Int) (env : ax_N) (l : ax_L) (st : List ax_V) (w : ax_W) (c s : Nat) : Option ax_S := if 0 ≤ (pc : Int) + off then some (env, ((pc : Int) + off).toNat, l, st, w, c, s) else none
/-- the ways of a table: each number between, from j on -/
def ax_tswG (p : Int × Int) (lo : Int) (offs : List Int) (a : ax_V) (env : ax_N) (pc : Nat) (l : ax_L) (st : List ax_V) (w : ax_W) (c s : Nat) : Option (List ax_S) := match offs with
  | [] => some []
  | o :: r => match ax_tswG p (lo + 1) r a env pc l st w c s with
    | some ys => if p.1 ≤ lo ∧ lo ≤ p.2 then (match ax_tsw1 pc o (ax_upd env a (lo, lo)) l st w c s with
      | some y => some (y :: ys)
      | none => none) else some ys
    | none => none
def ax_tsw (d lo hi : Int) (offs : Array Int) (a : ax_V) (env : ax_N) (pc : Nat) (l : ax_L) (st : List ax_V) (w : ax_W) (c s : Nat) : Option (List ax_S) := match ax_iv env a with
  | some p => if lo + (offs.toList.length : Int) = hi + 1 then (match ax_tswG p lo offs.toList a env pc l st w c s with
    | some ys => match ax_tsw1 pc d (ax_upd env a (p.1, min p.2 (lo - 1))) l st w c s, ax_tsw1 pc d (ax_upd env a (max p.1 (hi + 1), p.2)) l st w c s with
      | some y1, some y2 => some ((if p.1 < lo then [y1] else []) ++ ((if hi < p.2 then [y2] else []) ++ ys))
      | _, _ => none
    | none => none) else none
  | none => none
def ax_lswG (p : Int × Int) (ps : List (Int × Int)) (a : ax_V) (env : ax_N) (pc : Nat) (l : ax_L) (st : List ax_V) (w : ax_W) (c s : Nat) : Option (List ax_S) := match ps with
  | [] => some []
  | (x, o) :: r => match ax_lswG p r a env pc l st w c s with
    | some ys => if p.1 ≤ x ∧ x ≤ p.2 then (match ax_tsw1 pc o (ax_upd env a (x, x)) l st w c s with
      | some y => some (y :: ys)
      | none => none) else some ys
    | none => none
def ax_lsw (d : Int) (ps : Array (Int × Int)) (a : ax_V) (env : ax_N) (pc : Nat) (l : ax_L) (st : List ax_V) (w : ax_W) (c s : Nat) : Option (List ax_S) := match ax_iv env a with
  | some p => if (ps.toList.zip (ps.toList.drop 1)).all (fun (a, next) => a.1 < next.1) = true then (match ax_lswG p ps.toList a env pc l st w c s, ax_tsw1 pc d env l st w c s with
    | some ys, some y => some (if p.1 = p.2 ∧ ps.toList.any (fun q => q.1 == p.1) = true then ys else y :: ys)
    | _, _ => none) else none
  | none => none
def ax_aget (t : Nat) (env : ax_N) (pc : Nat) (l : ax_L) (st : List ax_V) (w : ax_W) (c s : Nat) : Option (List ax_S) := match st with
  | i :: x :: r => match ax_iv env i with
    | some p => if x.1 = 2 then (match w[x.2.1.toNat]? with
      | some (t', vs) => if t' = t ∧ 0 ≤ p.1 ∧ p.2 < (ax_len vs : Int) then (if p.1 = p.2 then (match ax_nth vs p.1.toNat with
          | some y => if (ax_iv env y).isSome then ax_1 env (pc + 1) l (y :: r) w c s else none
          | none => none) else (match ax_jall env (ax_take (ax_drop vs p.1.toNat) (p.2.toNat + 1 - p.1.toNat)) with
          | some y => if (ax_iv env y).isSome then ax_1 env (pc + 1) l (y :: r) w c s else none
          | none => none)) else none
      | none => none) else if x.1 = 3 ∧ t = 100 then (match env[8]? with
        | some q => if p.1 = p.2 ∧ 0 ≤ p.1 ∧ p.1 < 8 ∧ p.1 < q.1 ∧ p.1.toNat < env.length then ax_1 env (pc + 1) l ((4, p.1, 0) :: r) w c s else none
        | none => none) else none
    | none => none
  | _ => none
def ax_nar (t : Nat) (p : Int × Int) (a : ax_V) : ax_V := if t = 100 then a else if p.1 = p.2 then (0, (vp_nar .byte (Int32.ofInt p.1)).toInt, (vp_nar .byte (Int32.ofInt p.1)).toInt) else (0, -128, 127)
def ax_aput (t : Nat) (env : ax_N) (pc : Nat) (l : ax_L) (st : List ax_V) (w : ax_W) (c s : Nat) : Option (List ax_S) := match st with
  | v :: i :: x :: r => match ax_iv env i, ax_iv env v with
    | some p, some q => if x.1 = 2 then (match w[x.2.1.toNat]? with
      | some (t', vs) => if t' = t ∧ 0 ≤ p.1 ∧ p.2 < (ax_len vs : Int) then (if p.1 = p.2 then ax_1 env (pc + 1) l r (w.set x.2.1.toNat (t', ax_put vs p.1.toNat (ax_nar t q v))) c s
          else (match ax_weak env vs p.1.toNat p.2.toNat (ax_nar t q v) with
          | some vs' => ax_1 env (pc + 1) l r (w.set x.2.1.toNat (t', vs')) c s
          | none => none)) else none
      | none => none) else none
    | _, _ => none
  | _ => none
def ax_sg (env : ax_N) (a : ax_V) : Option Nat := match ax_iv env a with
  | some p => if p.1 = p.2 ∧ 0 ≤ p.1 then some p.1.toNat else none
  | none => none
def ax_copy (env : ax_N) (pc : Nat) (l : ax_L) (st : List ax_V) (w : ax_W) (c s : Nat) : Option (List ax_S) := match st with
  | n :: dp :: x1 :: sp :: x0 :: r => match ax_sg env n, ax_sg env dp, ax_sg env sp with
    | some n, some dp, some sp => if x0.1 = 2 ∧ x1.1 = 2 ∧ ax_csum r ≤ 8 then (match w[x0.2.1.toNat]?, w[x1.2.1.toNat]? with
      | some (t0, f), some (t1, g) => if t0 = 100 ∧ t1 = 100 ∧ sp + n ≤ ax_len f ∧ dp + n ≤ ax_len g then ax_1 env (pc + 3) l r (w.set x1.2.1.toNat (t1, ax_app (ax_take g dp) (ax_app (ax_take (ax_drop f sp) n) (ax_drop g (dp + n))))) c s else none
      | _, _ => none) else none
    | _, _, _ => none
  | _ => none
def ax_mm (up : Bool) (env : ax_N) (pc : Nat) (l : ax_L) (st : List ax_V) (w : ax_W) (c s : Nat) : Option (List ax_S) := match st with
  | b :: a :: r => match ax_iv env a, ax_iv env b with
    | some p, some q => if ax_csum r ≤ 8 then ax_1 env (pc + 3) l ((0, if up then max p.1 q.1 else min p.1 q.1, if up then max p.2 q.2 else min p.2 q.2) :: r) w c s else none
    | _, _ => none
  | _ => none
noncomputable def ax_step (P : sx_P) (nL : Nat) (E : sx_E) (S : ax_S) : Option (List ax_S) := match S with
  | (env, pc, l, st, w, c, s) => match E with
  | (_, I, _, a, k, _, z) => match I with
    | .iconst n => ax_1 env (pc + 1) l ((0, (Int32.ofInt n).toInt, (Int32.ofInt n).toInt) :: st) w c s
    | .bipush n => ax_1 env (pc + 2) l ((0, (Int8.ofInt n).toInt32.toInt, (Int8.ofInt n).toInt32.toInt) :: st) w c s
    | .sipush n => ax_1 env (pc + 3) l ((0, (Int16.ofInt n).toInt32.toInt, (Int16.ofInt n).toInt32.toInt) :: st) w c s
    | .lconst n => ax_1 env (pc + 1) l ((1, (Int64.ofNat (n : Nat)).toInt, (Int64.ofNat (n : Nat)).toInt) :: st) w c s
    | .ldc _ => ax_1 env (pc + 2) l ((0, (Int32.ofInt z).toInt, (Int32.ofInt z).toInt) :: st) w c s
    | .ldc_w _ => ax_1 env (pc + 3) l ((0, (Int32.ofInt z).toInt, (Int32.ofInt z).toInt) :: st) w c s
    | .ldc2_w _ => ax_1 env (pc + 3) l ((1, (Int64.ofInt z).toInt, (Int64.ofInt z).toInt) :: st) w c s
    | .iload_n i => ax_ld 0 1 (i : Nat) env pc l st w c s
    | .iload i => ax_ld 0 2 i env pc l st w c s
    | .lload_n i => ax_ld 1 1 (i : Nat) env pc l st w c s
    | .lload i => ax_ld 1 2 i env pc l st w c s
    | .aload_n i => ax_ld 2 1 (i : Nat) env pc l st w c s
    | .aload i => ax_ld 2 2 i env pc l st w c s
    | .istore_n i => ax_sto 0 1 nL (i : Nat) env pc l st w c s
    | .istore i => ax_sto 0 2 nL i env pc l st w c s
    | .lstore_n i => ax_sto 1 1 nL (i : Nat) env pc l st w c s
    | .lstore i => ax_sto 1 2 nL i env pc l st w c s
    | .astore_n i => ax_sto 2 1 nL (i : Nat) env pc l st w c s
    | .astore i => ax_sto 2 2 nL i env pc l st w c s
    | .iinc i n => match ax_get l i with
      | some x => (match ax_iadd env x (0, (Int32.ofInt n).toInt, (Int32.ofInt n).toInt) with
        | some y => if i < nL then ax_1 env (pc + 3) (ax_set l i y) st w c s else none
        | none => none)
      | none => none
    | .iadd => ax_b2 ax_iadd env pc l st w c s
    | .isub => ax_b2 ax_isub env pc l st w c s
    | .imul => ax_b2 ax_imul env pc l st w c s
    | .iand => ax_b2 ax_iand env pc l st w c s
    | .ior => ax_b2 (ax_gen (fun x y => x ||| y)) env pc l st w c s
    | .ixor => ax_b2 (ax_gen (fun x y => x ^^^ y)) env pc l st w c s
    | .idiv => ax_b2 (ax_quo (fun x y => if y = 0 then none else some (x / y))) env pc l st w c s
    | .irem => ax_b2 (ax_quo (fun x y => if y = 0 then none else some (x - x / y * y))) env pc l st w c s
    | .ishl => ax_b2 (ax_gen (fun x y => x <<< (y &&& 31))) env pc l st w c s
    | .ishr => ax_b2 ax_ishr env pc l st w c s
    | .iushr => ax_b2 (ax_gen (fun x y => (x.toUInt32 >>> (y.toUInt32 &&& Int32.toUInt32 31)).toInt32)) env pc l st w c s
    | .i2l => match st with
      | a :: r => match ax_iv env a with
        | some p => ax_1 env (pc + 1) l ((1, p.1, p.2) :: r) w c s
        | none => none
      | _ => none
    | .i2b => match st with
      | a :: r => match ax_iv env a with
        | some p => ax_1 env (pc + 1) l ((if p.1 = p.2 then (0, (Int32.ofInt p.1).toInt8.toInt32.toInt, (Int32.ofInt p.1).toInt8.toInt32.toInt) else (0, -128, 127)) :: r) w c s
        | none => none
      | _ => none
    | .l2i => match st with
      | a :: r => if a.1 = 1 then ax_1 env (pc + 1) l ((if a.2.1 = a.2.2 then (0, (Int64.ofInt a.2.1).toInt32.toInt, (Int64.ofInt a.2.1).toInt32.toInt) else ax_top) :: r) w c s else none
      | _ => none
    | .ladd => ax_b2 (fun _ => ax_lex (fun x y => x + y)) env pc l st w c s
    | .lsub => ax_b2 (fun _ => ax_lex (fun x y => x - y)) env pc l st w c s
    | .lmul => ax_b2 (fun _ => ax_lex (fun x y => x * y)) env pc l st w c s
    | .land => ax_b2 (fun _ => ax_lex (fun x y => x &&& y)) env pc l st w c s
    | .lor => ax_b2 (fun _ => ax_lex (fun x y => x ||| y)) env pc l st w c s
    | .lxor => ax_b2 (fun _ => ax_lex (fun x y => x ^^^ y)) env pc l st w c s
    | .lshl => ax_b2 (ax_lsh (fun x y => x <<< (y.toInt64 &&& 63))) env pc l st w c s
    | .lushr => ax_b2 (ax_lsh (fun x y => (x.toUInt64 >>> (y.toInt64.toUInt64 &&& Int64.toUInt64 63)).toInt64)) env pc l st w c s
    | .lcmp => match st with
      | b :: a :: r => if a.1 = 1 ∧ b.1 = 1 then ax_1 env (pc + 1) l ((if b.2.2 < a.2.1 then (0, 1, 1) else if a.2.2 < b.2.1 then (0, -1, -1) else if a.2.1 = a.2.2 ∧ b.2.1 = b.2.2 then (0, 0, 0) else (0, -1, 1)) :: r) w c s else none
      | _ => none
    | .dup => match st with
      | a :: r => if a.1 = 1 then none else ax_1 env (pc + 1) l (a :: a :: r) w c s
      | _ => none
    | .pop => match st with
      | a :: r => if a.1 = 1 then none else ax_1 env (pc + 1) l r w c s
      | _ => none
    | .dup_x1 => match st with
      | a :: b :: r => if a.1 = 1 ∨ b.1 = 1 then none else ax_1 env (pc + 1) l (a :: b :: a :: r) w c s
      | _ => none
    | .dup2 => match st with
      | a :: b :: r => if a.1 = 1 ∨ b.1 = 1 then none else ax_1 env (pc + 1) l (a :: b :: a :: b :: r) w c s
      | _ => none
    | .ifCond kc off => match st with
      | a :: r => ax_br kc off a (0, 0, 0) env pc l r w c s
      | _ => none
    | .if_icmp kc off => match st with
      | b :: a :: r => ax_br kc off a b env pc l r w c s
      | _ => none
    | .goto off => if 0 ≤ (pc : Int) + off then ax_1 env ((pc : Int) + off).toNat l st w c s else none
    | .tableswitch d lo hi offs => match st with
      | a :: r => ax_tsw d lo hi offs a env pc l r w c s
      | _ => none
    | .lookupswitch d ps => match st with
      | a :: r => ax_lsw d ps a env pc l r w c s
      | _ => none
    | .getfield _ => match st with
      | x :: r => if x.1 = 2 then (match w[x.2.1.toNat]? with
        | some (t, fs) => if t = a ∧ a < 100 then (match ax_nth fs k with
          | some y => ax_1 env (pc + 3) l (y :: r) w c s
          | none => none) else none
        | none => none) else none
      | _ => none
    | .putfield _ => match st with
      | y :: x :: r => if x.1 = 2 then (match w[x.2.1.toNat]? with
        | some (t, fs) => if t = a ∧ a < 100 ∧ k < ax_len fs ∧ ax_fit env (P.2.2.1 a k) y = true then ax_1 env (pc + 3) l r (w.set x.2.1.toNat (t, ax_put fs k y)) c s else none
        | none => none) else none
      | _ => none
    | .iaload => ax_aget 100 env pc l st w c s
    | .baload => ax_aget 101 env pc l st w c s
    | .iastore => ax_aput 100 env pc l st w c s
    | .bastore => ax_aput 101 env pc l st w c s
    | .arraylength => match st with
      | x :: r => if x.1 = 2 then (match w[x.2.1.toNat]? with
        | some (t, fs) => if (t = 100 ∨ t = 101) ∧ ax_len fs < 2147483648 then ax_1 env (pc + 1) l ((0, (ax_len fs : Int), (ax_len fs : Int)) :: r) w c s else none
        | none => none) else if x.1 = 3 then ax_1 env (pc + 1) l ((4, 8, 0) :: r) w c s else none
      | _ => none
    | .new _ => match P.2.1[a]? with
      | some q => if a < 100 ∧ (List.range q.2.2).all (fun j => ax_nofp (P.2.2.1 a j)) = true then ax_1 env (pc + 3) l ((2, (w.length : Int), 0) :: st) (w ++ [(a, ax_rep (fun j => ax_dv (P.2.2.1 a j)) 0 q.2.2)]) (c + 1) (s + q.2.2) else none
      | none => none
    | .newarray _ => match st with
      | x :: r => if x.1 = 0 ∧ x.2.1 = x.2.2 ∧ 0 ≤ x.2.1 ∧ x.2.1 < 1000000 then ax_1 env (pc + 2) l ((2, (w.length : Int), 0) :: r) (w ++ [(a, ax_con x.2.1.toNat (0, 0, 0) [])]) (c + 1) (s + x.2.1.toNat) else none
      | _ => none
    | .invokespecial _ => if a = 1000 then (match st with
      | x :: r => if x.1 = 2 ∧ ax_csum r ≤ 8 then ax_1 env (pc + 3) l r w c s else none
      | _ => none) else none
    | .invokestatic _ => if a = 1001 then ax_copy env pc l st w c s
      else if a = 1002 then ax_mm true env pc l st w c s
      else if a = 1003 then ax_mm false env pc l st w c s else none
    | _ => none
end
section
/-! whole roads: calls by contracts that are known, or read on the spot -/
/-- a contract: method, arguments, world, what may come back, how deep, cells, slots -/
abbrev ax_K : Type := Nat × List ax_V × ax_W × List (Option ax_V × ax_W) × Nat × Nat × Nat
/-- contracts; cells and slots that a method makes; methods whose ways back are laid together -/
abbrev ax_T : Type := List ax_K × List (Nat × Nat × Nat) × List Nat
def ax_leV (env : ax_N) (a b : ax_V) : Bool := if a = b then true else match b.1 with
  | 0 => match ax_iv env a with
    | some p => decide (b.2.1 ≤ p.1) && decide (p.2 ≤ b.2.2)
    | none => false
  | 1 => decide (a.1 = 1) && decide (b.2.1 ≤ a.2.1) && decide (a.2.2 ≤ b.2.2)
  | _ => false
def ax_leA (env : ax_N) : Nat → ax_A → ax_A → Bool
  | 0, _, _ => false
  | _ + 1, [], [] => true
  | f + 1, (n, a) :: r, (m, b) :: r' => ax_leV env a b && (if n = m then ax_leA env f r r' else if n < m then ax_leA env f r ((m - n, b) :: r') else ax_leA env f ((n - m, a) :: r) r')
  | _ + 1, _, _ => false
def ax_leW (env : ax_N) : ax_W → ax_W → Bool
  | [], [] => true
  | (t, r) :: w, (t', r') :: w' => decide (t = t') && (decide (r = r') || ax_leA env 60 r r') && ax_leW env w w'
  | _, _ => false
def ax_leL (env : ax_N) : List ax_V → List ax_V → Bool
  | [], [] => true
  | a :: l, b :: l' => ax_leV env a b && ax_leL env l l'
  | _, _ => false
def ax_jA (env : ax_N) : Nat → ax_A → ax_A → Option ax_A
  | 0, _, _ => none
  | _ + 1, [], [] => some []
  | f + 1, (n, a) :: r, (m, b) :: r' => match ax_join env a b with
    | some c => (match (if n = m then ax_jA env f r r' else if n < m then ax_jA env f r ((m - n, b) :: r') else ax_jA env f ((n - m, a) :: r) r') with
      | some q => some (ax_con (min n m) c q)
      | none => none)
    | none => none
  | _ + 1, _, _ => none
def ax_jW (env : ax_N) : ax_W → ax_W → Option ax_W
  | [], [] => some []
  | (t, r) :: w, (t', r') :: w' => if t = t' then (match (if r = r' then some r else ax_jA env 60 r r'), ax_jW env w w' with
    | some q, some z => some ((t, q) :: z)
    | _, _ => none) else none
  | _, _ => none
def ax_jN : ax_N → ax_N → ax_N
  | p :: l, q :: l' => (min p.1 q.1, max p.2 q.2) :: ax_jN l l'
  | _, _ => []
def ax_jO (a b : ax_O) : Option ax_O := match a.2.1, b.2.1 with
  | none, none => match ax_jW (ax_jN a.1 b.1) a.2.2 b.2.2 with
    | some w => some (ax_jN a.1 b.1, none, w)
    | none => none
  | some x, some y => match ax_join (ax_jN a.1 b.1) x y, ax_jW (ax_jN a.1 b.1) a.2.2 b.2.2 with
    | some z, some w => some (ax_jN a.1 b.1, some z, w)
    | _, _ => none
  | _, _ => none
def ax_mrg : List ax_O → Option ax_O
  | [] => none
  | [o] => some o
  | o :: l => match ax_mrg l with
    | some q => ax_jO o q
    | none => none
def ax_all {α : Type} (f : α → Option (List ax_O)) : List α → Option (List ax_O)
  | [] => some []
  | a :: l => match f a, ax_all f l with
    | some x, some y => some (x ++ y)
    | _, _ => none
def ax_con1 (env : ax_N) (mi : Nat) (av : List ax_V) (w : ax_W) : List ax_K → Option ax_K
  | [] => none
  | k :: l => if k.1 = mi ∧ ax_leL env av k.2.1 = true ∧ ax_leW env w k.2.2.1 = true then some k else ax_con1 env mi av w l
def ax_bud (mi : Nat) : List (Nat × Nat × Nat) → Nat × Nat
  | [] => (0, 0)
  | (i, c, s) :: l => if i = mi then (c, s) else ax_bud mi l
def ax_recv (P : sx_P) (M : sx_M) (w : ax_W) (av : List ax_V) : Bool := M.2.2.2.2.2.1 || match av with
  | x :: _ => decide (x.1 = 2) && (sx_isIni M || match w[x.2.1.toNat]? with
    | some (ci, _) => decide (ci < 100) && match P.2.1[ci]? with
      | some (C, _, _) => decide (C = M.1.cls)
      | none => false
    | none => false)
  | _ => false
def sx_isCall (E : sx_E) : Bool := match E.2.1 with
  | .invokevirtual _ => decide (E.2.2.2.1 < 1000)
  | .invokespecial _ => decide (E.2.2.2.1 < 1000)
  | .invokestatic _ => decide (E.2.2.2.1 < 1000)
  | _ => false
noncomputable def ax_run (P : sx_P) (T : ax_T) : Nat → Nat → sx_M → Nat → Nat → ax_S → Option (List ax_O)
  | 0, _, _, _, _, _ => none
  | n + 1, d, M, mc, ms, S => match S with
    | (env, pc, l, st, w, c, s) => match sx_fnd pc M.2.2.2.2.2.2.2 with
      | none => none
      | some E => match ax_ret env M.2.2.2.1 E.2.1 st with
        | some r => some [(env, r, w)]
        | none => if sx_isCall E then (match P.2.2.2.1[E.2.2.2.1]? with
          | none => none
          | some M' => if M'.2.2.2.2.1 ≤ st.length ∧ ax_csum (st.drop M'.2.2.2.2.1) ≤ 8 ∧ ax_csum (st.take M'.2.2.2.2.1) ≤ M'.2.2.1 ∧ ax_recv P M' w (st.take M'.2.2.2.2.1).reverse = true then
              (match ax_con1 env E.2.2.2.1 (st.take M'.2.2.2.2.1).reverse w T.1 with
              | some k => if k.2.2.2.2.1 + 1 ≤ d ∧ c + k.2.2.2.2.2.1 ≤ mc ∧ s + k.2.2.2.2.2.2 ≤ ms then
                  ax_all (fun o => ax_run P T n d M mc ms (env, pc + 3, l, o.1.toList ++ st.drop M'.2.2.2.2.1, o.2, c + k.2.2.2.2.2.1, s + k.2.2.2.2.2.2)) k.2.2.2.1 else none
              | none => (match d with
                | 0 => none
                | d' + 1 => if c + (ax_bud E.2.2.2.1 T.2.1).1 ≤ mc ∧ s + (ax_bud E.2.2.2.1 T.2.1).2 ≤ ms then
                    (match ax_run P T n d' M' (ax_bud E.2.2.2.1 T.2.1).1 (ax_bud E.2.2.2.1 T.2.1).2 (env, 0, ax_args 0 (st.take M'.2.2.2.2.1).reverse, [], w, 0, 0) with
                    | none => none
                    | some outs => (match (if T.2.2.contains E.2.2.2.1 then (ax_mrg outs).map (fun o => [o]) else some outs) with
                      | none => none
                      | some outs' => ax_all (fun o => ax_run P T n d M mc ms (o.1, pc + 3, l, o.2.1.toList ++ st.drop M'.2.2.2.2.1, o.2.2, c + (ax_bud E.2.2.2.1 T.2.1).1, s + (ax_bud E.2.2.2.1 T.2.1).2)) outs')) else none))
            else none)
          else (match ax_step P M.2.2.1 E S with
          | none => none
          | some Ss => ax_all (fun S' => if S'.2.2.2.2.2.1 ≤ mc ∧ S'.2.2.2.2.2.2 ≤ ms then ax_run P T n d M mc ms S' else none) Ss)
end
section
/-! rows by runs: what they say of rows -/
theorem ax_seg_len {xs : List Int32} : ∀ {r : ax_A} {vs : List Value}, ax_seg xs r vs → vs.length = ax_len r
  | [], vs, h => by rw [show vs = [] from h]; rfl
  | (n, a) :: r, vs, h => by
    obtain ⟨h1, -, h3⟩ := h
    have := ax_seg_len h3
    rw [List.length_drop] at this
    show _ = n + ax_len r
    omega
theorem ax_seg_nth {xs : List Int32} : ∀ {r : ax_A} {vs : List Value} {k : Nat} {a : ax_V}, ax_seg xs r vs → ax_nth r k = some a → ∃ v, vs[k]? = some v ∧ ax_g xs a v
  | [], vs, k, a, h, hk => by cases hk
  | (n, b) :: r, vs, k, a, h, hk => by
    obtain ⟨h1, h2, h3⟩ := h
    unfold ax_nth at hk
    by_cases hkn : k < n
    · rw [if_pos hkn] at hk
      cases hk
      have hl : k < vs.length := by omega
      refine ⟨vs[k], List.getElem?_eq_getElem hl, h2 _ ?_⟩
      rw [List.mem_iff_getElem?]
      exact ⟨k, by rw [List.getElem?_take_of_lt hkn]; exact List.getElem?_eq_getElem hl⟩
    · rw [if_neg hkn] at hk
      obtain ⟨v, e1, e2⟩ := ax_seg_nth h3 hk
      rw [List.getElem?_drop, show n + (k - n) = k by omega] at e1
      exact ⟨v, e1, e2⟩
theorem ax_seg_con {xs : List Int32} {n : Nat} {a : ax_V} {r : ax_A} {vs : List Value} (h1 : n ≤ vs.length) (h2 : ∀ v ∈ vs.take n, ax_g xs a v) (h3 : ax_seg xs r (vs.drop n)) : ax_seg xs (ax_con n a r) vs := by
  unfold ax_con
  by_cases hn : n = 0
  · rw [if_pos hn]
    subst hn
    simpa using h3
  · rw [if_neg hn]
    match r, h3 with
    | [], h3 => exact ⟨h1, h2, h3⟩
    | (m, b) :: r', h3 =>
      by_cases hab : a = b
      · subst hab
        simp only [if_true]
        obtain ⟨g1, g2, g3⟩ := h3
        rw [List.length_drop] at g1
        refine ⟨by omega, fun v hv => ?_, by rw [← List.drop_drop]; exact g3⟩
        rw [List.take_add] at hv
        rcases List.mem_append.mp hv with h | h
        · exact h2 v h
        · exact g2 v h
      · simp only [if_neg hab]
        exact ⟨h1, h2, h3⟩
theorem ax_seg_app {xs : List Int32} : ∀ {l r : ax_A} {us vs : List Value}, ax_seg xs l us → ax_seg xs r vs → ax_seg xs (ax_app l r) (us ++ vs)
  | [], r, us, vs, h1, h2 => by rw [show us = [] from h1]; exact h2
  | (n, a) :: l, r, us, vs, h1, h2 => by
    obtain ⟨g1, g2, g3⟩ := h1
    refine ax_seg_con (by rw [List.length_append]; omega) ?_ ?_
    · rw [List.take_append_of_le_length g1]; exact g2
    · rw [List.drop_append_of_le_length g1]; exact ax_seg_app g3 h2
theorem ax_seg_take {xs : List Int32} : ∀ {r : ax_A} {vs : List Value} (k : Nat), ax_seg xs r vs → ax_seg xs (ax_take r k) (vs.take k)
  | [], vs, k, h => by rw [show vs = [] from h, List.take_nil]; rfl
  | (n, a) :: r, vs, k, h => by
    obtain ⟨g1, g2, g3⟩ := h
    unfold ax_take
    by_cases hk : k ≤ n
    · rw [if_pos hk]
      have hl : (vs.take k).length = k := by rw [List.length_take]; omega
      refine ax_seg_con (by omega) (fun v hv => g2 v ?_) ?_
      · rw [List.take_take, Nat.min_self] at hv
        exact (List.take_sublist_take_left hk).subset hv
      · rw [List.drop_eq_nil_of_le (by omega)]; rfl
    · rw [if_neg hk]
      refine ⟨by rw [List.length_take]; omega, fun v hv => g2 v ?_, ?_⟩
      · rw [List.take_take, Nat.min_eq_left (by omega)] at hv
        exact hv
      · rw [List.drop_take]
        exact ax_seg_take (k - n) g3
theorem ax_seg_drop {xs : List Int32} : ∀ {r : ax_A} {vs : List Value} (k : Nat), ax_seg xs r vs → ax_seg xs (ax_drop r k) (vs.drop k)
  | [], vs, k, h => by rw [show vs = [] from h, List.drop_nil]; rfl
  | (n, a) :: r, vs, k, h => by
    obtain ⟨g1, g2, g3⟩ := h
    unfold ax_drop
    by_cases hk : k < n
    · rw [if_pos hk]
      refine ⟨by rw [List.length_drop]; omega, fun v hv => g2 v ?_, by rw [List.drop_drop, show k + (n - k) = n by omega]; exact g3⟩
      rw [List.take_drop] at hv
      rw [show k + (n - k) = n by omega] at hv
      exact List.mem_of_mem_drop hv
    · rw [if_neg hk]
      have := ax_seg_drop (k - n) g3
      rw [List.drop_drop, show n + (k - n) = k by omega] at this
      exact this
theorem ax_seg_put {xs : List Int32} {r : ax_A} {vs : List Value} {k : Nat} {a : ax_V} {v : Value} (h : ax_seg xs r vs) (hk : k < vs.length) (hv : ax_g xs a v) : ax_seg xs (ax_put r k a) (vs.set k v) := by
  rw [List.set_eq_take_append_cons_drop, if_pos hk]
  unfold ax_put
  refine ax_seg_app (ax_seg_take k h) (ax_seg_con (by simp) (fun u hu => ?_) (ax_seg_drop (k + 1) h))
  have : u = v := by simpa using hu
  rw [this]; exact hv
theorem ax_iv_ok {xs : List Int32} {env : ax_N} {a : ax_V} {v : Value} {p : Int × Int} (he : ax_env xs env) (hg : ax_g xs a v) (hi : ax_iv env a = some p) : ∃ x : Int32, v = .int x ∧ p.1 ≤ x.toInt ∧ x.toInt ≤ p.2 := by
  obtain ⟨t, lo, hh⟩ := a
  unfold ax_iv at hi
  unfold ax_g at hg
  dsimp only at hi hg
  match t, hi, hg with
  | 0, hi, hg => cases hi; exact hg
  | 4, hi, hg => exact ⟨_, hg, he _ _ hi⟩
  | 1, hi, _ => cases hi
  | 2, hi, _ => cases hi
  | 3, hi, _ => cases hi
  | 5, hi, _ => cases hi
  | n + 6, hi, _ => cases hi
theorem ax_join_ok {xs : List Int32} {env : ax_N} {a b c : ax_V} (he : ax_env xs env) (h : ax_join env a b = some c) (v : Value) : (ax_g xs a v → ax_g xs c v) ∧ (ax_g xs b v → ax_g xs c v) := by
  unfold ax_join at h
  by_cases hab : a = b
  · rw [if_pos hab] at h
    cases h
    subst hab
    exact ⟨id, id⟩
  · rw [if_neg hab] at h
    split at h
    · rename_i p q hp hq
      cases h
      refine ⟨fun g => ?_, fun g => ?_⟩
      · obtain ⟨x, rfl, h1, h2⟩ := ax_iv_ok he g hp
        exact ⟨x, rfl, by show min p.1 q.1 ≤ _; omega, by show _ ≤ max p.2 q.2; omega⟩
      · obtain ⟨x, rfl, h1, h2⟩ := ax_iv_ok he g hq
        exact ⟨x, rfl, by show min p.1 q.1 ≤ _; omega, by show _ ≤ max p.2 q.2; omega⟩
    · by_cases h1 : a.1 = 1 ∧ b.1 = 1
      · rw [if_pos h1] at h
        cases h
        obtain ⟨a1, a2, a3⟩ := a
        obtain ⟨b1, b2, b3⟩ := b
        obtain ⟨e1, e2⟩ := h1
        dsimp only at e1 e2
        subst e1; subst e2
        refine ⟨fun g => ?_, fun g => ?_⟩
        · obtain ⟨x, rfl, h1, h2⟩ := g
          exact ⟨x, rfl, by dsimp only at h1 ⊢; omega, by dsimp only at h2 ⊢; omega⟩
        · obtain ⟨x, rfl, h1, h2⟩ := g
          exact ⟨x, rfl, by dsimp only at h1 ⊢; omega, by dsimp only at h2 ⊢; omega⟩
      · rw [if_neg h1] at h; cases h
theorem ax_seg_jmap {xs : List Int32} {env : ax_N} {a : ax_V} (he : ax_env xs env) : ∀ {r r' : ax_A} {vs us : List Value}, ax_jmap env a r = some r' → ax_seg xs r vs → us.length = vs.length → (∀ (i : Nat) (u : Value), us[i]? = some u → vs[i]? = some u ∨ ax_g xs a u) → ax_seg xs r' us
  | [], r', vs, us, h, hs, hl, hu => by
    cases h
    have : vs = [] := hs
    rw [this] at hl
    exact List.length_eq_zero_iff.mp hl
  | (n, b) :: r, r', vs, us, h, hs, hl, hu => by
    obtain ⟨g1, g2, g3⟩ := hs
    unfold ax_jmap at h
    split at h
    · rename_i c r2 hc hr
      cases h
      refine ax_seg_con (by omega) (fun v hv => ?_) (ax_seg_jmap he hr g3 (by rw [List.length_drop, List.length_drop, hl]) (fun i u hi => ?_))
      · obtain ⟨i, hi⟩ := List.mem_iff_getElem?.mp hv
        have hin : i < n := by
          have := (List.getElem?_eq_some_iff.mp hi).1
          rw [List.length_take] at this
          omega
        rw [List.getElem?_take_of_lt hin] at hi
        rcases hu i v hi with h | h
        · exact (ax_join_ok he hc v).2 (g2 v (List.mem_iff_getElem?.mpr ⟨i, by rw [List.getElem?_take_of_lt hin]; exact h⟩))
        · exact (ax_join_ok he hc v).1 h
      · rw [List.getElem?_drop] at hi ⊢
        exact hu _ _ hi
    · cases h
theorem ax_seg_weak {xs : List Int32} {env : ax_N} {a : ax_V} {v : Value} {r r' : ax_A} {vs : List Value} {l h i : Nat} (he : ax_env xs env) (hw : ax_weak env r l h a = some r') (hs : ax_seg xs r vs) (hv : ax_g xs a v) (h1 : l ≤ i) (h2 : i ≤ h) (h3 : h < vs.length) : ax_seg xs r' (vs.set i v) := by
  unfold ax_weak at hw
  split at hw
  · rename_i m hm
    cases hw
    have e : vs.set i v = vs.take l ++ (((vs.set i v).drop l).take (h + 1 - l) ++ vs.drop (h + 1)) := by
      have e1 : vs.take l = (vs.set i v).take l := by rw [List.take_set_of_le h1]
      have e2 : vs.drop (h + 1) = (vs.set i v).drop (h + 1) := by rw [List.drop_set_of_lt (by omega)]
      rw [e1, e2]
      have e3 : (vs.set i v).drop (h + 1) = ((vs.set i v).drop l).drop (h + 1 - l) := by rw [List.drop_drop, show l + (h + 1 - l) = h + 1 by omega]
      rw [e3, List.take_append_drop, List.take_append_drop]
    rw [e]
    refine ax_seg_app (ax_seg_take l hs) (ax_seg_app (ax_seg_jmap he hm (ax_seg_take _ (ax_seg_drop l hs)) (by simp) (fun j u hj => ?_)) (ax_seg_drop (h + 1) hs))
    have hjl : j < h + 1 - l := by
      have := (List.getElem?_eq_some_iff.mp hj).1
      rw [List.length_take] at this
      omega
    rw [List.getElem?_take_of_lt hjl, List.getElem?_drop] at hj ⊢
    by_cases hij : i = l + j
    · subst hij
      rw [List.getElem?_set_self (by omega)] at hj
      cases hj
      exact Or.inr hv
    · rw [List.getElem?_set_ne hij] at hj
      exact Or.inl hj
  · cases hw
theorem ax_seg_jall {xs : List Int32} {env : ax_N} (he : ax_env xs env) : ∀ {r : ax_A} {vs : List Value} {a : ax_V}, ax_jall env r = some a → ax_seg xs r vs → ∀ v ∈ vs, ax_g xs a v
  | [], vs, a, h, hs, v, hv => by cases h
  | [(n, b)], vs, a, h, hs, v, hv => by
    cases h
    obtain ⟨g1, g2, g3⟩ := hs
    refine g2 v ?_
    have h0 : vs.drop n = [] := g3
    rw [List.take_of_length_le (by simpa using h0)]
    exact hv
  | (n, b) :: c :: r, vs, a, h, hs, v, hv => by
    obtain ⟨g1, g2, g3⟩ := hs
    unfold ax_jall at h
    split at h
    · rename_i d hd
      rw [← List.take_append_drop n vs] at hv
      rcases List.mem_append.mp hv with h1 | h1
      · exact (ax_join_ok he h v).1 (g2 v h1)
      · exact (ax_join_ok he h v).2 (ax_seg_jall he hd g3 v h1)
    · cases h
theorem ax_gw_len {xs : List Int32} : ∀ {aw : ax_W} {w : sx_W}, ax_gw xs aw w → w.length = aw.length
  | [], w, h => by rw [show w = [] from h]; rfl
  | (t, r) :: l, [], h => h.elim
  | (t, r) :: l, x :: w, h => by rw [List.length_cons, List.length_cons, ax_gw_len h.2.2]
theorem ax_gw_at {xs : List Int32} : ∀ {aw : ax_W} {w : sx_W} {k : Nat} {c : Nat × ax_A}, ax_gw xs aw w → aw[k]? = some c → ∃ x, w[k]? = some x ∧ x.1 = c.1 ∧ ax_seg xs c.2 x.2
  | [], w, k, c, h, hk => by simp at hk
  | (t, r) :: l, [], k, c, h, hk => h.elim
  | (t, r) :: l, x :: w, 0, c, h, hk => by cases hk; exact ⟨x, rfl, h.1, h.2.1⟩
  | (t, r) :: l, x :: w, k + 1, c, h, hk => ax_gw_at (aw := l) (w := w) (k := k) h.2.2 hk
theorem ax_gw_set {xs : List Int32} : ∀ {aw : ax_W} {w : sx_W} {k : Nat} {c : Nat × ax_A} {x : Nat × List Value}, ax_gw xs aw w → x.1 = c.1 → ax_seg xs c.2 x.2 → ax_gw xs (aw.set k c) (w.set k x)
  | [], w, k, c, x, h, h1, h2 => by rw [show w = [] from h]; rfl
  | (t, r) :: l, [], k, c, x, h, h1, h2 => h.elim
  | (t, r) :: l, y :: w, 0, c, x, h, h1, h2 => ⟨h1, h2, h.2.2⟩
  | (t, r) :: l, y :: w, k + 1, c, x, h, h1, h2 => ⟨h.1, h.2.1, ax_gw_set (k := k) h.2.2 h1 h2⟩
theorem ax_gw_push {xs : List Int32} {c : Nat × ax_A} {x : Nat × List Value} (h1 : x.1 = c.1) (h2 : ax_seg xs c.2 x.2) : ∀ {aw : ax_W} {w : sx_W}, ax_gw xs aw w → ax_gw xs (aw ++ [c]) (w ++ [x])
  | [], w, h => by rw [show w = [] from h]; exact ⟨h1, h2, rfl⟩
  | (t, r) :: l, [], h => h.elim
  | (t, r) :: l, y :: w, h => ⟨h.1, h.2.1, ax_gw_push h1 h2 h.2.2⟩
theorem ax_gs_len {xs : List Int32} : ∀ {l : List ax_V} {st : List Value}, ax_gs xs l st → st.length = l.length
  | [], st, h => by rw [show st = [] from h]; rfl
  | a :: l, [], h => h.elim
  | a :: l, v :: st, h => by rw [List.length_cons, List.length_cons, ax_gs_len h.2]
theorem ax_gs_drop {xs : List Int32} : ∀ {l : List ax_V} {st : List Value} (k : Nat), ax_gs xs l st → ax_gs xs (l.drop k) (st.drop k)
  | [], st, k, h => by rw [show st = [] from h, List.drop_nil, List.drop_nil]; rfl
  | a :: l, [], k, h => h.elim
  | a :: l, v :: st, 0, h => h
  | a :: l, v :: st, k + 1, h => ax_gs_drop k h.2
theorem ax_gs_take {xs : List Int32} : ∀ {l : List ax_V} {st : List Value} (k : Nat), ax_gs xs l st → ax_gs xs (l.take k) (st.take k)
  | [], st, k, h => by rw [show st = [] from h, List.take_nil, List.take_nil]; rfl
  | a :: l, [], k, h => h.elim
  | a :: l, v :: st, 0, h => rfl
  | a :: l, v :: st, k + 1, h => ⟨h.1, ax_gs_take k h.2⟩
theorem ax_gs_app {xs : List Int32} : ∀ {l l2 : List ax_V} {st st2 : List Value}, ax_gs xs l st → ax_gs xs l2 st2 → ax_gs xs (l ++ l2) (st ++ st2)
  | [], l2, st, st2, h, h2 => by rw [show st = [] from h]; exact h2
  | a :: l, l2, [], st2, h, h2 => h.elim
  | a :: l, l2, v :: st, st2, h, h2 => ⟨h.1, ax_gs_app h.2 h2⟩
theorem ax_gs_rev {xs : List Int32} : ∀ {l : List ax_V} {st : List Value}, ax_gs xs l st → ax_gs xs l.reverse st.reverse
  | [], st, h => by rw [show st = [] from h]; rfl
  | a :: l, [], h => h.elim
  | a :: l, v :: st, h => by
    rw [List.reverse_cons, List.reverse_cons]
    exact ax_gs_app (ax_gs_rev h.2) ⟨h.1, rfl⟩
theorem ax_g_cat {xs : List Int32} {a : ax_V} {v : Value} (h : ax_g xs a v) : v.category = ax_cat a := by
  obtain ⟨t, lo, hh⟩ := a
  unfold ax_g at h
  dsimp only at h
  match t, h with
  | 0, h => obtain ⟨x, rfl, -⟩ := h; rfl
  | 1, h => obtain ⟨x, rfl, -⟩ := h; rfl
  | 2, h => rw [h]; rfl
  | 3, h => rw [h]; rfl
  | 4, h => rw [h]; rfl
  | 5, h => rw [h]; rfl
  | n + 6, h => exact h.elim
theorem ax_gs_csum {xs : List Int32} : ∀ {l : List ax_V} {st : List Value}, ax_gs xs l st → sx_csum st = ax_csum l
  | [], st, h => by rw [show st = [] from h]; rfl
  | a :: l, [], h => h.elim
  | a :: l, v :: st, h => by
    have h1 := ax_g_cat h.1
    have h2 : sx_csum st = ax_csum l := ax_gs_csum h.2
    unfold sx_csum ax_csum at h2 ⊢
    rw [List.map_cons, List.map_cons, List.sum_cons, List.sum_cons, h1, h2]
end
section
/-! numbers by intervals -/
theorem ax_lo (x : Int32) : -2147483648 ≤ x.toInt := by have := Int32.le_toInt x; omega
theorem ax_hi (x : Int32) : x.toInt ≤ 2147483647 := by have := Int32.toInt_lt x; omega
theorem ax_loL (x : Int64) : -9223372036854775808 ≤ x.toInt := by have := Int64.le_toInt x; omega
theorem ax_hiL (x : Int64) : x.toInt ≤ 9223372036854775807 := by have := Int64.toInt_lt x; omega
theorem ax_top_ok {xs : List Int32} (x : Int32) : ax_g xs ax_top (.int x) := ⟨x, rfl, ax_lo x, ax_hi x⟩
theorem ax_topL_ok {xs : List Int32} (x : Int64) : ax_g xs ax_topL (.long x) := ⟨x, rfl, ax_loL x, ax_hiL x⟩
theorem ax_bm {t : Int} (h1 : -2147483648 ≤ t) (h2 : t ≤ 2147483647) : t.bmod (2 ^ 32) = t := by
  rw [Int.bmod_def]
  split <;> omega
theorem ax_rg_ok {xs : List Int32} {t l h : Int} {x : Int32} (hx : x.toInt = t.bmod (2 ^ 32)) (h1 : l ≤ t) (h2 : t ≤ h) : ax_g xs (ax_rg l h) (.int x) := by
  unfold ax_rg
  by_cases hr : -2147483648 ≤ l ∧ h ≤ 2147483647
  · rw [if_pos hr]
    rw [ax_bm (by omega) (by omega)] at hx
    exact ⟨x, rfl, by rw [hx]; exact h1, by rw [hx]; exact h2⟩
  · rw [if_neg hr]
    exact ax_top_ok x
theorem ax_one (x : Int32) {p : Int × Int} (h1 : p.1 ≤ x.toInt) (h2 : x.toInt ≤ p.2) (h : p.1 = p.2) : x = Int32.ofInt p.1 := by
  have e : x.toInt = p.1 := by omega
  rw [← e, Int32.ofInt_toInt]
theorem ax_oneL (x : Int64) {l h : Int} (h1 : l ≤ x.toInt) (h2 : x.toInt ≤ h) (hh : l = h) : x = Int64.ofInt l := by
  have e : x.toInt = l := by omega
  rw [← e, Int64.ofInt_toInt]
/-- an operation of the reader is one of numbers -/
def ax_okI (xs : List Int32) (g : ax_N → ax_V → ax_V → Option ax_V) (f : Int32 → Int32 → Option Int32) : Prop := ∀ (env : ax_N) (a b r : ax_V) (v u : Value), ax_env xs env → ax_g xs a v → ax_g xs b u → g env a b = some r → ∃ x y z : Int32, v = .int x ∧ u = .int y ∧ f x y = some z ∧ ax_g xs r (.int z)
theorem ax_two {xs : List Int32} {env : ax_N} {a b r : ax_V} {v u : Value} {k : Int × Int → Int × Int → Option ax_V} (he : ax_env xs env) (ha : ax_g xs a v) (hb : ax_g xs b u) (h : (match ax_iv env a, ax_iv env b with | some p, some q => k p q | _, _ => none) = some r) : ∃ (x y : Int32) (p q : Int × Int), v = .int x ∧ u = .int y ∧ p.1 ≤ x.toInt ∧ x.toInt ≤ p.2 ∧ q.1 ≤ y.toInt ∧ y.toInt ≤ q.2 ∧ k p q = some r ∧ ax_iv env a = some p ∧ ax_iv env b = some q := by
  split at h
  · rename_i p q hp hq
    obtain ⟨x, e1, h1, h2⟩ := ax_iv_ok he ha hp
    obtain ⟨y, e2, h3, h4⟩ := ax_iv_ok he hb hq
    exact ⟨x, y, p, q, e1, e2, h1, h2, h3, h4, h, hp, hq⟩
  · cases h
theorem ax_ex_ok {xs : List Int32} {f : Int32 → Int32 → Option Int32} {p q : Int × Int} {r : ax_V} {x y : Int32} (h : ax_ex f p q = some r) (h1 : p.1 ≤ x.toInt) (h2 : x.toInt ≤ p.2) (h3 : q.1 ≤ y.toInt) (h4 : y.toInt ≤ q.2) : ∃ z, f x y = some z ∧ ax_g xs r (.int z) := by
  unfold ax_ex at h
  by_cases hp : p.1 = p.2 ∧ q.1 = q.2
  · rw [if_pos hp, ← ax_one x h1 h2 hp.1, ← ax_one y h3 h4 hp.2] at h
    cases hf : f x y with
    | none => rw [hf] at h; cases h
    | some z => rw [hf] at h; cases h; exact ⟨z, rfl, z, rfl, Int.le_refl _, Int.le_refl _⟩
  · rw [if_neg hp] at h; cases h
theorem ax_or_ok {xs : List Int32} {f : Int32 → Int32 → Option Int32} {p q : Int × Int} {r : ax_V} {o : Option ax_V} {x y : Int32} (h : (ax_ex f p q).or o = some r) (h1 : p.1 ≤ x.toInt) (h2 : x.toInt ≤ p.2) (h3 : q.1 ≤ y.toInt) (h4 : y.toInt ≤ q.2) (ho : o = some r → ∃ z, f x y = some z ∧ ax_g xs r (.int z)) : ∃ z, f x y = some z ∧ ax_g xs r (.int z) := by
  cases he : ax_ex f p q with
  | none => rw [he] at h; exact ho h
  | some r' =>
    rw [he] at h
    have e : r' = r := by simpa using h
    subst e
    exact ax_ex_ok he h1 h2 h3 h4
theorem ax_top_or {xs : List Int32} {z : Int32} {r : ax_V} (h : some ax_top = some r) : ax_g xs r (.int z) := by cases h; exact ax_top_ok z
theorem ax_iadd_ok (xs : List Int32) : ax_okI xs ax_iadd (fun x y => some (x + y)) := fun env a b r v u he ha hb h => by
  obtain ⟨x, y, p, q, e1, e2, h1, h2, h3, h4, hk, -⟩ := ax_two he ha hb h
  cases hk
  exact ⟨x, y, _, e1, e2, rfl, ax_rg_ok (Int32.toInt_add x y) (by omega) (by omega)⟩
theorem ax_isub_ok (xs : List Int32) : ax_okI xs ax_isub (fun x y => some (x - y)) := fun env a b r v u he ha hb h => by
  obtain ⟨x, y, p, q, e1, e2, h1, h2, h3, h4, hk, -⟩ := ax_two he ha hb h
  cases hk
  exact ⟨x, y, _, e1, e2, rfl, ax_rg_ok (Int32.toInt_sub x y) (by omega) (by omega)⟩
theorem ax_imul_ok (xs : List Int32) : ax_okI xs ax_imul (fun x y => some (x * y)) := fun env a b r v u he ha hb h => by
  obtain ⟨x, y, p, q, e1, e2, h1, h2, h3, h4, hk, -⟩ := ax_two he ha hb h
  refine ⟨x, y, _, e1, e2, rfl, ?_⟩
  by_cases hp : 0 ≤ p.1 ∧ 0 ≤ q.1
  · rw [if_pos hp] at hk
    cases hk
    exact ax_rg_ok (Int32.toInt_mul x y) (Int.mul_le_mul h1 h3 hp.2 (by omega)) (Int.mul_le_mul h2 h4 (by omega) (by omega))
  · rw [if_neg hp] at hk
    obtain ⟨z, hz, hg⟩ := ax_or_ok (xs := xs) (x := x) (y := y) hk h1 h2 h3 h4 (fun h => ⟨_, rfl, ax_top_or h⟩)
    cases hz
    exact hg
theorem ax_and_bd (x y : Int32) (h : 0 ≤ y.toInt) : 0 ≤ (x &&& y).toInt ∧ (x &&& y).toInt ≤ y.toInt := by
  have e1 : (x &&& y).toInt = (x.toBitVec &&& y.toBitVec).toInt := rfl
  have e2 : y.toInt = y.toBitVec.toInt := rfl
  have hl := y.toBitVec.isLt
  have hand : (x.toBitVec &&& y.toBitVec).toNat ≤ y.toBitVec.toNat := by rw [BitVec.toNat_and]; exact Nat.and_le_right
  rw [e2, BitVec.toInt_eq_toNat_cond] at h
  rw [e1, e2, BitVec.toInt_eq_toNat_cond, BitVec.toInt_eq_toNat_cond]
  by_cases hy : 2 * y.toBitVec.toNat < 2 ^ 32
  · rw [if_pos hy, if_pos (by omega)]
    omega
  · rw [if_neg hy] at h
    omega
theorem ax_m1 (x : Int32) : x &&& (-1) = x := by
  apply Int32.toBitVec_inj.mp
  show x.toBitVec &&& (BitVec.allOnes 32) = x.toBitVec
  exact BitVec.and_allOnes
theorem ax_iand_ok (xs : List Int32) : ax_okI xs ax_iand (fun x y => some (x &&& y)) := fun env a b r v u he ha hb h => by
  obtain ⟨x, y, p, q, e1, e2, h1, h2, h3, h4, hk, -⟩ := ax_two he ha hb h
  refine ⟨x, y, _, e1, e2, rfl, ?_⟩
  by_cases hq : q.1 = -1 ∧ q.2 = -1
  · rw [if_pos hq] at hk
    cases hk
    have hy : y = -1 := by
      have := ax_one y h3 h4 (by omega)
      rw [this, hq.1]; rfl
    rw [hy, ax_m1, ← e1]
    exact ha
  · rw [if_neg hq] at hk
    obtain ⟨z, hz, hg⟩ := ax_or_ok (xs := xs) (x := x) (y := y) hk h1 h2 h3 h4 (fun h => by
      refine ⟨_, rfl, ?_⟩
      by_cases hc : q.1 = q.2 ∧ 0 ≤ q.1
      · rw [if_pos hc] at h
        cases h
        have := ax_and_bd x y (by omega)
        exact ⟨_, rfl, this.1, by show _ ≤ q.2; omega⟩
      · rw [if_neg hc] at h
        exact ax_top_or h)
    cases hz
    exact hg
theorem ax_gen_ok (xs : List Int32) (f : Int32 → Int32 → Int32) : ax_okI xs (ax_gen f) (fun x y => some (f x y)) := fun env a b r v u he ha hb h => by
  obtain ⟨x, y, p, q, e1, e2, h1, h2, h3, h4, hk, -⟩ := ax_two he ha hb h
  obtain ⟨z, hz, hg⟩ := ax_or_ok (xs := xs) (x := x) (y := y) hk h1 h2 h3 h4 (fun h => ⟨_, rfl, ax_top_or h⟩)
  exact ⟨x, y, z, e1, e2, hz, hg⟩
theorem ax_ishr_ok (xs : List Int32) : ax_okI xs ax_ishr (fun x y => some (x >>> (y &&& 31))) := fun env a b r v u he ha hb h => by
  obtain ⟨x, y, p, q, e1, e2, h1, h2, h3, h4, hk, -⟩ := ax_two he ha hb h
  by_cases hp : p.1 = 0 ∧ p.2 = 0
  · rw [if_pos hp] at hk
    cases hk
    have hx : x = 0 := by
      have := ax_one x h1 h2 (by omega)
      rw [this, hp.1]; rfl
    refine ⟨x, y, _, e1, e2, rfl, ?_⟩
    rw [hx]
    have e : (0 : Int32) >>> (y &&& 31) = 0 := by
      apply Int32.toBitVec_inj.mp
      show (0#32).sshiftRight' _ = 0#32
      simp [BitVec.sshiftRight']
    rw [e]
    exact ⟨0, rfl, by decide, by decide⟩
  · rw [if_neg hp] at hk
    obtain ⟨z, hz, hg⟩ := ax_or_ok (xs := xs) (x := x) (y := y) hk h1 h2 h3 h4 (fun h => ⟨_, rfl, ax_top_or h⟩)
    exact ⟨x, y, z, e1, e2, hz, hg⟩
theorem ax_quo_ok (xs : List Int32) (f : Int32 → Int32 → Option Int32) (hf : ∀ x y : Int32, ¬ y = 0 → ∃ z, f x y = some z) : ax_okI xs (ax_quo f) f := fun env a b r v u he ha hb h => by
  obtain ⟨x, y, p, q, e1, e2, h1, h2, h3, h4, hk, -⟩ := ax_two he ha hb h
  by_cases hq : 0 < q.1 ∨ q.2 < 0
  · rw [if_pos hq] at hk
    have hy : ¬ y = 0 := fun h => by rw [h, Int32.toInt_zero] at h3 h4; omega
    obtain ⟨z0, hz0⟩ := hf x y hy
    obtain ⟨z, hz, hg⟩ := ax_or_ok (xs := xs) (x := x) (y := y) hk h1 h2 h3 h4 (fun h => ⟨z0, hz0, ax_top_or h⟩)
    exact ⟨x, y, z, e1, e2, hz, hg⟩
  · rw [if_neg hq] at hk; cases hk
theorem ax_g1 {xs : List Int32} {a : ax_V} {v : Value} (h : ax_g xs a v) (ha : a.1 = 1) : ∃ x : Int64, v = .long x ∧ a.2.1 ≤ x.toInt ∧ x.toInt ≤ a.2.2 := by
  obtain ⟨t, l, hh⟩ := a
  dsimp only at ha
  subst ha
  exact h
theorem ax_lex_ok {xs : List Int32} {f : Int64 → Int64 → Int64} {a b r : ax_V} {v u : Value} (ha : ax_g xs a v) (hb : ax_g xs b u) (h : ax_lex f a b = some r) : ∃ x y : Int64, v = .long x ∧ u = .long y ∧ ax_g xs r (.long (f x y)) := by
  unfold ax_lex at h
  by_cases h1 : a.1 = 1 ∧ b.1 = 1
  · rw [if_pos h1] at h
    obtain ⟨x, e1, g1, g2⟩ := ax_g1 ha h1.1
    obtain ⟨y, e2, g3, g4⟩ := ax_g1 hb h1.2
    refine ⟨x, y, e1, e2, ?_⟩
    by_cases h2 : a.2.1 = a.2.2 ∧ b.2.1 = b.2.2
    · rw [if_pos h2, ← ax_oneL x g1 g2 h2.1, ← ax_oneL y g3 g4 h2.2] at h
      cases h
      exact ⟨_, rfl, Int.le_refl _, Int.le_refl _⟩
    · rw [if_neg h2] at h
      cases h
      exact ax_topL_ok _
  · rw [if_neg h1] at h; cases h
theorem ax_lsh_ok {xs : List Int32} {env : ax_N} {f : Int64 → Int32 → Int64} (hf : ∀ y, f 0 y = 0) (he : ax_env xs env) {a b r : ax_V} {v u : Value} (ha : ax_g xs a v) (hb : ax_g xs b u) (h : ax_lsh f env a b = some r) : ∃ (x : Int64) (y : Int32), v = .long x ∧ u = .int y ∧ ax_g xs r (.long (f x y)) := by
  unfold ax_lsh at h
  by_cases h1 : a.1 = 1
  · rw [if_pos h1] at h
    obtain ⟨x, e1, g1, g2⟩ := ax_g1 ha h1
    split at h
    · rename_i q hq
      obtain ⟨y, e2, g3, g4⟩ := ax_iv_ok he hb hq
      refine ⟨x, y, e1, e2, ?_⟩
      by_cases h0 : a.2.1 = 0 ∧ a.2.2 = 0
      · rw [if_pos h0] at h
        cases h
        have hx : x = 0 := by
          have := ax_oneL x g1 g2 (by omega)
          rw [this, h0.1]; rfl
        rw [hx, hf]
        exact ⟨0, rfl, by decide, by decide⟩
      · rw [if_neg h0] at h
        by_cases h2 : a.2.1 = a.2.2 ∧ q.1 = q.2
        · rw [if_pos h2, ← ax_oneL x g1 g2 h2.1, ← ax_one y g3 g4 h2.2] at h
          cases h
          exact ⟨_, rfl, Int.le_refl _, Int.le_refl _⟩
        · rw [if_neg h2] at h
          cases h
          exact ax_topL_ok _
    · cases h
  · rw [if_neg h1] at h; cases h
theorem ax_lshl0 (y : Int32) : (0 : Int64) <<< (y.toInt64 &&& 63) = 0 := by
  apply Int64.toBitVec_inj.mp
  show (0#64) <<< _ = 0#64
  simp
theorem ax_lushr0 (y : Int32) : ((0 : Int64).toUInt64 >>> (y.toInt64.toUInt64 &&& Int64.toUInt64 63)).toInt64 = 0 := by
  apply Int64.toBitVec_inj.mp
  show (0#64) >>> _ = 0#64
  simp
/-! branches -/
theorem ax_upd_ok {xs : List Int32} {env : ax_N} {a : ax_V} {p : Int × Int} {x : Int32} (he : ax_env xs env) (hg : ax_g xs a (.int x)) (h1 : p.1 ≤ x.toInt) (h2 : x.toInt ≤ p.2) : ax_env xs (ax_upd env a p) := by
  unfold ax_upd
  by_cases h4 : a.1 = 4
  · rw [if_pos h4]
    obtain ⟨t, k, z⟩ := a
    dsimp only at h4
    subst h4
    have e : Value.int x = .int (ax_var xs k.toNat) := hg
    injection e with e
    intro i q hq
    by_cases hi : i = k.toNat
    · subst hi
      have hl : k.toNat < env.length := by
        have := (List.getElem?_eq_some_iff.mp hq).1
        rwa [List.length_set] at this
      dsimp only at hq
      rw [List.getElem?_set_self hl] at hq
      cases hq
      rw [← e]
      exact ⟨h1, h2⟩
    · dsimp only at hq
      rw [List.getElem?_set_ne (Ne.symm hi)] at hq
      exact he i q hq
  · rw [if_neg h4]; exact he
def ax_in (p : Int × Int) (x : Int) : Prop := p.1 ≤ x ∧ x ≤ p.2
theorem ax_ltT_ok {p q : Int × Int} {x y : Int} (hp : ax_in p x) (hq : ax_in q y) (h : x < y) : ax_in (ax_ltT p q).1 x ∧ ax_in (ax_ltT p q).2 y := by
  unfold ax_in ax_ltT at *
  dsimp only
  omega
theorem ax_ltF_ok {p q : Int × Int} {x y : Int} (hp : ax_in p x) (hq : ax_in q y) (h : ¬ x < y) : ax_in (ax_ltF p q).1 x ∧ ax_in (ax_ltF p q).2 y := by
  unfold ax_in ax_ltF at *
  dsimp only
  omega
theorem ax_eqT_ok {p q : Int × Int} {x y : Int} (hp : ax_in p x) (hq : ax_in q y) (h : x = y) : ax_in (ax_eqT p q).1 x ∧ ax_in (ax_eqT p q).2 y := by
  unfold ax_in ax_eqT at *
  dsimp only
  omega
theorem ax_neq_ok {p q : Int × Int} {x y : Int} (hp : ax_in p x) (hq : ax_in q y) (h : ¬ x = y) : ax_in (ax_neq p q) x := by
  unfold ax_in ax_neq at *
  by_cases hc : q.1 = q.2
  · rw [if_pos hc]
    dsimp only
    constructor <;> split <;> omega
  · rw [if_neg hc]
    exact hp
theorem ax_eqF_ok {p q : Int × Int} {x y : Int} (hp : ax_in p x) (hq : ax_in q y) (h : ¬ x = y) : ax_in (ax_eqF p q).1 x ∧ ax_in (ax_eqF p q).2 y := ⟨ax_neq_ok hp hq h, ax_neq_ok hq hp (fun e => h e.symm)⟩
theorem ax_cut_ok (k : ClassFile.Cond) {p q : Int × Int} {x y : Int32} (hp : ax_in p x.toInt) (hq : ax_in q y.toInt) : ax_in (ax_cut k (sx_cond k x y) p q).1 x.toInt ∧ ax_in (ax_cut k (sx_cond k x y) p q).2 y.toInt := by
  cases k
  · by_cases h : x = y
    · have e : sx_cond .eq x y = true := by simp [sx_cond, h]
      rw [e]; exact ax_eqT_ok hp hq (by rw [h])
    · have e : sx_cond .eq x y = false := by simp [sx_cond, h]
      rw [e]; exact ax_eqF_ok hp hq (fun c => h (Int32.toInt_inj.mp c))
  · by_cases h : x = y
    · have e : sx_cond .ne x y = false := by simp [sx_cond, h]
      rw [e]; exact ax_eqT_ok hp hq (by rw [h])
    · have e : sx_cond .ne x y = true := by simp [sx_cond, h]
      rw [e]; exact ax_eqF_ok hp hq (fun c => h (Int32.toInt_inj.mp c))
  · by_cases h : x < y
    · have e : sx_cond .lt x y = true := by simp [sx_cond, h]
      rw [e]; exact ax_ltT_ok hp hq (Int32.lt_iff_toInt_lt.mp h)
    · have e : sx_cond .lt x y = false := by simp only [sx_cond, h, decide_false]
      rw [e]; exact ax_ltF_ok hp hq (fun c => h (Int32.lt_iff_toInt_lt.mpr c))
  · by_cases h : y ≤ x
    · have e : sx_cond .ge x y = true := by simp [sx_cond, h]
      rw [e]
      have := Int32.le_iff_toInt_le.mp h
      exact ax_ltF_ok hp hq (by omega)
    · have e : sx_cond .ge x y = false := by simp only [sx_cond, h, decide_false]
      rw [e]
      have : ¬ y.toInt ≤ x.toInt := fun c => h (Int32.le_iff_toInt_le.mpr c)
      exact ax_ltT_ok hp hq (by omega)
  · by_cases h : y < x
    · have e : sx_cond .gt x y = true := by simp [sx_cond, h]
      rw [e]
      exact (ax_ltT_ok hq hp (Int32.lt_iff_toInt_lt.mp h)).symm
    · have e : sx_cond .gt x y = false := by simp only [sx_cond, h, decide_false]
      rw [e]
      exact (ax_ltF_ok hq hp (fun c => h (Int32.lt_iff_toInt_lt.mpr c))).symm
  · by_cases h : x ≤ y
    · have e : sx_cond .le x y = true := by simp [sx_cond, h]
      rw [e]
      have := Int32.le_iff_toInt_le.mp h
      exact (ax_ltF_ok hq hp (by omega)).symm
    · have e : sx_cond .le x y = false := by simp only [sx_cond, h, decide_false]
      rw [e]
      have : ¬ x.toInt ≤ y.toInt := fun c => h (Int32.le_iff_toInt_le.mpr c)
      exact (ax_ltT_ok hq hp (by omega)).symm
end
section
/-! a step of the reader holds the machine's step -/
def ax_ok (xs : List Int32) (S : ax_S) (lv : sx_L) (st : List Value) (w : sx_W) : Prop := ax_env xs S.1 ∧ ax_gl xs S.2.2.1 lv ∧ ax_gs xs S.2.2.2.1 st ∧ ax_gw xs S.2.2.2.2.1 w
def ax_res (xs : List Int32) (c s : Nat) (outs : List ax_S) (o : Option sx_R) : Prop := ∃ r, o = some r ∧ ∃ S' ∈ outs, S'.2.1 = r.1 ∧ ax_ok xs S' r.2.1 r.2.2.1 r.2.2.2.1 ∧ S'.2.2.2.2.2.1 = c + r.2.2.2.2.1 ∧ S'.2.2.2.2.2.2 = s + r.2.2.2.2.2
theorem ax_res1 {xs : List Int32} {env : ax_N} {pc : Nat} {l : ax_L} {ast : List ax_V} {aw : ax_W} {c s : Nat} {outs : List ax_S} {lv : sx_L} {st : List Value} {w : sx_W} (h : ax_1 env pc l ast aw c s = some outs) (he : ax_env xs env) (hl : ax_gl xs l lv) (hs : ax_gs xs ast st) (hw : ax_gw xs aw w) : ax_res xs c s outs (some (pc, lv, st, w, 0, 0)) := by
  cases h
  exact ⟨_, rfl, _, List.mem_singleton.mpr rfl, rfl, ⟨he, hl, hs, hw⟩, rfl, rfl⟩
theorem sx_find_filter {α : Type} {p q : α → Bool} {x : α} : ∀ {l : List α}, l.find? q = some x → p x = true → (l.filter p).find? q = some x
  | [], h, _ => by cases h
  | a :: l, h, hp => by
    rw [List.find?_cons] at h
    by_cases hq : q a = true
    · rw [hq] at h
      cases h
      rw [List.filter_cons, if_pos hp, List.find?_cons, hq]
    · have hq' : q a = false := by simpa using hq
      rw [hq'] at h
      rw [List.filter_cons]
      by_cases hpa : p a = true
      · rw [if_pos hpa, List.find?_cons, hq']
        exact sx_find_filter h hp
      · rw [if_neg hpa]
        exact sx_find_filter h hp
theorem sx_get_keep {p : Nat × Value → Bool} {lv : sx_L} {i j : Nat} {v u : Value} (hji : ¬ j = i) (h : sx_get lv j = some u) (hp : p (j, u) = true) : sx_get ((i, v) :: lv.filter p) j = some u := by
  unfold sx_get at h ⊢
  cases hf : lv.find? (fun q => q.1 == j) with
  | none => rw [hf] at h; cases h
  | some q =>
    rw [hf] at h
    obtain ⟨j', u'⟩ := q
    have e1 : j' = j := by simpa using List.find?_some hf
    have e2 : u' = u := by simpa using h
    subst e1; subst e2
    rw [List.find?_cons]
    have hb : ((i, v).1 == j') = false := by simp; exact fun e => hji e.symm
    rw [hb, sx_find_filter hf hp]
    rfl
theorem sx_get_self (l : sx_L) (i : Nat) (v : Value) : sx_get ((i, v) :: l) i = some v := by
  unfold sx_get
  rw [List.find?_cons]
  simp
theorem ax_cat_iff {a : ax_V} : (a.1 == 1) = (ax_cat a == 2) := by
  unfold ax_cat
  by_cases h : a.1 = 1 <;> simp [h]
theorem ax_gl_set {xs : List Int32} {l : ax_L} {lv : sx_L} {i : Nat} {a : ax_V} {v : Value} (h : ax_gl xs l lv) (hv : ax_g xs a v) : ax_gl xs (ax_set l i a) (sx_set lv i v) := by
  intro q hq
  rcases List.mem_cons.mp hq with rfl | hq
  · exact ⟨v, sx_get_self _ _ _, hv⟩
  · obtain ⟨h1, h2⟩ := List.mem_filter.mp hq
    obtain ⟨u, g1, g2⟩ := h q h1
    rw [Bool.and_eq_true] at h2
    refine ⟨u, sx_get_keep (by simpa using h2.1) g1 ?_, g2⟩
    rw [Bool.and_eq_true]
    refine ⟨h2.1, ?_⟩
    have h3 := h2.2
    rw [ax_cat_iff, ← ax_g_cat g2] at h3
    exact h3
theorem ax_gl_set2 {xs : List Int32} {l : ax_L} {lv : sx_L} {i : Nat} {a : ax_V} {v : Value} (h : ax_gl xs l lv) (hv : ax_g xs a v) : ax_gl xs (ax_set2 l i a) (sx_set2 lv i v) := by
  intro q hq
  rcases List.mem_cons.mp hq with rfl | hq
  · exact ⟨v, sx_get_self _ _ _, hv⟩
  · obtain ⟨h1, h2⟩ := List.mem_filter.mp hq
    obtain ⟨u, g1, g2⟩ := h q h1
    rw [Bool.and_eq_true, Bool.and_eq_true] at h2
    refine ⟨u, sx_get_keep (by simpa using h2.1) g1 ?_, g2⟩
    rw [Bool.and_eq_true, Bool.and_eq_true]
    refine ⟨h2.1, h2.2.1, ?_⟩
    have h3 := h2.2.2
    rw [ax_cat_iff, ← ax_g_cat g2] at h3
    exact h3
theorem ax_gl_get {xs : List Int32} {l : ax_L} {lv : sx_L} {i : Nat} {a : ax_V} (h : ax_gl xs l lv) (hi : ax_get l i = some a) : ∃ v, sx_get lv i = some v ∧ ax_g xs a v := by
  unfold ax_get at hi
  simp only [sx_ff_eq, sx_nbe] at hi
  cases hf : l.find? (fun q => q.1 == i) with
  | none => rw [hf] at hi; cases hi
  | some q =>
    rw [hf] at hi
    obtain ⟨j, b⟩ := q
    have e1 : j = i := by simpa using List.find?_some hf
    have e2 : b = a := by simpa using hi
    subst e1; subst e2
    exact h _ (List.mem_of_find?_eq_some hf)
section AXS
variable {xs : List Int32} {P : sx_P} {env : ax_N} {pc : Nat} {l : ax_L} {ast : List ax_V} {aw : ax_W} {c s : Nat} {outs : List ax_S} {lv : sx_L} {st : List Value} {w : sx_W}
theorem ax_gs2 {a b : ax_V} {r : List ax_V} (h : ax_gs xs (b :: a :: r) st) : ∃ (u v : Value) (r' : List Value), st = u :: v :: r' ∧ ax_g xs b u ∧ ax_g xs a v ∧ ax_gs xs r r' := by
  match st, h with
  | [], h => exact h.elim
  | [_], h => exact h.2.elim
  | u :: v :: r', h => exact ⟨u, v, r', rfl, h.1, h.2.1, h.2.2⟩
theorem ax_gs1 {a : ax_V} {r : List ax_V} (h : ax_gs xs (a :: r) st) : ∃ (v : Value) (r' : List Value), st = v :: r' ∧ ax_g xs a v ∧ ax_gs xs r r' := by
  match st, h with
  | [], h => exact h.elim
  | v :: r', h => exact ⟨v, r', rfl, h.1, h.2⟩
theorem ax_b2_ok {g : ax_N → ax_V → ax_V → Option ax_V} {f : Int32 → Int32 → Option Int32} (hg : ax_okI xs g f) (h : ax_b2 g env pc l ast aw c s = some outs) (he : ax_env xs env) (hl : ax_gl xs l lv) (hs : ax_gs xs ast st) (hw : ax_gw xs aw w) : ax_res xs c s outs (sx_b2 pc lv st w f) := by
  unfold ax_b2 at h
  split at h
  · rename_i b a r
    split at h
    · rename_i x hx
      obtain ⟨u, v, r', rfl, hb, ha, hr⟩ := ax_gs2 hs
      obtain ⟨x1, y1, z1, rfl, rfl, hz, hgz⟩ := hg env a b x v u he ha hb hx
      unfold sx_b2
      dsimp only
      rw [hz]
      exact ax_res1 h he hl ⟨hgz, hr⟩ hw
    · cases h
  · cases h
theorem ax_l2_ok {f : Int64 → Int64 → Int64} (h : ax_b2 (fun _ => ax_lex f) env pc l ast aw c s = some outs) (he : ax_env xs env) (hl : ax_gl xs l lv) (hs : ax_gs xs ast st) (hw : ax_gw xs aw w) : ax_res xs c s outs (sx_l2 pc lv st w f) := by
  unfold ax_b2 at h
  split at h
  · rename_i b a r
    split at h
    · rename_i x hx
      obtain ⟨u, v, r', rfl, hb, ha, hr⟩ := ax_gs2 hs
      obtain ⟨x1, y1, rfl, rfl, hgz⟩ := ax_lex_ok ha hb hx
      exact ax_res1 h he hl ⟨hgz, hr⟩ hw
    · cases h
  · cases h
theorem ax_ls_ok {f : Int64 → Int32 → Int64} (hf : ∀ y, f 0 y = 0) (h : ax_b2 (ax_lsh f) env pc l ast aw c s = some outs) (he : ax_env xs env) (hl : ax_gl xs l lv) (hs : ax_gs xs ast st) (hw : ax_gw xs aw w) : ax_res xs c s outs (sx_ls pc lv st w f) := by
  unfold ax_b2 at h
  split at h
  · rename_i b a r
    split at h
    · rename_i x hx
      obtain ⟨u, v, r', rfl, hb, ha, hr⟩ := ax_gs2 hs
      obtain ⟨x1, y1, rfl, rfl, hgz⟩ := ax_lsh_ok hf he ha hb hx
      exact ax_res1 h he hl ⟨hgz, hr⟩ hw
    · cases h
  · cases h
theorem ax_tag {a : ax_V} {v : Value} (h : ax_g xs a v) : (a.1 = 0 → ∃ x : Int32, v = .int x) ∧ (a.1 = 4 → ∃ x : Int32, v = .int x) ∧ (a.1 = 1 → ∃ x : Int64, v = .long x) ∧ (a.1 = 2 → v = .ref a.2.1.toNat) ∧ (a.1 = 3 → v = .retAddr 0) := by
  obtain ⟨t, lo, hh⟩ := a
  refine ⟨fun e => ?_, fun e => ?_, fun e => ?_, fun e => ?_, fun e => ?_⟩ <;> (dsimp only at e; subst e)
  · obtain ⟨x, hx, -⟩ := h; exact ⟨x, hx⟩
  · exact ⟨_, h⟩
  · obtain ⟨x, hx, -⟩ := h; exact ⟨x, hx⟩
  · exact h
  · exact h
theorem ax_ld_ok {t n i : Nat} (h : ax_ld t n i env pc l ast aw c s = some outs) (he : ax_env xs env) (hl : ax_gl xs l lv) (hs : ax_gs xs ast st) (hw : ax_gw xs aw w) : (t = 0 → ax_res xs c s outs (sx_ild pc n lv st w i)) ∧ (t = 1 → ax_res xs c s outs (sx_lld pc n lv st w i)) ∧ (t = 2 → ax_res xs c s outs (sx_ald pc n lv st w i)) := by
  unfold ax_ld at h
  split at h
  · rename_i a ha
    obtain ⟨v, h1, h2⟩ := ax_gl_get hl ha
    have ht := ax_tag h2
    by_cases hc : (t = 0 ∧ (a.1 = 0 ∨ a.1 = 4)) ∨ (t = 1 ∧ a.1 = 1) ∨ (t = 2 ∧ (a.1 = 2 ∨ a.1 = 3))
    · rw [if_pos hc] at h
      refine ⟨fun e => ?_, fun e => ?_, fun e => ?_⟩ <;> subst e
      · have : ∃ x : Int32, v = .int x := by
          rcases hc with ⟨-, h | h⟩ | ⟨h, -⟩ | ⟨h, -⟩
          · exact ht.1 h
          · exact ht.2.1 h
          · cases h
          · cases h
        obtain ⟨x, rfl⟩ := this
        unfold sx_ild
        rw [h1]
        exact ax_res1 h he hl ⟨h2, hs⟩ hw
      · have : ∃ x : Int64, v = .long x := by
          rcases hc with ⟨h, -⟩ | ⟨-, h⟩ | ⟨h, -⟩
          · cases h
          · exact ht.2.2.1 h
          · cases h
        obtain ⟨x, rfl⟩ := this
        unfold sx_lld
        rw [h1]
        exact ax_res1 h he hl ⟨h2, hs⟩ hw
      · rcases hc with ⟨h, -⟩ | ⟨h, -⟩ | ⟨-, hh | hh⟩
        · cases h
        · cases h
        · have := ht.2.2.2.1 hh
          subst this
          unfold sx_ald
          rw [h1]
          exact ax_res1 h he hl ⟨h2, hs⟩ hw
        · have := ht.2.2.2.2 hh
          subst this
          unfold sx_ald
          rw [h1]
          exact ax_res1 h he hl ⟨h2, hs⟩ hw
    · rw [if_neg hc] at h; cases h
  · cases h
theorem ax_sto_ok {t n nL i : Nat} (h : ax_sto t n nL i env pc l ast aw c s = some outs) (he : ax_env xs env) (hl : ax_gl xs l lv) (hs : ax_gs xs ast st) (hw : ax_gw xs aw w) : (t = 0 → ax_res xs c s outs (sx_ist pc n nL lv st w i)) ∧ (t = 1 → ax_res xs c s outs (sx_lst pc n nL lv st w i)) ∧ (t = 2 → ax_res xs c s outs (sx_ast pc n nL lv st w i)) := by
  unfold ax_sto at h
  split at h
  · rename_i a r
    obtain ⟨v, r', rfl, h2, hr⟩ := ax_gs1 hs
    have ht := ax_tag h2
    by_cases h1 : t = 1
    · rw [if_pos h1] at h
      refine ⟨fun e => by omega, fun _ => ?_, fun e => by omega⟩
      by_cases hc : a.1 = 1 ∧ i + 1 < nL
      · rw [if_pos hc] at h
        obtain ⟨x, rfl⟩ := ht.2.2.1 hc.1
        unfold sx_lst
        dsimp only
        rw [if_pos hc.2]
        exact ax_res1 h he (ax_gl_set2 hl h2) hr hw
      · rw [if_neg hc] at h; cases h
    · rw [if_neg h1] at h
      by_cases hc : i < nL ∧ ((t = 0 ∧ (a.1 = 0 ∨ a.1 = 4)) ∨ (t = 2 ∧ a.1 = 2))
      · rw [if_pos hc] at h
        refine ⟨fun e => ?_, fun e => absurd e h1, fun e => ?_⟩ <;> subst e
        · have : ∃ x : Int32, v = .int x := by
            rcases hc.2 with ⟨-, h | h⟩ | ⟨h, -⟩
            · exact ht.1 h
            · exact ht.2.1 h
            · cases h
          obtain ⟨x, rfl⟩ := this
          unfold sx_ist
          dsimp only
          rw [if_pos hc.1]
          exact ax_res1 h he (ax_gl_set hl h2) hr hw
        · have : v = .ref a.2.1.toNat := by
            rcases hc.2 with ⟨h, -⟩ | ⟨-, h⟩
            · cases h
            · exact ht.2.2.2.1 h
          subst this
          unfold sx_ast
          dsimp only
          rw [if_pos hc.1]
          exact ax_res1 h he (ax_gl_set hl h2) hr hw
      · rw [if_neg hc] at h; cases h
  · cases h
theorem ax_br_ok {k : ClassFile.Cond} {off : Int} {a b : ax_V} {x y : Int32} (h : ax_br k off a b env pc l ast aw c s = some outs) (he : ax_env xs env) (ha : ax_g xs a (.int x)) (hb : ax_g xs b (.int y)) (hl : ax_gl xs l lv) (hs : ax_gs xs ast st) (hw : ax_gw xs aw w) : ax_res xs c s outs (sx_jmp pc off lv st w (sx_cond k x y)) := by
  unfold ax_br at h
  split at h
  · rename_i p q hp hq
    by_cases hc : 0 ≤ (pc : Int) + off ∧ ¬ (a.1 = 4 ∧ b.1 = 4)
    · rw [if_pos hc] at h
      cases h
      obtain ⟨x', e1, g1, g2⟩ := ax_iv_ok he ha hp
      obtain ⟨y', e2, g3, g4⟩ := ax_iv_ok he hb hq
      cases e1; cases e2
      have hcut := ax_cut_ok k (x := x) (y := y) (p := p) (q := q) ⟨g1, g2⟩ ⟨g3, g4⟩
      unfold sx_jmp
      rw [if_pos hc.1]
      have key : ∀ (t : Bool) (tg : Nat), sx_cond k x y = t → ∃ S' ∈ ax_way k t env a b p q tg l ast aw c s, S'.2.1 = tg ∧ ax_ok xs S' lv st w ∧ S'.2.2.2.2.2.1 = c ∧ S'.2.2.2.2.2.2 = s := by
        intro t tg ht
        rw [ht] at hcut
        unfold ax_way
        have hne : ax_emp (ax_cut k t p q) = false := by
          unfold ax_emp
          obtain ⟨⟨q1, q2⟩, q3, q4⟩ := hcut
          simp only [Bool.or_eq_false_iff, decide_eq_false_iff_not]
          constructor <;> omega
        rw [hne]
        refine ⟨_, List.mem_singleton.mpr rfl, rfl, ⟨?_, hl, hs, hw⟩, rfl, rfl⟩
        have he1 := ax_upd_ok (p := (ax_cut k t p q).1) he ha hcut.1.1 hcut.1.2
        exact ax_upd_ok he1 hb hcut.2.1 hcut.2.2
      refine ⟨_, rfl, ?_⟩
      cases ht : sx_cond k x y with
      | true =>
        obtain ⟨S', hm, h1, h2, h3, h4⟩ := key true ((pc : Int) + off).toNat ht
        exact ⟨S', List.mem_append_left _ hm, h1, h2, h3, h4⟩
      | false =>
        obtain ⟨S', hm, h1, h2, h3, h4⟩ := key false (pc + 3) ht
        exact ⟨S', List.mem_append_right _ hm, h1, h2, h3, h4⟩
    · rw [if_neg hc] at h; cases h
  · cases h
theorem ax_g0 {x : Int32} : ax_g xs (0, x.toInt, x.toInt) (.int x) := ⟨x, rfl, Int.le_refl _, Int.le_refl _⟩
theorem ax_gL {x : Int64} : ax_g xs (1, x.toInt, x.toInt) (.long x) := ⟨x, rfl, Int.le_refl _, Int.le_refl _⟩
theorem ax_isI {a : ax_V} {v : Value} (he : ax_env xs env) (ha : ax_g xs a v) (h : (ax_iv env a).isSome = true) : ∃ x : Int32, v = .int x := by
  cases hi : ax_iv env a with
  | none => rw [hi] at h; cases h
  | some p => obtain ⟨x, e, -⟩ := ax_iv_ok he ha hi; exact ⟨x, e⟩
theorem ax_tsw1_ok {pc : Nat} {off : Int} {y : ax_S} {env : ax_N} (h : ax_tsw1 pc off env l ast aw c s = some y) (he : ax_env xs env) (hl : ax_gl xs l lv) (hs : ax_gs xs ast st) (hw : ax_gw xs aw w) : ∃ r, sx_jmp pc off lv st w true = some r ∧ y.2.1 = r.1 ∧ ax_ok xs y r.2.1 r.2.2.1 r.2.2.2.1 ∧ y.2.2.2.2.2.1 = c + r.2.2.2.2.1 ∧ y.2.2.2.2.2.2 = s + r.2.2.2.2.2 := by
  unfold ax_tsw1 at h
  unfold sx_jmp
  by_cases h0 : 0 ≤ (pc : Int) + off
  · rw [if_pos h0] at h ⊢
    cases h
    exact ⟨_, rfl, rfl, ⟨he, hl, hs, hw⟩, rfl, rfl⟩
  · rw [if_neg h0] at h; cases h
theorem ax_tswG_ok {p : Int × Int} {a : ax_V} {x : Int32} (he : ax_env xs env) (ha : ax_g xs a (.int x)) (hl : ax_gl xs l lv) (hs : ax_gs xs ast st) (hw : ax_gw xs aw w) (h1 : p.1 ≤ x.toInt) (h2 : x.toInt ≤ p.2) : ∀ (offs : List Int) (lo : Int) (ys : List ax_S), ax_tswG p lo offs a env pc l ast aw c s = some ys → ∀ off, lo ≤ x.toInt → offs[(x.toInt - lo).toNat]? = some off → ax_res xs c s ys (sx_jmp pc off lv st w true)
  | [], lo, ys, h, off, h3, h4 => by simp at h4
  | o :: r, lo, ys, h, off, h3, h4 => by
    unfold ax_tswG at h
    split at h
    · rename_i ys' hys
      by_cases hx : x.toInt = lo
      · have e : (x.toInt - lo).toNat = 0 := by omega
        rw [e] at h4
        cases h4
        rw [if_pos ⟨by omega, by omega⟩] at h
        split at h
        · rename_i y hy
          cases h
          obtain ⟨rr, e1, e2, e3, e4, e5⟩ := ax_tsw1_ok hy (ax_upd_ok (p := (lo, lo)) he ha (by show lo ≤ _; omega) (by show _ ≤ lo; omega)) hl hs hw
          exact ⟨rr, e1, y, List.mem_cons_self, e2, e3, e4, e5⟩
        · cases h
      · have e : (x.toInt - lo).toNat = (x.toInt - (lo + 1)).toNat + 1 := by omega
        rw [e, List.getElem?_cons_succ] at h4
        obtain ⟨rr, e1, y, hy, e2⟩ := ax_tswG_ok he ha hl hs hw h1 h2 r (lo + 1) ys' hys off (by omega) h4
        refine ⟨rr, e1, y, ?_, e2⟩
        split at h
        · split at h
          · cases h; exact List.mem_cons_of_mem _ hy
          · cases h
        · cases h; exact hy
    · cases h
theorem ax_tsw_ok {d lo hi : Int} {offs : Array Int} {a : ax_V} {x : Int32} (h : ax_tsw d lo hi offs a env pc l ast aw c s = some outs) (he : ax_env xs env) (ha : ax_g xs a (.int x)) (hl : ax_gl xs l lv) (hs : ax_gs xs ast st) (hw : ax_gw xs aw w) : ax_res xs c s outs (sx_tsw pc lv (.int x :: st) w d lo hi offs) := by
  unfold ax_tsw at h
  split at h
  · rename_i p hp
    obtain ⟨x', e1, g1, g2⟩ := ax_iv_ok he ha hp
    cases e1
    by_cases hn : lo + (offs.toList.length : Int) = hi + 1
    · rw [if_pos hn] at h
      split at h
      · rename_i ys hys
        split at h
        · rename_i y1 y2 hy1 hy2
          cases h
          unfold sx_tsw
          dsimp only
          by_cases ho : x.toInt < lo ∨ hi < x.toInt
          · rw [if_pos ho]
            rcases ho with ho | ho
            · obtain ⟨rr, e1, e2, e3, e4, e5⟩ := ax_tsw1_ok hy1 (ax_upd_ok (p := (p.1, min p.2 (lo - 1))) he ha g1 (by show _ ≤ min _ _; omega)) hl hs hw
              exact ⟨rr, e1, y1, List.mem_append_left _ (by rw [if_pos (by omega)]; exact List.mem_singleton.mpr rfl), e2, e3, e4, e5⟩
            · obtain ⟨rr, e1, e2, e3, e4, e5⟩ := ax_tsw1_ok hy2 (ax_upd_ok (p := (max p.1 (hi + 1), p.2)) he ha (by show max _ _ ≤ _; omega) g2) hl hs hw
              exact ⟨rr, e1, y2, List.mem_append_right _ (List.mem_append_left _ (by rw [if_pos (by omega)]; exact List.mem_singleton.mpr rfl)), e2, e3, e4, e5⟩
          · rw [if_neg ho]
            have hlt : (x.toInt - lo).toNat < offs.toList.length := by omega
            have hoff : offs[(x.toInt - lo).toNat]? = some (offs.toList[(x.toInt - lo).toNat]) := by
              rw [← Array.getElem?_toList]
              exact List.getElem?_eq_getElem hlt
            rw [hoff]
            obtain ⟨rr, e1, y, hy, e2⟩ := ax_tswG_ok he ha hl hs hw g1 g2 offs.toList lo ys hys _ (by omega) (List.getElem?_eq_getElem hlt)
            exact ⟨rr, e1, y, List.mem_append_right _ (List.mem_append_right _ hy), e2⟩
        · cases h
      · cases h
    · rw [if_neg hn] at h; cases h
  · cases h
theorem ax_lswG_ok {p : Int × Int} {a : ax_V} {x : Int32} {d : Int} (he : ax_env xs env) (ha : ax_g xs a (.int x)) (hl : ax_gl xs l lv) (hs : ax_gs xs ast st) (hw : ax_gw xs aw w) (h1 : p.1 ≤ x.toInt) (h2 : x.toInt ≤ p.2) : ∀ (ps : List (Int × Int)) (ys : List ax_S), ax_lswG p ps a env pc l ast aw c s = some ys → ((∃ q ∈ ps, q.1 = x.toInt) ∧ ax_res xs c s ys (sx_jmp pc (Op.lookupswitch.offset ps d x.toInt) lv st w true)) ∨ ((¬ ∃ q ∈ ps, q.1 = x.toInt) ∧ Op.lookupswitch.offset ps d x.toInt = d)
  | [], ys, h => Or.inr ⟨(fun ⟨q, hq, _⟩ => (List.not_mem_nil hq).elim), rfl⟩
  | (k, o) :: r, ys, h => by
    unfold ax_lswG at h
    split at h
    · rename_i ys' hys
      rw [Op.lookupswitch.offset_cons]
      by_cases hk : k = x.toInt
      · refine Or.inl ⟨⟨(k, o), List.mem_cons_self, hk⟩, ?_⟩
        rw [if_pos ⟨by omega, by omega⟩] at h
        rw [if_pos (by first | exact hk | exact hk.symm)]
        split at h
        · rename_i y hy
          cases h
          obtain ⟨rr, e1, e2, e3, e4, e5⟩ := ax_tsw1_ok hy (ax_upd_ok (p := (k, k)) he ha (by show k ≤ _; omega) (by show _ ≤ k; omega)) hl hs hw
          exact ⟨rr, e1, y, List.mem_cons_self, e2, e3, e4, e5⟩
        · cases h
      · rw [if_neg (by first | exact hk | exact fun e => hk e.symm)]
        rcases ax_lswG_ok (d := d) he ha hl hs hw h1 h2 r ys' hys with ⟨⟨q, hq, hqx⟩, rr, e1, y, hy, e2⟩ | ⟨hno, e⟩
        · refine Or.inl ⟨⟨q, List.mem_cons_of_mem _ hq, hqx⟩, rr, e1, y, ?_, e2⟩
          split at h
          · split at h
            · cases h; exact List.mem_cons_of_mem _ hy
            · cases h
          · cases h; exact hy
        · refine Or.inr ⟨fun ⟨q, hq, hqx⟩ => ?_, e⟩
          rcases List.mem_cons.mp hq with rfl | hq
          · exact hk hqx
          · exact hno ⟨q, hq, hqx⟩
    · cases h
theorem ax_lsw_ok {d : Int} {ps : Array (Int × Int)} {a : ax_V} {x : Int32} (h : ax_lsw d ps a env pc l ast aw c s = some outs) (he : ax_env xs env) (ha : ax_g xs a (.int x)) (hl : ax_gl xs l lv) (hs : ax_gs xs ast st) (hw : ax_gw xs aw w) : ax_res xs c s outs (sx_lsw pc lv (.int x :: st) w d ps) := by
  unfold ax_lsw at h
  split at h
  · rename_i p hp
    obtain ⟨x', e1, g1, g2⟩ := ax_iv_ok he ha hp
    cases e1
    split at h
    · rename_i hsort
      split at h
      · rename_i ys y hys hy
        cases h
        unfold sx_lsw
        dsimp only
        rw [if_pos hsort]
        rcases ax_lswG_ok (d := d) he ha hl hs hw g1 g2 ps.toList ys hys with ⟨-, rr, e1, y1, hy1, e2⟩ | ⟨hno, e⟩
        · refine ⟨rr, e1, y1, ?_, e2⟩
          split
          · exact hy1
          · exact List.mem_cons_of_mem _ hy1
        · rw [e]
          obtain ⟨rr, e1, e2, e3, e4, e5⟩ := ax_tsw1_ok hy he hl hs hw
          refine ⟨rr, e1, y, ?_, e2, e3, e4, e5⟩
          rw [if_neg]
          · exact List.mem_cons_self
          · intro ⟨q1, q2⟩
            obtain ⟨z, hz, hzx⟩ := List.any_eq_true.mp q2
            exact hno ⟨z, hz, by have : z.1 = p.1 := by simpa using hzx
                                 omega⟩
      · cases h
    · cases h
  · cases h
end AXS
end
section
/-! the reader's steps at the heap, and one theorem of its step -/
theorem ax_fit_ok {xs : List Int32} {env : ax_N} {ty : FieldType} {a : ax_V} {v : Value} (he : ax_env xs env) (hg : ax_g xs a v) (h : ax_fit env ty a = true) : sx_fit ty v = true := by
  cases ty with
  | int =>
    obtain ⟨x, rfl⟩ := ax_isI he hg h
    simp [sx_fit, narrow, fits]
  | boolean =>
    unfold ax_fit at h
    dsimp only at h
    split at h
    · rename_i p hp
      obtain ⟨x, rfl, h1, h2⟩ := ax_iv_ok he hg hp
      rw [Bool.and_eq_true, decide_eq_true_eq, decide_eq_true_eq] at h
      have hx : x = 0 ∨ x = 1 := by
        rcases (show x.toInt = 0 ∨ x.toInt = 1 by omega) with e | e
        · exact Or.inl (Int32.toInt_inj.mp e)
        · exact Or.inr (Int32.toInt_inj.mp e)
      rcases hx with rfl | rfl <;> decide
    · cases h
  | long =>
    obtain ⟨x, rfl⟩ := (ax_tag hg).2.2.1 (by simpa [ax_fit] using h)
    simp [sx_fit, narrow, fits]
  | object n =>
    have := (ax_tag hg).2.2.2.1 (by simpa [ax_fit] using h)
    subst this
    simp [sx_fit, narrow, fits]
  | array t =>
    have := (ax_tag hg).2.2.2.1 (by simpa [ax_fit] using h)
    subst this
    simp [sx_fit, narrow, fits]
  | byte => cases h
  | char => cases h
  | short => cases h
  | float => cases h
  | double => cases h
theorem ax_dv_ok {xs : List Int32} {t : FieldType} (h : ax_nofp t = true) : ax_g xs (ax_dv t) (defaultValue t) := by
  cases t <;> first | (cases h; done) | exact rfl | exact ⟨0, rfl, by decide, by decide⟩
theorem ax_rep_ok {xs : List Int32} {f : Nat → ax_V} {g : Nat → Value} : ∀ (n i : Nat), (∀ j, i ≤ j → j < i + n → ax_g xs (f j) (g j)) → ax_seg xs (ax_rep f i n) ((List.range' i n).map g)
  | 0, i, h => rfl
  | n + 1, i, h => by
    rw [List.range'_succ, List.map_cons]
    refine ax_seg_con (by simp) (fun v hv => ?_) (ax_rep_ok n (i + 1) (fun j h1 h2 => h j (by omega) (by omega)))
    have : v = g i := by simpa using hv
    rw [this]
    exact h i (Nat.le_refl _) (by omega)
theorem ax_ofNat {n : Nat} (h : n < 2147483648) : (Int32.ofNat n).toInt = (n : Int) := nI_toInt (by simpa using h)
theorem ax_ofNat_le (n : Nat) : (Int32.ofNat n).toInt ≤ (n : Int) := by
  have e : ((Int32.size : Nat) : Int) = 4294967296 := rfl
  rw [Int32.toInt_ofNat', Int.bmod_def, e]
  split <;> omega
theorem ax_ix {i : Int32} {n : Nat} (h1 : 0 ≤ i.toInt) (h2 : i.toInt < (n : Int)) : sx_ix i n = some i.toInt.toNat := by
  unfold sx_ix
  rw [if_neg]
  · rfl
  · intro h
    rcases h with h | h
    · have := Int32.lt_iff_toInt_lt.mp h
      rw [Int32.toInt_zero] at this
      omega
    · have : n ≤ i.toInt.toNat := h
      omega
theorem ax_nonneg {i : Int32} (h : 0 ≤ i.toInt) : ¬ i < 0 := fun c => by
  have := Int32.lt_iff_toInt_lt.mp c
  rw [Int32.toInt_zero] at this
  omega
theorem ax_i8 (x : Int32) : -128 ≤ (x.toInt8.toInt32).toInt ∧ (x.toInt8.toInt32).toInt ≤ 127 := by
  rw [Int8.toInt_toInt32]
  have h1 := Int8.le_toInt x.toInt8
  have h2 := Int8.toInt_lt x.toInt8
  omega
section AXT
variable {xs : List Int32} {P : sx_P} {env : ax_N} {pc : Nat} {l : ax_L} {ast : List ax_V} {aw : ax_W} {c s : Nat} {outs : List ax_S} {lv : sx_L} {st : List Value} {w : sx_W}
theorem ax_aget_ok {t : Nat} (ht : t = 100 ∨ t = 101) (h : ax_aget t env pc l ast aw c s = some outs) (he : ax_env xs env) (hl : ax_gl xs l lv) (hs : ax_gs xs ast st) (hw : ax_gw xs aw w) : ax_res xs c s outs (sx_aget pc lv st w xs t) := by
  unfold ax_aget at h
  split at h
  · rename_i i x r
    obtain ⟨u, v, r', rfl, hi, hx, hr⟩ := ax_gs2 hs
    split at h
    · rename_i p hp
      obtain ⟨i0, rfl, g1, g2⟩ := ax_iv_ok he hi hp
      by_cases h2 : x.1 = 2
      · rw [if_pos h2] at h
        have hv := (ax_tag hx).2.2.2.1 h2
        subst hv
        split at h
        · rename_i t' vs hvs
          obtain ⟨cl, e1, e2, e3⟩ := ax_gw_at hw hvs
          by_cases hc : t' = t ∧ 0 ≤ p.1 ∧ p.2 < (ax_len vs : Int)
          · rw [if_pos hc] at h
            obtain ⟨ct, cvs⟩ := cl
            dsimp only at e2 e3
            have hlen := ax_seg_len e3
            unfold sx_aget
            dsimp only
            rw [e1]
            dsimp only
            rw [if_pos (by rw [e2]; exact hc.1), ax_ix (by omega) (by rw [hlen]; omega)]
            dsimp only
            by_cases hpp : p.1 = p.2
            · rw [if_pos hpp] at h
              split at h
              · rename_i y hy
                have e4 : i0.toInt.toNat = p.1.toNat := by omega
                obtain ⟨v, f1, f2⟩ := ax_seg_nth e3 hy
                by_cases hI : (ax_iv env y).isSome = true
                · rw [if_pos hI] at h
                  obtain ⟨x0, rfl⟩ := ax_isI he f2 hI
                  rw [e4, f1]
                  exact ax_res1 h he hl ⟨f2, hr⟩ hw
                · rw [if_neg hI] at h; cases h
              · cases h
            · rw [if_neg hpp] at h
              split at h
              · rename_i y hy
                have hlt : i0.toInt.toNat < cvs.length := by rw [hlen]; omega
                have hm : cvs[i0.toInt.toNat] ∈ (cvs.drop p.1.toNat).take (p.2.toNat + 1 - p.1.toNat) := by
                  rw [List.mem_iff_getElem?]
                  refine ⟨i0.toInt.toNat - p.1.toNat, ?_⟩
                  rw [List.getElem?_take_of_lt (by omega), List.getElem?_drop, show p.1.toNat + (i0.toInt.toNat - p.1.toNat) = i0.toInt.toNat by omega]
                  exact List.getElem?_eq_getElem hlt
                have f2 := ax_seg_jall he hy (ax_seg_take _ (ax_seg_drop _ e3)) _ hm
                by_cases hI : (ax_iv env y).isSome = true
                · rw [if_pos hI] at h
                  obtain ⟨x0, hx0⟩ := ax_isI he f2 hI
                  rw [List.getElem?_eq_getElem hlt, hx0]
                  rw [hx0] at f2
                  exact ax_res1 h he hl ⟨f2, hr⟩ hw
                · rw [if_neg hI] at h; cases h
              · cases h
          · rw [if_neg hc] at h; cases h
        · cases h
      · rw [if_neg h2] at h
        by_cases h3 : x.1 = 3 ∧ t = 100
        · rw [if_pos h3] at h
          have hv := (ax_tag hx).2.2.2.2 h3.1
          subst hv
          split at h
          · rename_i q hq
            by_cases hc : p.1 = p.2 ∧ 0 ≤ p.1 ∧ p.1 < 8 ∧ p.1 < q.1 ∧ p.1.toNat < env.length
            · rw [if_pos hc] at h
              have h8 := (he 8 q hq).1
              have h9 : (ax_var xs 8).toInt ≤ (xs.length : Int) := ax_ofNat_le _
              unfold sx_aget
              dsimp only
              rw [if_pos h3.2, ax_ix (by omega) (by omega)]
              dsimp only
              refine ax_res1 h he hl ⟨?_, hr⟩ hw
              show Value.int (xs.getD i0.toInt.toNat 0) = .int (ax_var xs p.1.toNat)
              unfold ax_var
              rw [if_neg (by omega), show i0.toInt.toNat = p.1.toNat by omega]
            · rw [if_neg hc] at h; cases h
          · cases h
        · rw [if_neg h3] at h; cases h
    · cases h
  · cases h
theorem ax_nar_ok {t : Nat} {q : Int × Int} {a : ax_V} {x : Int32} (hx : ax_g xs a (.int x)) (h1 : q.1 ≤ x.toInt) (h2 : x.toInt ≤ q.2) : (t = 100 → ax_g xs (ax_nar t q a) (.int x)) ∧ (¬ t = 100 → ax_g xs (ax_nar t q a) (.int (vp_nar .byte x))) := by
  unfold ax_nar
  refine ⟨fun e => by rw [if_pos e]; exact hx, fun e => ?_⟩
  rw [if_neg e]
  by_cases hq : q.1 = q.2
  · rw [if_pos hq, ← ax_one x h1 h2 hq]
    exact ax_g0
  · rw [if_neg hq, vp_nar_byte]
    exact ⟨_, rfl, (ax_i8 x).1, (ax_i8 x).2⟩
theorem ax_aput_ok {t : Nat} {f : Int32 → Int32} (ht : (t = 100 ∧ f = fun x => x) ∨ (t = 101 ∧ f = fun x => vp_nar .byte x)) (h : ax_aput t env pc l ast aw c s = some outs) (he : ax_env xs env) (hl : ax_gl xs l lv) (hs : ax_gs xs ast st) (hw : ax_gw xs aw w) : ax_res xs c s outs (sx_aput pc lv st w t f) := by
  unfold ax_aput at h
  split at h
  · rename_i va i x r
    match st, hs with
    | [], hs => exact hs.elim
    | [_], hs => exact hs.2.elim
    | [_, _], hs => exact hs.2.2.elim
    | u :: v :: z :: r', hs =>
    obtain ⟨hu, hi, hx, hr⟩ := hs
    split at h
    · rename_i p q hp hq
      obtain ⟨i0, rfl, g1, g2⟩ := ax_iv_ok he hi hp
      obtain ⟨x0, rfl, g3, g4⟩ := ax_iv_ok he hu hq
      by_cases h2 : x.1 = 2
      · rw [if_pos h2] at h
        have hv := (ax_tag hx).2.2.2.1 h2
        subst hv
        split at h
        · rename_i t' vs hvs
          obtain ⟨cl, e1, e2, e3⟩ := ax_gw_at hw hvs
          by_cases hc : t' = t ∧ 0 ≤ p.1 ∧ p.2 < (ax_len vs : Int)
          · rw [if_pos hc] at h
            obtain ⟨ct, cvs⟩ := cl
            dsimp only at e2 e3
            have hlen := ax_seg_len e3
            have hgf : ax_g xs (ax_nar t q va) (.int (f x0)) := by
              have hh := ax_nar_ok (t := t) hu g3 g4
              rcases ht with ⟨h1, rfl⟩ | ⟨h1, rfl⟩
              · exact hh.1 h1
              · exact hh.2 (by omega)
            unfold sx_aput
            dsimp only
            rw [e1]
            dsimp only
            rw [if_pos (by rw [e2]; exact hc.1), ax_ix (by omega) (by rw [hlen]; omega)]
            dsimp only
            by_cases hpp : p.1 = p.2
            · rw [if_pos hpp] at h
              refine ax_res1 h he hl hr (ax_gw_set hw e2 ?_)
              rw [show p.1.toNat = i0.toInt.toNat by omega]
              exact ax_seg_put e3 (by rw [hlen]; omega) hgf
            · rw [if_neg hpp] at h
              split at h
              · rename_i vs' hvs'
                refine ax_res1 h he hl hr (ax_gw_set hw e2 ?_)
                exact ax_seg_weak he hvs' e3 hgf (by omega) (by omega) (by rw [hlen]; omega)
              · cases h
          · rw [if_neg hc] at h; cases h
        · cases h
      · rw [if_neg h2] at h; cases h
    · cases h
  · cases h
theorem ax_sg_ok {a : ax_V} {v : Value} {n : Nat} (he : ax_env xs env) (hg : ax_g xs a v) (h : ax_sg env a = some n) : ∃ x : Int32, v = .int x ∧ ¬ x < 0 ∧ x.toNatClampNeg = n := by
  unfold ax_sg at h
  split at h
  · rename_i p hp
    obtain ⟨x, rfl, h1, h2⟩ := ax_iv_ok he hg hp
    by_cases hc : p.1 = p.2 ∧ 0 ≤ p.1
    · rw [if_pos hc] at h
      cases h
      exact ⟨x, rfl, ax_nonneg (by omega), by show x.toInt.toNat = _; omega⟩
    · rw [if_neg hc] at h; cases h
  · cases h
theorem ax_copy_ok (h : ax_copy env pc l ast aw c s = some outs) (he : ax_env xs env) (hl : ax_gl xs l lv) (hs : ax_gs xs ast st) (hw : ax_gw xs aw w) : ax_res xs c s outs (sx_copy pc lv st w) := by
  unfold ax_copy at h
  split at h
  · rename_i n dp x1 sp x0 r
    match st, hs with
    | [], hs => exact hs.elim
    | [_], hs => exact hs.2.elim
    | [_, _], hs => exact hs.2.2.elim
    | [_, _, _], hs => exact hs.2.2.2.elim
    | [_, _, _, _], hs => exact hs.2.2.2.2.elim
    | vn :: vd :: v1 :: vs :: v0 :: r', hs =>
    obtain ⟨hn, hd, h1, hsp, h0, hr⟩ := hs
    split at h
    · rename_i n' dp' sp' en ed es
      obtain ⟨xn, rfl, an, bn⟩ := ax_sg_ok he hn en
      obtain ⟨xd, rfl, ad, bd⟩ := ax_sg_ok he hd ed
      obtain ⟨xp, rfl, as, bs⟩ := ax_sg_ok he hsp es
      by_cases hc : x0.1 = 2 ∧ x1.1 = 2 ∧ ax_csum r ≤ 8
      · rw [if_pos hc] at h
        have e0 := (ax_tag h0).2.2.2.1 hc.1
        have e1 := (ax_tag h1).2.2.2.1 hc.2.1
        subst e0; subst e1
        split at h
        · rename_i t0 f t1 g hf hg
          by_cases hc2 : t0 = 100 ∧ t1 = 100 ∧ sp' + n' ≤ ax_len f ∧ dp' + n' ≤ ax_len g
          · rw [if_pos hc2] at h
            obtain ⟨⟨c0, cf⟩, f1, f2, f3⟩ := ax_gw_at hw hf
            obtain ⟨⟨c1, cg⟩, g1, g2, g3⟩ := ax_gw_at hw hg
            dsimp only at f2 f3 g2 g3
            have lf := ax_seg_len f3
            have lg := ax_seg_len g3
            unfold sx_copy
            dsimp only
            rw [f1, g1]
            dsimp only
            rw [bn, bd, bs, if_pos ⟨by rw [f2]; exact hc2.1, by rw [g2]; exact hc2.2.1, as, ad, an, by omega, by omega, by rw [ax_gs_csum hr]; exact hc.2.2⟩]
            exact ax_res1 h he hl hr (ax_gw_set hw g2 (ax_seg_app (ax_seg_take _ g3) (ax_seg_app (ax_seg_take _ (ax_seg_drop _ f3)) (ax_seg_drop _ g3))))
          · rw [if_neg hc2] at h; cases h
        · cases h
      · rw [if_neg hc] at h; cases h
    · cases h
  · cases h
theorem ax_mm_ok {up : Bool} {f : Int32 → Int32 → Int32} (hf : (up = true ∧ f = fun x y => if x < y then y else x) ∨ (up = false ∧ f = fun x y => if y < x then y else x)) (h : ax_mm up env pc l ast aw c s = some outs) (he : ax_env xs env) (hl : ax_gl xs l lv) (hs : ax_gs xs ast st) (hw : ax_gw xs aw w) : ax_res xs c s outs (sx_mm pc lv st w f) := by
  unfold ax_mm at h
  split at h
  · rename_i b a r
    obtain ⟨u, v, r', rfl, hb, ha, hr⟩ := ax_gs2 hs
    split at h
    · rename_i p q hp hq
      obtain ⟨x, rfl, g1, g2⟩ := ax_iv_ok he ha hp
      obtain ⟨y, rfl, g3, g4⟩ := ax_iv_ok he hb hq
      by_cases hc : ax_csum r ≤ 8
      · rw [if_pos hc] at h
        unfold sx_mm
        dsimp only
        rw [if_pos (by rw [ax_gs_csum hr]; exact hc)]
        refine ax_res1 h he hl ⟨?_, hr⟩ hw
        rcases hf with ⟨rfl, rfl⟩ | ⟨rfl, rfl⟩
        · by_cases hxy : x < y
          · have := Int32.lt_iff_toInt_lt.mp hxy
            refine ⟨y, by dsimp only; rw [if_pos hxy], ?_, ?_⟩
            · show max p.1 q.1 ≤ _; omega
            · show _ ≤ max p.2 q.2; omega
          · have : ¬ x.toInt < y.toInt := fun c => hxy (Int32.lt_iff_toInt_lt.mpr c)
            refine ⟨x, by dsimp only; rw [if_neg hxy], ?_, ?_⟩
            · show max p.1 q.1 ≤ _; omega
            · show _ ≤ max p.2 q.2; omega
        · by_cases hxy : y < x
          · have := Int32.lt_iff_toInt_lt.mp hxy
            refine ⟨y, by dsimp only; rw [if_pos hxy], ?_, ?_⟩
            · show min p.1 q.1 ≤ _; omega
            · show _ ≤ min p.2 q.2; omega
          · have : ¬ y.toInt < x.toInt := fun c => hxy (Int32.lt_iff_toInt_lt.mpr c)
            refine ⟨x, by dsimp only; rw [if_neg hxy], ?_, ?_⟩
            · show min p.1 q.1 ≤ _; omega
            · show _ ≤ min p.2 q.2; omega
      · rw [if_neg hc] at h; cases h
    · cases h
  · cases h
end AXT
end
section
/-! one theorem of the reader's step -/
section AXU
variable {xs : List Int32} {P : sx_P} {env : ax_N} {pc : Nat} {l : ax_L} {ast : List ax_V} {aw : ax_W} {c s : Nat} {outs : List ax_S} {lv : sx_L} {st : List Value} {w : sx_W}
theorem ax_iinc_ok {nL i : Nat} {n : Int} (h : (match ax_get l i with
      | some x => (match ax_iadd env x (0, (Int32.ofInt n).toInt, (Int32.ofInt n).toInt) with
        | some y => if i < nL then ax_1 env (pc + 3) (ax_set l i y) ast aw c s else none
        | none => none)
      | none => none) = some outs) (he : ax_env xs env) (hl : ax_gl xs l lv) (hs : ax_gs xs ast st) (hw : ax_gw xs aw w) : ax_res xs c s outs (sx_iinc pc nL lv st w i n) := by
  split at h
  · rename_i x hx
    split at h
    · rename_i y hy
      obtain ⟨v, g1, g2⟩ := ax_gl_get hl hx
      obtain ⟨x0, y0, z0, rfl, e2, hz, hg⟩ := ax_iadd_ok xs env x _ y v (.int (Int32.ofInt n)) he g2 ax_g0 hy
      cases e2
      cases hz
      by_cases hi : i < nL
      · rw [if_pos hi] at h
        unfold sx_iinc
        rw [g1]
        dsimp only
        rw [if_pos hi]
        exact ax_res1 h he (ax_gl_set hl hg) hs hw
      · rw [if_neg hi] at h; cases h
    · cases h
  · cases h
theorem ax_step_ok {nL : Nat} {E : sx_E} (h : ax_step P nL E (env, E.1, l, ast, aw, c, s) = some outs) (he : ax_env xs env) (hl : ax_gl xs l lv) (hs : ax_gs xs ast st) (hw : ax_gw xs aw w) : ax_res xs c s outs (sx_step P xs nL E lv st w) := by
  obtain ⟨pc, I, len, a, k, q, z⟩ := E
  cases I
  case iconst n => exact ax_res1 h he hl ⟨ax_g0, hs⟩ hw
  case bipush n => exact ax_res1 h he hl ⟨ax_g0, hs⟩ hw
  case sipush n => exact ax_res1 h he hl ⟨ax_g0, hs⟩ hw
  case lconst n => exact ax_res1 h he hl ⟨ax_gL, hs⟩ hw
  case ldc n => exact ax_res1 h he hl ⟨ax_g0, hs⟩ hw
  case ldc_w n => exact ax_res1 h he hl ⟨ax_g0, hs⟩ hw
  case ldc2_w n => exact ax_res1 h he hl ⟨ax_gL, hs⟩ hw
  case iload_n i => exact (ax_ld_ok h he hl hs hw).1 rfl
  case iload i => exact (ax_ld_ok h he hl hs hw).1 rfl
  case lload_n i => exact (ax_ld_ok h he hl hs hw).2.1 rfl
  case lload i => exact (ax_ld_ok h he hl hs hw).2.1 rfl
  case aload_n i => exact (ax_ld_ok h he hl hs hw).2.2 rfl
  case aload i => exact (ax_ld_ok h he hl hs hw).2.2 rfl
  case istore_n i => exact (ax_sto_ok h he hl hs hw).1 rfl
  case istore i => exact (ax_sto_ok h he hl hs hw).1 rfl
  case lstore_n i => exact (ax_sto_ok h he hl hs hw).2.1 rfl
  case lstore i => exact (ax_sto_ok h he hl hs hw).2.1 rfl
  case astore_n i => exact (ax_sto_ok h he hl hs hw).2.2 rfl
  case astore i => exact (ax_sto_ok h he hl hs hw).2.2 rfl
  case iinc i n => exact ax_iinc_ok h he hl hs hw
  case iadd => exact ax_b2_ok (ax_iadd_ok xs) h he hl hs hw
  case isub => exact ax_b2_ok (ax_isub_ok xs) h he hl hs hw
  case imul => exact ax_b2_ok (ax_imul_ok xs) h he hl hs hw
  case iand => exact ax_b2_ok (ax_iand_ok xs) h he hl hs hw
  case ior => exact ax_b2_ok (ax_gen_ok xs _) h he hl hs hw
  case ixor => exact ax_b2_ok (ax_gen_ok xs _) h he hl hs hw
  case idiv => exact ax_b2_ok (ax_quo_ok xs _ (fun x y hy => ⟨x / y, by simp [hy]⟩)) h he hl hs hw
  case irem => exact ax_b2_ok (ax_quo_ok xs _ (fun x y hy => ⟨x - x / y * y, by simp [hy]⟩)) h he hl hs hw
  case ishl => exact ax_b2_ok (ax_gen_ok xs _) h he hl hs hw
  case ishr => exact ax_b2_ok (ax_ishr_ok xs) h he hl hs hw
  case iushr => exact ax_b2_ok (ax_gen_ok xs _) h he hl hs hw
  case i2l =>
    dsimp only [ax_step] at h
    split at h
    · rename_i a r
      obtain ⟨v, r', rfl, ha, hr⟩ := ax_gs1 hs
      split at h
      · rename_i p hp
        obtain ⟨x, rfl, h1, h2⟩ := ax_iv_ok he ha hp
        exact ax_res1 h he hl ⟨⟨_, rfl, by rw [Int32.toInt_toInt64]; exact h1, by rw [Int32.toInt_toInt64]; exact h2⟩, hr⟩ hw
      · cases h
    · cases h
  case i2b =>
    dsimp only [ax_step] at h
    split at h
    · rename_i a r
      obtain ⟨v, r', rfl, ha, hr⟩ := ax_gs1 hs
      split at h
      · rename_i p hp
        obtain ⟨x, rfl, h1, h2⟩ := ax_iv_ok he ha hp
        refine ax_res1 (st := .int x.toInt8.toInt32 :: r') h he hl ⟨?_, hr⟩ hw
        by_cases hpp : p.1 = p.2
        · rw [if_pos hpp, ← ax_one x h1 h2 hpp]; exact ax_g0
        · rw [if_neg hpp]; exact ⟨_, rfl, (ax_i8 x).1, (ax_i8 x).2⟩
      · cases h
    · cases h
  case l2i =>
    dsimp only [ax_step] at h
    split at h
    · rename_i a r
      obtain ⟨v, r', rfl, ha, hr⟩ := ax_gs1 hs
      by_cases h1 : a.1 = 1
      · rw [if_pos h1] at h
        obtain ⟨x, rfl, g1, g2⟩ := ax_g1 ha h1
        refine ax_res1 (st := .int x.toInt32 :: r') h he hl ⟨?_, hr⟩ hw
        by_cases hpp : a.2.1 = a.2.2
        · rw [if_pos hpp, ← ax_oneL x g1 g2 hpp]; exact ax_g0
        · rw [if_neg hpp]; exact ax_top_ok _
      · rw [if_neg h1] at h; cases h
    · cases h
  case ladd => exact ax_l2_ok h he hl hs hw
  case lsub => exact ax_l2_ok h he hl hs hw
  case lmul => exact ax_l2_ok h he hl hs hw
  case land => exact ax_l2_ok h he hl hs hw
  case lor => exact ax_l2_ok h he hl hs hw
  case lxor => exact ax_l2_ok h he hl hs hw
  case lshl => exact ax_ls_ok ax_lshl0 h he hl hs hw
  case lushr => exact ax_ls_ok ax_lushr0 h he hl hs hw
  case lcmp =>
    dsimp only [ax_step] at h
    split at h
    · rename_i b a r
      obtain ⟨u, v, r', rfl, hb, ha, hr⟩ := ax_gs2 hs
      by_cases hc : a.1 = 1 ∧ b.1 = 1
      · rw [if_pos hc] at h
        obtain ⟨x, rfl, g1, g2⟩ := ax_g1 ha hc.1
        obtain ⟨y, rfl, g3, g4⟩ := ax_g1 hb hc.2
        refine ax_res1 (st := .int (lg_cmp x y) :: r') h he hl ⟨?_, hr⟩ hw
        unfold lg_cmp
        by_cases k1 : b.2.2 < a.2.1
        · rw [if_pos k1, if_pos (by show y < x; rw [Int64.lt_iff_toInt_lt]; omega)]
          exact ⟨1, rfl, by decide, by decide⟩
        · rw [if_neg k1]
          by_cases k2 : a.2.2 < b.2.1
          · rw [if_pos k2, if_neg (by show ¬ y < x; rw [Int64.lt_iff_toInt_lt]; omega), if_neg (by intro e; rw [e] at g1 g2; omega)]
            exact ⟨-1, rfl, by decide, by decide⟩
          · rw [if_neg k2]
            by_cases k3 : a.2.1 = a.2.2 ∧ b.2.1 = b.2.2
            · have e : x = y := Int64.toInt_inj.mp (by omega)
              rw [if_pos k3, if_neg (by show ¬ y < x; rw [Int64.lt_iff_toInt_lt, e]; omega), if_pos e]
              exact ⟨0, rfl, by decide, by decide⟩
            · rw [if_neg k3]
              split
              · exact ⟨1, rfl, by decide, by decide⟩
              · split
                · exact ⟨0, rfl, by decide, by decide⟩
                · exact ⟨-1, rfl, by decide, by decide⟩
      · rw [if_neg hc] at h; cases h
    · cases h
  case dup =>
    dsimp only [ax_step] at h
    split at h
    · rename_i a r
      obtain ⟨v, r', rfl, ha, hr⟩ := ax_gs1 hs
      by_cases h1 : a.1 = 1
      · rw [if_pos h1] at h; cases h
      · rw [if_neg h1] at h
        have hv : v.category = 1 := by rw [ax_g_cat ha]; unfold ax_cat; rw [if_neg h1]
        dsimp only [sx_step]
        unfold sx_d1
        dsimp only
        rw [if_pos hv]
        exact ax_res1 h he hl ⟨ha, ha, hr⟩ hw
    · cases h
  case pop =>
    dsimp only [ax_step] at h
    split at h
    · rename_i a r
      obtain ⟨v, r', rfl, ha, hr⟩ := ax_gs1 hs
      by_cases h1 : a.1 = 1
      · rw [if_pos h1] at h; cases h
      · rw [if_neg h1] at h
        have hv : v.category = 1 := by rw [ax_g_cat ha]; unfold ax_cat; rw [if_neg h1]
        dsimp only [sx_step]
        unfold sx_p1
        dsimp only
        rw [if_pos hv]
        exact ax_res1 h he hl hr hw
    · cases h
  case dup_x1 =>
    dsimp only [ax_step] at h
    split at h
    · rename_i a b r
      obtain ⟨v, u, r', rfl, ha, hb, hr⟩ := ax_gs2 hs
      by_cases h1 : a.1 = 1 ∨ b.1 = 1
      · rw [if_pos h1] at h; cases h
      · rw [if_neg h1] at h
        have hv : v.category = 1 := by rw [ax_g_cat ha]; unfold ax_cat; rw [if_neg (fun e => h1 (Or.inl e))]
        have hu : u.category = 1 := by rw [ax_g_cat hb]; unfold ax_cat; rw [if_neg (fun e => h1 (Or.inr e))]
        dsimp only [sx_step]
        unfold sx_dx1
        dsimp only
        rw [if_pos ⟨hv, hu⟩]
        exact ax_res1 h he hl ⟨ha, hb, ha, hr⟩ hw
    · cases h
  case dup2 =>
    dsimp only [ax_step] at h
    split at h
    · rename_i a b r
      obtain ⟨v, u, r', rfl, ha, hb, hr⟩ := ax_gs2 hs
      by_cases h1 : a.1 = 1 ∨ b.1 = 1
      · rw [if_pos h1] at h; cases h
      · rw [if_neg h1] at h
        have hv : v.category = 1 := by rw [ax_g_cat ha]; unfold ax_cat; rw [if_neg (fun e => h1 (Or.inl e))]
        have hu : u.category = 1 := by rw [ax_g_cat hb]; unfold ax_cat; rw [if_neg (fun e => h1 (Or.inr e))]
        dsimp only [sx_step]
        unfold sx_d2
        dsimp only
        rw [if_pos ⟨hv, hu⟩]
        exact ax_res1 h he hl ⟨ha, hb, ha, hb, hr⟩ hw
    · cases h
  case ifCond kc off =>
    dsimp only [ax_step] at h
    split at h
    · rename_i a r
      obtain ⟨v, r', rfl, ha, hr⟩ := ax_gs1 hs
      have hI : (ax_iv env a).isSome = true := by
        unfold ax_br at h
        split at h
        · rename_i p q hp hq; rw [hp]; rfl
        · cases h
      obtain ⟨x, rfl⟩ := ax_isI he ha hI
      exact ax_br_ok h he ha ⟨0, rfl, by decide, by decide⟩ hl hr hw
    · cases h
  case if_icmp kc off =>
    dsimp only [ax_step] at h
    split at h
    · rename_i b a r
      obtain ⟨u, v, r', rfl, hb, ha, hr⟩ := ax_gs2 hs
      have hI : (ax_iv env a).isSome = true ∧ (ax_iv env b).isSome = true := by
        unfold ax_br at h
        split at h
        · rename_i p q hp hq; rw [hp, hq]; exact ⟨rfl, rfl⟩
        · cases h
      obtain ⟨x, rfl⟩ := ax_isI he ha hI.1
      obtain ⟨y, rfl⟩ := ax_isI he hb hI.2
      exact ax_br_ok h he ha hb hl hr hw
    · cases h
  case goto off =>
    dsimp only [ax_step] at h
    dsimp only [sx_step]
    unfold sx_jmp
    by_cases h0 : 0 ≤ (pc : Int) + off
    · rw [if_pos h0] at h ⊢
      exact ax_res1 h he hl hs hw
    · rw [if_neg h0] at h; cases h
  case tableswitch d lo hi offs =>
    dsimp only [ax_step] at h
    split at h
    · rename_i a r
      obtain ⟨v, r', rfl, ha, hr⟩ := ax_gs1 hs
      have hI : (ax_iv env a).isSome = true := by
        unfold ax_tsw at h
        split at h
        · rename_i p hp; rw [hp]; rfl
        · cases h
      obtain ⟨x, rfl⟩ := ax_isI he ha hI
      exact ax_tsw_ok h he ha hl hr hw
    · cases h
  case lookupswitch d ps =>
    dsimp only [ax_step] at h
    split at h
    · rename_i a r
      obtain ⟨v, r', rfl, ha, hr⟩ := ax_gs1 hs
      have hI : (ax_iv env a).isSome = true := by
        unfold ax_lsw at h
        split at h
        · rename_i p hp; rw [hp]; rfl
        · cases h
      obtain ⟨x, rfl⟩ := ax_isI he ha hI
      exact ax_lsw_ok h he ha hl hr hw
    · cases h
  case getfield i =>
    dsimp only [ax_step] at h
    split at h
    · rename_i x r
      obtain ⟨v, r', rfl, ha, hr⟩ := ax_gs1 hs
      by_cases h2 : x.1 = 2
      · rw [if_pos h2] at h
        have hv := (ax_tag ha).2.2.2.1 h2
        subst hv
        split at h
        · rename_i t fs hfs
          obtain ⟨⟨ct, cfs⟩, e1, e2, e3⟩ := ax_gw_at hw hfs
          dsimp only at e2 e3
          by_cases hc : t = a ∧ a < 100
          · rw [if_pos hc] at h
            split at h
            · rename_i y hy
              obtain ⟨u, f1, f2⟩ := ax_seg_nth e3 hy
              dsimp only [sx_step]
              unfold sx_getf
              dsimp only
              rw [e1]
              dsimp only
              rw [if_pos ⟨by rw [e2]; exact hc.1, hc.2⟩, f1]
              exact ax_res1 h he hl ⟨f2, hr⟩ hw
            · cases h
          · rw [if_neg hc] at h; cases h
        · cases h
      · rw [if_neg h2] at h; cases h
    · cases h
  case putfield i =>
    dsimp only [ax_step] at h
    split at h
    · rename_i y x r
      obtain ⟨u, v, r', rfl, hy, hx, hr⟩ := ax_gs2 hs
      by_cases h2 : x.1 = 2
      · rw [if_pos h2] at h
        have hv := (ax_tag hx).2.2.2.1 h2
        subst hv
        split at h
        · rename_i t fs hfs
          obtain ⟨⟨ct, cfs⟩, e1, e2, e3⟩ := ax_gw_at hw hfs
          dsimp only at e2 e3
          by_cases hc : t = a ∧ a < 100 ∧ k < ax_len fs ∧ ax_fit env (P.2.2.1 a k) y = true
          · rw [if_pos hc] at h
            have hlen := ax_seg_len e3
            dsimp only [sx_step]
            unfold sx_putf
            dsimp only
            rw [e1]
            dsimp only
            rw [if_pos ⟨by rw [e2]; exact hc.1, hc.2.1, by rw [hlen]; exact hc.2.2.1, ax_fit_ok he hy hc.2.2.2⟩]
            exact ax_res1 h he hl hr (ax_gw_set hw e2 (ax_seg_put e3 (by rw [hlen]; exact hc.2.2.1) hy))
          · rw [if_neg hc] at h; cases h
        · cases h
      · rw [if_neg h2] at h; cases h
    · cases h
  case iaload => exact ax_aget_ok (Or.inl rfl) h he hl hs hw
  case baload => exact ax_aget_ok (Or.inr rfl) h he hl hs hw
  case iastore => exact ax_aput_ok (Or.inl ⟨rfl, rfl⟩) h he hl hs hw
  case bastore => exact ax_aput_ok (Or.inr ⟨rfl, rfl⟩) h he hl hs hw
  case arraylength =>
    dsimp only [ax_step] at h
    split at h
    · rename_i x r
      obtain ⟨v, r', rfl, hx, hr⟩ := ax_gs1 hs
      by_cases h2 : x.1 = 2
      · rw [if_pos h2] at h
        have hv := (ax_tag hx).2.2.2.1 h2
        subst hv
        split at h
        · rename_i t fs hfs
          obtain ⟨⟨ct, cfs⟩, e1, e2, e3⟩ := ax_gw_at hw hfs
          dsimp only at e2 e3
          by_cases hc : (t = 100 ∨ t = 101) ∧ ax_len fs < 2147483648
          · rw [if_pos hc] at h
            have hlen := ax_seg_len e3
            dsimp only [sx_step]
            unfold sx_alen
            dsimp only
            rw [e1]
            dsimp only
            rw [if_pos (by rw [e2]; exact hc.1), hlen]
            exact ax_res1 h he hl ⟨⟨_, rfl, by rw [ax_ofNat hc.2]; exact Int.le_refl _, by rw [ax_ofNat hc.2]; exact Int.le_refl _⟩, hr⟩ hw
          · rw [if_neg hc] at h; cases h
        · cases h
      · rw [if_neg h2] at h
        by_cases h3 : x.1 = 3
        · rw [if_pos h3] at h
          have hv := (ax_tag hx).2.2.2.2 h3
          subst hv
          exact ax_res1 h he hl ⟨by show Value.int _ = .int (ax_var xs 8); rfl, hr⟩ hw
        · rw [if_neg h3] at h; cases h
    · cases h
  case new i =>
    dsimp only [ax_step] at h
    dsimp only [sx_step]
    unfold sx_newc
    split at h
    · rename_i q0 hq0
      by_cases hc : a < 100 ∧ (List.range q0.2.2).all (fun j => ax_nofp (P.2.2.1 a j)) = true
      · rw [if_pos hc] at h
        rw [hq0]
        dsimp only
        rw [if_pos hc.1]
        cases h
        refine ⟨_, rfl, _, List.mem_singleton.mpr rfl, rfl, ⟨he, hl, ⟨?_, hs⟩, ?_⟩, rfl, rfl⟩
        · show Value.ref _ = .ref ((aw.length : Int)).toNat
          rw [ax_gw_len hw]; rfl
        · refine ax_gw_push rfl ?_ hw
          unfold sx_dflt
          rw [List.range_eq_range']
          exact ax_rep_ok _ _ (fun j h1 h2 => ax_dv_ok (List.all_eq_true.mp hc.2 j (List.mem_range.mpr (by omega))))
      · rw [if_neg hc] at h; cases h
    · cases h
  case newarray t =>
    dsimp only [ax_step] at h
    split at h
    · rename_i x r
      obtain ⟨v, r', rfl, hx, hr⟩ := ax_gs1 hs
      by_cases hc : x.1 = 0 ∧ x.2.1 = x.2.2 ∧ 0 ≤ x.2.1 ∧ x.2.1 < 1000000
      · rw [if_pos hc] at h
        obtain ⟨x0, rfl, g1, g2⟩ := ax_iv_ok (p := (x.2.1, x.2.2)) he hx (by unfold ax_iv; rw [hc.1]; rfl)
        dsimp only at g1 g2
        have e : x0.toNatClampNeg = x.2.1.toNat := by show x0.toInt.toNat = _; omega
        dsimp only [sx_step]
        unfold sx_newa
        dsimp only
        rw [if_neg (by
          rintro (h | h)
          · exact ax_nonneg (by omega) h
          · rw [e] at h; omega)]
        cases h
        rw [e]
        refine ⟨_, rfl, _, List.mem_singleton.mpr rfl, rfl, ⟨he, hl, ⟨?_, hr⟩, ?_⟩, rfl, rfl⟩
        · show Value.ref _ = .ref ((aw.length : Int)).toNat
          rw [ax_gw_len hw]; rfl
        · have hsg : ax_seg xs (ax_con x.2.1.toNat (0, 0, 0) []) (List.replicate x.2.1.toNat (Value.int 0)) := by
            refine ax_seg_con (Nat.le_of_eq (List.length_replicate ..).symm) (fun v hv => ?_) ?_
            · have := List.eq_of_mem_replicate (List.mem_of_mem_take hv)
              rw [this]
              exact ⟨0, rfl, by decide, by decide⟩
            · rw [List.drop_eq_nil_of_le (by simp)]
              rfl
          exact ax_gw_push rfl hsg hw
      · rw [if_neg hc] at h; cases h
    · cases h
  case invokespecial i =>
    dsimp only [ax_step] at h
    dsimp only [sx_step]
    by_cases ha : a = 1000
    · rw [if_pos ha] at h ⊢
      split at h
      · rename_i x r
        obtain ⟨v, r', rfl, hx, hr⟩ := ax_gs1 hs
        by_cases hc : x.1 = 2 ∧ ax_csum r ≤ 8
        · rw [if_pos hc] at h
          have hv := (ax_tag hx).2.2.2.1 hc.1
          subst hv
          unfold sx_oini
          dsimp only
          rw [if_pos (by rw [ax_gs_csum hr]; exact hc.2)]
          exact ax_res1 h he hl hr hw
        · rw [if_neg hc] at h; cases h
      · cases h
    · rw [if_neg ha] at h; cases h
  case invokestatic i =>
    dsimp only [ax_step] at h
    dsimp only [sx_step]
    by_cases h1 : a = 1001
    · rw [if_pos h1] at h ⊢
      exact ax_copy_ok h he hl hs hw
    · rw [if_neg h1] at h ⊢
      by_cases h2 : a = 1002
      · rw [if_pos h2] at h ⊢
        exact ax_mm_ok (Or.inl ⟨rfl, rfl⟩) h he hl hs hw
      · rw [if_neg h2] at h ⊢
        by_cases h3 : a = 1003
        · rw [if_pos h3] at h ⊢
          exact ax_mm_ok (Or.inr ⟨rfl, rfl⟩) h he hl hs hw
        · rw [if_neg h3] at h; cases h
  all_goals (cases h)
end AXU
end
section
/-! whole roads hold the machine's roads -/
noncomputable def sx_rowOk (P : sx_P) (own : String) (ini : Bool) (E : sx_E) : Bool := if sx_isCall E then (match P.2.2.2.1[E.2.2.2.1]? with
  | some M => sx_link P own E M
  | none => false) else sx_pool P own ini E
noncomputable def sx_rowsOk (P : sx_P) (M : sx_M) : Bool := M.2.2.2.2.2.2.2.all (fun E => sx_rowOk P M.1.cls (sx_isIni M) E)
noncomputable def sx_Mok (P : sx_P) (M : sx_M) : Prop := ∀ E ∈ M.2.2.2.2.2.2.2, sx_dec M.2.1 E = true ∧ sx_rowOk P M.1.cls (sx_isIni M) E = true
noncomputable def sx_Pok (P : sx_P) : Prop := sx_kindOk P ∧ (∀ w ∈ P.2.2.2.2, sx_isNest w = true) ∧ ∀ M ∈ P.2.2.2.1, sx_mOk P M = true ∧ sx_rowsOk P M = true
theorem sx_mOk_rows {P : sx_P} {M : sx_M} (h : sx_mOk P M = true) : plainName M.1.cls = true ∧ ∀ E ∈ M.2.2.2.2.2.2.2, sx_dec M.2.1 E = true := by
  obtain ⟨y, bytes, maxL, ret, n, isS, ⟨q1, q2, q3, q4⟩, rows⟩ := M
  simp only [sx_mOk, Bool.and_eq_true] at h
  exact ⟨h.1.1.1.1.1.1.1, List.all_eq_true.mp h.2⟩
theorem sx_Pok.row {P : sx_P} (h : sx_Pok P) {M : sx_M} (hM : M ∈ P.2.2.2.1) : sx_Mok P M := fun E hE => ⟨(sx_mOk_rows (h.2.2 M hM).1).2 E hE, List.all_eq_true.mp (h.2.2 M hM).2 E hE⟩
theorem sx_lgsl_len (N0 b : Nat) (av : List Value) : (lg_sl (sx_st N0 b av)).length = sx_csum av := by
  induction av with
  | nil => rfl
  | cons v vs ih =>
    have e : lg_sl (sx_st N0 b (v :: vs)) = (if (sx_sh N0 b v).category = 2 then [.val (sx_sh N0 b v), .second] else [.val (sx_sh N0 b v)]) ++ lg_sl (sx_st N0 b vs) := rfl
    rw [e, List.length_append, ih, sx_sh_cat]
    unfold sx_csum
    rw [List.map_cons, List.sum_cons]
    rcases lv_cat v with h | h <;> simp [h]
theorem sx_args_sh (N0 b : Nat) : ∀ (av : List Value) (i : Nat), lv_args i (sx_st N0 b av) = sx_lv N0 b (lv_args i av)
  | [], i => rfl
  | v :: vs, i => by
    show (i, sx_sh N0 b v) :: lv_args (if (sx_sh N0 b v).category = 2 then i + 2 else i + 1) (sx_st N0 b vs) = (i, sx_sh N0 b v) :: sx_lv N0 b (lv_args (if v.category = 2 then i + 2 else i + 1) vs)
    rw [sx_sh_cat, sx_args_sh N0 b vs]
theorem ax_args_ok {xs : List Int32} : ∀ {l : List ax_V} {vs : List Value} (i : Nat), ax_gs xs l vs → ∀ q ∈ ax_args i l, i ≤ q.1 ∧ ∃ v, sx_get (lv_args i vs) q.1 = some v ∧ ax_g xs q.2 v
  | [], vs, i, h, q, hq => by cases hq
  | a :: l, [], i, h, q, hq => h.elim
  | a :: l, v :: vs, i, h, q, hq => by
    have hc : (if v.category = 2 then i + 2 else i + 1) = i + ax_cat a := by
      rw [ax_g_cat h.1]
      unfold ax_cat
      split <;> simp
    show i ≤ q.1 ∧ ∃ u, sx_get ((i, v) :: lv_args (if v.category = 2 then i + 2 else i + 1) vs) q.1 = some u ∧ ax_g xs q.2 u
    rw [hc]
    rcases List.mem_cons.mp hq with rfl | hq
    · exact ⟨Nat.le_refl _, v, sx_get_self _ _ _, h.1⟩
    · obtain ⟨h1, u, h2, h3⟩ := ax_args_ok (i + ax_cat a) h.2 q hq
      have hp : 0 < ax_cat a := by unfold ax_cat; split <;> decide
      refine ⟨by omega, u, ?_, h3⟩
      unfold sx_get at h2 ⊢
      rw [List.find?_cons]
      have hb : (i == q.1) = false := by simp; omega
      rw [hb]
      exact h2
section AXR
variable {P : sx_P} {l : Launch} {D : va_G} {cA : Nat → ClassId} {N0 b : Nat} {xs : List Int32}
theorem sx_met {M : sx_M} (hm : sx_mOk P M = true) {d mc ms : Nat} {av : List Value} {w : sx_W} {F : Option Value → sx_W → Prop} (hfit : sx_csum av ≤ M.2.2.1)
    (body : ∀ (p : Program) (e : Env) (s : State) (m : MethodId) (args : Array Value) (below : List Frame) (meth : Method) (c : Code), sx_Fx P D cA N0 b M.2.2.1 xs M.1.cls M.2.1 p (sx_rm d mc ms) s m args c → (sx_isIni M = true → meth.name = "<init>") → meth.sig.returnType = M.2.2.2.1 → meth.locks = false →
      sx_G p l e (sx_rm d mc ms) s m args below meth c (sx_MQ P D cA N0 b xs F mc ms s args below) P D cA N0 b M.2.2.1 0 0 w 0 (lv_args 0 av) []) : sx_C P l D cA N0 b xs M d mc ms av w F := by
  unfold sx_C
  refine Met.ofW (cc := M.2.1) (maxL := M.2.2.1) (ret := M.2.2.2.1) (sx_mOk_rows hm).1 rfl ?_
  intro p e s m args below meth c s₁ B hml hv
  obtain ⟨rfl, hB⟩ := hv
  have hts := atoms_spec (ws := sx_words P M) B.pre
  have hF : sx_Fx P D cA N0 b M.2.2.1 xs M.1.cls M.2.1 p (sx_rm d mc ms) s m (sx_st N0 b av).toArray c := ⟨B.exec, B.bytes, hml, findClass_of_methodNamed B.named, fun w hw hg => hts w (List.mem_cons_of_mem _ (List.mem_filter.mpr ⟨hw, hg⟩)), hB.2.1, by rw [hB.1.1]; exact Nat.le_add_right _ _, hB.2.2.1, hB.2.2.2, Nat.le_add_left _ _, by show 64 ≤ 64 * (d + 1); omega⟩
  have hl := lv_entry (sx_st N0 b av) (n := M.2.2.1) (by rw [sx_lgsl_len]; exact hfit)
  rw [sx_args_sh] at hl
  rw [lg_entry_eq]
  generalize (lg_sl (sx_st N0 b av) ++ List.replicate (M.2.2.1 - (lg_sl (sx_st N0 b av)).length) Slot.unset).toArray = ls at hl ⊢
  exact body p e s m _ below meth c hF (fun hi => by
    have h1 := (name_of_methodNamed B.named B.method).1
    have h2 : M.1.name = "<init>" := by simpa [sx_isIni] using hi
    rw [h1]; exact h2) B.returns B.notSynchronized s.heap [] ls hB.1 va_S.rf hl
def ax_go (xs : List Int32) (a : Option ax_V) (r : Option Value) : Prop := match a, r with
  | none, none => True
  | some a, some v => ax_g xs a v
  | _, _ => False
theorem ax_go_list {a : Option ax_V} {r : Option Value} (h : ax_go xs a r) : ax_gs xs a.toList r.toList := by
  cases a <;> cases r
  · exact rfl
  · exact h.elim
  · exact h.elim
  · exact ⟨h, rfl⟩
theorem ax_leV_ok {env : ax_N} {a c : ax_V} {v : Value} (he : ax_env xs env) (h : ax_leV env a c = true) (hg : ax_g xs a v) : ax_g xs c v := by
  unfold ax_leV at h
  by_cases hac : a = c
  · rw [← hac]; exact hg
  · rw [if_neg hac] at h
    obtain ⟨t, lo, hh⟩ := c
    dsimp only at h
    split at h
    · split at h
      · rename_i p hp
        obtain ⟨x, rfl, h1, h2⟩ := ax_iv_ok he hg hp
        rw [Bool.and_eq_true, decide_eq_true_eq, decide_eq_true_eq] at h
        exact ⟨x, rfl, by dsimp only; omega, by dsimp only; omega⟩
      · cases h
    · simp only [Bool.and_eq_true, decide_eq_true_eq] at h
      obtain ⟨x, rfl, h1, h2⟩ := ax_g1 hg h.1.1
      exact ⟨x, rfl, by dsimp only; omega, by dsimp only; omega⟩
    · cases h
/-- a run's head cut shorter -/
theorem ax_seg_cut {n m : Nat} {a : ax_V} {r : ax_A} {vs : List Value} (hm : m ≤ n) (h : ax_seg xs ((n, a) :: r) vs) : ax_seg xs ((n - m, a) :: r) (vs.drop m) := by
  obtain ⟨h1, h2, h3⟩ := h
  refine ⟨by rw [List.length_drop]; omega, fun v hv => h2 v ?_, by rw [List.drop_drop, show m + (n - m) = n by omega]; exact h3⟩
  rw [List.take_drop, show m + (n - m) = n by omega] at hv
  exact List.mem_of_mem_drop hv
theorem ax_leA_ok {env : ax_N} (he : ax_env xs env) : ∀ (f : Nat) (r r' : ax_A) (vs : List Value), ax_leA env f r r' = true → ax_seg xs r vs → ax_seg xs r' vs
  | 0, r, r', vs, h, hs => by cases h
  | f + 1, [], [], vs, h, hs => hs
  | f + 1, [], _ :: _, vs, h, hs => by cases h
  | f + 1, _ :: _, [], vs, h, hs => by cases h
  | f + 1, (n, a) :: r, (m, c) :: r', vs, h, hs => by
    unfold ax_leA at h
    rw [Bool.and_eq_true] at h
    obtain ⟨hv, h⟩ := h
    obtain ⟨h1, h2, h3⟩ := hs
    by_cases hnm : n = m
    · subst hnm
      rw [if_pos rfl] at h
      exact ⟨h1, fun v hm => ax_leV_ok he hv (h2 v hm), ax_leA_ok he f r r' _ h h3⟩
    · rw [if_neg hnm] at h
      by_cases hlt : n < m
      · rw [if_pos hlt] at h
        obtain ⟨g1, g2, g3⟩ := ax_leA_ok he f r ((m - n, c) :: r') _ h h3
        rw [List.length_drop] at g1
        refine ⟨by omega, fun v hm => ?_, ?_⟩
        · rw [show m = n + (m - n) by omega, List.take_add] at hm
          rcases List.mem_append.mp hm with hh | hh
          · exact ax_leV_ok he hv (h2 v hh)
          · exact g2 v hh
        · rw [List.drop_drop, show n + (m - n) = m by omega] at g3
          exact g3
      · rw [if_neg hlt] at h
        have hc := ax_leA_ok he f ((n - m, a) :: r) r' _ h (ax_seg_cut (by omega) ⟨h1, h2, h3⟩)
        refine ⟨by omega, fun v hm => ax_leV_ok he hv (h2 v ?_), hc⟩
        exact (List.take_sublist_take_left (by omega)).subset hm
theorem ax_leW_ok {env : ax_N} (he : ax_env xs env) : ∀ (aw aw' : ax_W) (w : sx_W), ax_leW env aw aw' = true → ax_gw xs aw w → ax_gw xs aw' w
  | [], [], w, h, hs => hs
  | [], _ :: _, w, h, hs => by cases h
  | _ :: _, [], w, h, hs => by cases h
  | (t, r) :: aw, (t', r') :: aw', [], h, hs => hs.elim
  | (t, r) :: aw, (t', r') :: aw', x :: w, h, hs => by
    simp only [ax_leW, Bool.and_eq_true, Bool.or_eq_true, decide_eq_true_eq] at h
    obtain ⟨⟨h1, h2⟩, h3⟩ := h
    refine ⟨by rw [← h1]; exact hs.1, ?_, ax_leW_ok he aw aw' w h3 hs.2.2⟩
    rcases h2 with h2 | h2
    · rw [← h2]; exact hs.2.1
    · exact ax_leA_ok he 60 r r' _ h2 hs.2.1
theorem ax_leL_ok {env : ax_N} (he : ax_env xs env) : ∀ (al al' : List ax_V) (st : List Value), ax_leL env al al' = true → ax_gs xs al st → ax_gs xs al' st
  | [], [], st, h, hs => hs
  | [], _ :: _, st, h, hs => by cases h
  | _ :: _, [], st, h, hs => by cases h
  | a :: al, a' :: al', [], h, hs => hs.elim
  | a :: al, a' :: al', v :: st, h, hs => by
    simp only [ax_leL, Bool.and_eq_true] at h
    exact ⟨ax_leV_ok he h.1 hs.1, ax_leL_ok he al al' st h.2 hs.2⟩
theorem ax_jA_ok {env : ax_N} (he : ax_env xs env) : ∀ (f : Nat) (r r' q : ax_A) (vs : List Value), ax_jA env f r r' = some q → (ax_seg xs r vs → ax_seg xs q vs) ∧ (ax_seg xs r' vs → ax_seg xs q vs)
  | 0, r, r', q, vs, h => by cases h
  | f + 1, [], [], q, vs, h => by cases h; exact ⟨id, id⟩
  | f + 1, [], _ :: _, q, vs, h => by cases h
  | f + 1, _ :: _, [], q, vs, h => by cases h
  | f + 1, (n, a) :: r, (m, c) :: r', q, vs, h => by
    unfold ax_jA at h
    split at h
    · rename_i d hd
      split at h
      · rename_i q' hq'
        cases h
        have hj := ax_join_ok he hd
        by_cases hnm : n = m
        · subst hnm
          rw [if_pos rfl] at hq'
          have ih := ax_jA_ok he f r r' q' (vs.drop n) hq'
          rw [Nat.min_self]
          exact ⟨fun ⟨h1, h2, h3⟩ => ax_seg_con h1 (fun v hv => (hj v).1 (h2 v hv)) (ih.1 h3), fun ⟨h1, h2, h3⟩ => ax_seg_con h1 (fun v hv => (hj v).2 (h2 v hv)) (ih.2 h3)⟩
        · rw [if_neg hnm] at hq'
          by_cases hlt : n < m
          · rw [if_pos hlt] at hq'
            have ih := ax_jA_ok he f r ((m - n, c) :: r') q' (vs.drop n) hq'
            rw [Nat.min_eq_left (by omega)]
            refine ⟨fun ⟨h1, h2, h3⟩ => ax_seg_con h1 (fun v hv => (hj v).1 (h2 v hv)) (ih.1 h3), fun hh => ?_⟩
            have hh' := hh
            obtain ⟨h1, h2, h3⟩ := hh
            exact ax_seg_con (by omega) (fun v hv => (hj v).2 (h2 v ((List.take_sublist_take_left (by omega)).subset hv))) (ih.2 (ax_seg_cut (by omega) hh'))
          · rw [if_neg hlt] at hq'
            have ih := ax_jA_ok he f ((n - m, a) :: r) r' q' (vs.drop m) hq'
            rw [Nat.min_eq_right (by omega)]
            refine ⟨fun hh => ?_, fun ⟨h1, h2, h3⟩ => ax_seg_con h1 (fun v hv => (hj v).2 (h2 v hv)) (ih.2 h3)⟩
            have hh' := hh
            obtain ⟨h1, h2, h3⟩ := hh
            exact ax_seg_con (by omega) (fun v hv => (hj v).1 (h2 v ((List.take_sublist_take_left (by omega)).subset hv))) (ih.1 (ax_seg_cut (by omega) hh'))
      · cases h
    · cases h
theorem ax_jW_ok {env : ax_N} (he : ax_env xs env) : ∀ (aw aw' q : ax_W) (w : sx_W), ax_jW env aw aw' = some q → (ax_gw xs aw w → ax_gw xs q w) ∧ (ax_gw xs aw' w → ax_gw xs q w)
  | [], [], q, w, h => by cases h; exact ⟨id, id⟩
  | [], _ :: _, q, w, h => by cases h
  | _ :: _, [], q, w, h => by cases h
  | (t, r) :: aw, (t', r') :: aw', q, w, h => by
    unfold ax_jW at h
    by_cases ht : t = t'
    · rw [if_pos ht] at h
      subst ht
      split at h
      · rename_i q1 z hq1 hz
        cases h
        have hr : ∀ vs, (ax_seg xs r vs → ax_seg xs q1 vs) ∧ (ax_seg xs r' vs → ax_seg xs q1 vs) := by
          intro vs
          by_cases hrr : r = r'
          · rw [if_pos hrr] at hq1
            cases hq1
            subst hrr
            exact ⟨id, id⟩
          · rw [if_neg hrr] at hq1
            exact ax_jA_ok he 60 r r' q1 vs hq1
        cases w with
        | nil => exact ⟨fun h => h.elim, fun h => h.elim⟩
        | cons x w =>
          have ih := ax_jW_ok he aw aw' z w hz
          exact ⟨fun ⟨h1, h2, h3⟩ => ⟨h1, (hr _).1 h2, ih.1 h3⟩, fun ⟨h1, h2, h3⟩ => ⟨h1, (hr _).2 h2, ih.2 h3⟩⟩
      · cases h
    · rw [if_neg ht] at h; cases h
theorem ax_jN_at : ∀ (n1 n2 : ax_N) (i : Nat) (q : Int × Int), (ax_jN n1 n2)[i]? = some q → ∃ p1 p2, n1[i]? = some p1 ∧ n2[i]? = some p2 ∧ q = (min p1.1 p2.1, max p1.2 p2.2)
  | [], n2, i, q, h => by simp [ax_jN] at h
  | p :: n1, [], i, q, h => by simp [ax_jN] at h
  | p :: n1, p' :: n2, 0, q, h => by cases h; exact ⟨p, p', rfl, rfl, rfl⟩
  | p :: n1, p' :: n2, i + 1, q, h => ax_jN_at n1 n2 i q h
theorem ax_jN_ok {n1 n2 : ax_N} (h : ax_env xs n1 ∨ ax_env xs n2) : ax_env xs (ax_jN n1 n2) := by
  intro i q hq
  obtain ⟨p1, p2, e1, e2, rfl⟩ := ax_jN_at n1 n2 i q hq
  dsimp only
  rcases h with h | h
  · have := h i p1 e1; omega
  · have := h i p2 e2; omega
/-- what a way back says -/
def ax_gO (xs : List Int32) (o : ax_O) (r : Option Value) (w : sx_W) : Prop := ax_env xs o.1 ∧ ax_go xs o.2.1 r ∧ ax_gw xs o.2.2 w
theorem ax_jO_ok {o1 o2 q : ax_O} {r : Option Value} {w : sx_W} (h : ax_jO o1 o2 = some q) (hg : ax_gO xs o1 r w ∨ ax_gO xs o2 r w) : ax_gO xs q r w := by
  have he : ax_env xs (ax_jN o1.1 o2.1) := ax_jN_ok (hg.imp (fun h => h.1) (fun h => h.1))
  unfold ax_jO at h
  split at h
  · rename_i e1 e2
    split at h
    · rename_i z hz
      cases h
      refine ⟨he, ?_, ?_⟩
      · rcases hg with h | h
        · have := h.2.1; rw [e1] at this; exact this
        · have := h.2.1; rw [e2] at this; exact this
      · rcases hg with h | h
        · exact (ax_jW_ok he _ _ _ w hz).1 h.2.2
        · exact (ax_jW_ok he _ _ _ w hz).2 h.2.2
    · cases h
  · rename_i x y e1 e2
    split at h
    · rename_i z w' hz hw'
      cases h
      refine ⟨he, ?_, ?_⟩
      · rcases hg with h | h
        · have h1 := h.2.1
          rw [e1] at h1
          cases r with
          | none => exact h1.elim
          | some v => exact (ax_join_ok he hz v).1 h1
        · have h1 := h.2.1
          rw [e2] at h1
          cases r with
          | none => exact h1.elim
          | some v => exact (ax_join_ok he hz v).2 h1
      · rcases hg with h | h
        · exact (ax_jW_ok he _ _ _ w hw').1 h.2.2
        · exact (ax_jW_ok he _ _ _ w hw').2 h.2.2
    · cases h
  · cases h
theorem ax_mrg_ok {r : Option Value} {w : sx_W} : ∀ (os : List ax_O) (q : ax_O), ax_mrg os = some q → ∀ o ∈ os, ax_gO xs o r w → ax_gO xs q r w
  | [], q, h, o, ho, hg => by cases ho
  | [o1], q, h, o, ho, hg => by
    cases h
    rw [List.mem_singleton] at ho
    rw [← ho]; exact hg
  | o1 :: o2 :: os, q, h, o, ho, hg => by
    unfold ax_mrg at h
    split at h
    · rename_i z hz
      rcases List.mem_cons.mp ho with rfl | ho
      · exact ax_jO_ok h (Or.inl hg)
      · exact ax_jO_ok h (Or.inr (ax_mrg_ok (o2 :: os) z hz o ho hg))
    · cases h
theorem ax_all_mem {α : Type} {f : α → Option (List ax_O)} : ∀ {as : List α} {r : List ax_O}, ax_all f as = some r → ∀ a ∈ as, ∃ x, f a = some x ∧ ∀ y ∈ x, y ∈ r
  | [], r, h, a, ha => by cases ha
  | a0 :: as, r, h, a, ha => by
    unfold ax_all at h
    split at h
    · rename_i x y hx hy
      cases h
      rcases List.mem_cons.mp ha with rfl | ha
      · exact ⟨x, hx, fun z hz => List.mem_append_left _ hz⟩
      · obtain ⟨x', h1, h2⟩ := ax_all_mem hy a ha
        exact ⟨x', h1, fun z hz => List.mem_append_right _ (h2 z hz)⟩
    · cases h
theorem ax_con1_ok {env : ax_N} {mi : Nat} {av : List ax_V} {w : ax_W} : ∀ {ks : List ax_K} {k : ax_K}, ax_con1 env mi av w ks = some k → k ∈ ks ∧ k.1 = mi ∧ ax_leL env av k.2.1 = true ∧ ax_leW env w k.2.2.1 = true
  | [], k, h => by cases h
  | k0 :: ks, k, h => by
    unfold ax_con1 at h
    by_cases hc : k0.1 = mi ∧ ax_leL env av k0.2.1 = true ∧ ax_leW env w k0.2.2.1 = true
    · rw [if_pos hc] at h
      cases h
      exact ⟨List.mem_cons_self, hc⟩
    · rw [if_neg hc] at h
      obtain ⟨h1, h2⟩ := ax_con1_ok h
      exact ⟨List.mem_cons_of_mem _ h1, h2⟩
theorem ax_ret_ok {env : ax_N} {ret : Option FieldType} {I : Instr} {ast : List ax_V} {st : List Value} {a : Option ax_V} (he : ax_env xs env) (h : ax_ret env ret I ast = some a) (hs : ax_gs xs ast st) : ∃ r, sx_retOk ret I st = some r ∧ ax_go xs a r := by
  cases I
  case return_ =>
    dsimp only [ax_ret] at h
    split at h
    · cases h
      rw [show st = [] from hs]
      exact ⟨none, rfl, trivial⟩
    · cases h
  case ireturn =>
    dsimp only [ax_ret] at h
    split at h
    · rename_i ty x
      obtain ⟨v, r', rfl, hx, hr⟩ := ax_gs1 hs
      rw [show r' = [] from hr]
      by_cases hc : (ty = .int ∧ (ax_iv env x).isSome = true) ∨ (ty = .boolean ∧ ax_fit env .boolean x = true)
      · rw [if_pos hc] at h
        cases h
        have hn : ∃ y : Int32, v = .int y ∧ narrow ty (.int y) = .int y := by
          rcases hc with ⟨rfl, h⟩ | ⟨rfl, h⟩
          · obtain ⟨y, rfl⟩ := ax_isI he hx h
            exact ⟨y, rfl, rfl⟩
          · have hf := ax_fit_ok he hx h
            unfold sx_fit at hf
            rw [Bool.and_eq_true, decide_eq_true_eq] at hf
            have hI : (ax_iv env x).isSome = true := by
              unfold ax_fit at h
              dsimp only at h
              split at h
              · rename_i p hp; rw [hp]; rfl
              · cases h
            obtain ⟨y, rfl⟩ := ax_isI he hx hI
            exact ⟨y, rfl, hf.1⟩
        obtain ⟨y, rfl, hn⟩ := hn
        refine ⟨some (.int y), ?_, hx⟩
        unfold sx_retOk
        dsimp only
        rw [if_pos hn]
      · rw [if_neg hc] at h; cases h
    · cases h
  case lreturn =>
    dsimp only [ax_ret] at h
    split at h
    · rename_i ty x
      obtain ⟨v, r', rfl, hx, hr⟩ := ax_gs1 hs
      rw [show r' = [] from hr]
      by_cases hc : ty = .long ∧ x.1 = 1
      · rw [if_pos hc] at h
        cases h
        obtain ⟨y, rfl, -⟩ := ax_g1 hx hc.2
        rw [hc.1]
        exact ⟨some (.long y), rfl, hx⟩
      · rw [if_neg hc] at h; cases h
    · cases h
  all_goals (cases h)
theorem ax_recv_ok {M : sx_M} {aw : ax_W} {w : sx_W} {al : List ax_V} {av : List Value} (hw : ax_gw xs aw w) (hs : ax_gs xs al av) (h : ax_recv P M aw al = true) : sx_recv P M w av = true := by
  unfold ax_recv at h
  unfold sx_recv
  rw [Bool.or_eq_true] at h ⊢
  rcases h with h | h
  · exact Or.inl h
  · right
    split at h
    · rename_i x r
      obtain ⟨v, r', rfl, hx, hr⟩ := ax_gs1 hs
      rw [Bool.and_eq_true, decide_eq_true_eq] at h
      have hv := (ax_tag hx).2.2.2.1 h.1
      subst hv
      dsimp only
      have h2 := h.2
      rw [Bool.or_eq_true] at h2 ⊢
      rcases h2 with h2 | h2
      · exact Or.inl h2
      · right
        split at h2
        · rename_i ci cr hci
          obtain ⟨⟨c0, vs⟩, e1, e2, e3⟩ := ax_gw_at hw hci
          dsimp only at e2
          rw [e1]
          dsimp only
          rw [e2]
          exact h2
        · cases h2
    · cases h
end AXR
end
section
/-! the reader's run holds the machine's run -/
section AXV
variable {P : sx_P} {T : ax_T} {l : Launch} {D : va_G} {cA : Nat → ClassId} {N0 b : Nat} {xs : List Int32}
/-- the contracts that are given hold -/
def ax_Tok (P : sx_P) (T : ax_T) (l : Launch) (D : va_G) (cA : Nat → ClassId) (N0 b : Nat) (xs : List Int32) : Prop := ∀ k ∈ T.1, ∀ M : sx_M, P.2.2.2.1[k.1]? = some M → ∀ (av : List Value) (w : sx_W), ax_gs xs k.2.1 av → ax_gw xs k.2.2.1 w →
  sx_C P l D cA N0 b xs M k.2.2.2.2.1 k.2.2.2.2.2.1 k.2.2.2.2.2.2 av w (fun r w' => ∃ o ∈ k.2.2.2.1, ax_go xs o.1 r ∧ ax_gw xs o.2 w')
theorem ax_run_ok (hP : sx_Pok P) (hT : ax_Tok P T l D cA N0 b xs) : ∀ (n d : Nat) (M : sx_M) (mc ms : Nat) (S : ax_S) (outs : List ax_O), sx_Mok P M → ax_run P T n d M mc ms S = some outs → ∀ (F : Option Value → sx_W → Prop), (∀ o ∈ outs, ∀ r w, ax_gO xs o r w → F r w) →
    ∀ (p : Program) (e : Env) (R : Room) (s : State) (m : MethodId) (args : Array Value) (below : List Frame) (meth : Method) (c : Code) (Q : State → Prop), sx_Fx P D cA N0 b M.2.2.1 xs M.1.cls M.2.1 p R s m args c → (sx_isIni M = true → meth.name = "<init>") → d + 1 ≤ R.frames → 64 * (d + 1) ≤ R.locals → mc ≤ R.cells → ms ≤ R.slots →
    (∀ E ∈ M.2.2.2.2.2.2.2, ∀ (cells slots : Nat) (w : sx_W) (lv : sx_L) (st : List Value) (r : Option Value), sx_dec M.2.1 E = true → cells ≤ mc → slots ≤ ms → sx_retOk M.2.2.2.1 E.2.1 st = some r → F r w → sx_G p l e R s m args below meth c Q P D cA N0 b M.2.2.1 cells slots w E.1 lv st) →
    ∀ (lv : sx_L) (st : List Value) (w : sx_W), ax_ok xs S lv st w → S.2.2.2.2.2.1 ≤ mc → S.2.2.2.2.2.2 ≤ ms → sx_G p l e R s m args below meth c Q P D cA N0 b M.2.2.1 S.2.2.2.2.2.1 S.2.2.2.2.2.2 w S.2.1 lv st := by
  intro n
  induction n with
  | zero => intro d M mc ms S outs hM h; cases h
  | succ n ih =>
    intro d M mc ms S outs hM h F hF p e R s m args below meth c Q hFx hini hfr hlo hce hsl hend lv st w hok hcS hsS
    obtain ⟨env, pc, al, ast, aw, cc, cs⟩ := S
    obtain ⟨he, hl, hs, hw⟩ := hok
    dsimp only at he hl hs hw hcS hsS ⊢
    unfold ax_run at h
    dsimp only at h
    split at h
    · cases h
    · rename_i E hE
      rw [sx_fnd_eq] at hE
      have hEm := List.mem_of_find?_eq_some hE
      have hEp : E.1 = pc := by simpa using List.find?_some hE
      obtain ⟨hdec, hrow⟩ := hM E hEm
      split at h
      · rename_i r hr
        cases h
        obtain ⟨r', h1, h2⟩ := ax_ret_ok he hr hs
        rw [← hEp]
        exact hend E hEm cc cs w lv st r' hdec hcS hsS h1 (hF _ (List.mem_singleton.mpr rfl) r' w ⟨he, h2, hw⟩)
      · unfold sx_rowOk at hrow
        by_cases hcall : sx_isCall E = true
        · rw [if_pos hcall] at h hrow
          split at h
          · cases h
          · rename_i M' hM'
            rw [hM'] at hrow
            dsimp only at hrow
            have hM'm := List.mem_of_getElem? hM'
            obtain ⟨hm', -⟩ := hP.2.2 M' hM'm
            split at h
            · rename_i hc0
              obtain ⟨k1, k2, k3, k4⟩ := hc0
              generalize hna : M'.2.2.2.2.1 = na at h k1 k2 k3 k4
              have hlen := ax_gs_len hs
              have hav : ax_gs xs (ast.take na).reverse (st.take na).reverse := ax_gs_rev (ax_gs_take na hs)
              have hrest := ax_gs_drop na hs
              have hst : st = (st.take na).reverse.reverse ++ st.drop na := by rw [List.reverse_reverse, List.take_append_drop]
              have havl : (st.take na).reverse.length = M'.2.2.2.2.1 := by rw [List.length_reverse, List.length_take, hna]; omega
              have hrc := ax_recv_ok (P := P) hw hav k4
              have hcsum : sx_csum (st.drop na) ≤ 8 := by rw [ax_gs_csum hrest]; exact k2
              have hdE : decode M.2.1 E.1 = .ok (E.2.1, E.2.2.1) := by
                unfold sx_dec at hdec
                rw [Bool.and_eq_true, decide_eq_true_eq] at hdec
                exact hdec.1
              have call : ∀ (d0 mc0 ms0 : Nat) (F0 : Option Value → sx_W → Prop), d0 + 1 ≤ d → cc + mc0 ≤ mc → cs + ms0 ≤ ms → sx_C P l D cA N0 b xs M' d0 mc0 ms0 (st.take na).reverse w F0 →
                  (∀ (r : Option Value) (w' : sx_W), F0 r w' → sx_G p l e R s m args below meth c Q P D cA N0 b M.2.2.1 (cc + mc0) (cs + ms0) w' (pc + 3) lv (r.toList ++ st.drop na)) → sx_G p l e R s m args below meth c Q P D cA N0 b M.2.2.1 cc cs w pc lv st := by
                intro d0 mc0 ms0 F0 q1 q2 q3 hC kk
                have hg := sx_call_G (Q := Q) (lv := lv) (cells := cc) (slots := cs) (e := e) (below := below) (meth := meth) hFx hP.2.1 hdE hm' hrow havl hrc hcsum hC (by omega) (by omega) (by omega) (by omega) (by rw [hEp]; exact kk)
                rw [← hst, hEp] at hg
                exact hg
              split at h
              · rename_i k hk
                obtain ⟨g1, g2, g3, g4⟩ := ax_con1_ok hk
                split at h
                · rename_i hb
                  obtain ⟨b1, b2, b3⟩ := hb
                  refine call k.2.2.2.2.1 k.2.2.2.2.2.1 k.2.2.2.2.2.2 _ b1 b2 b3 (hT k g1 M' (by rw [g2]; exact hM') _ w (ax_leL_ok he _ _ _ g3 hav) (ax_leW_ok he _ _ _ g4 hw)) (fun r w' ⟨o, ho, hgo, hgw⟩ => ?_)
                  obtain ⟨x, hx, hxm⟩ := ax_all_mem h o ho
                  exact ih d M mc ms _ x hM hx F (fun o' ho' => hF o' (hxm o' ho')) p e R s m args below meth c Q hFx hini hfr hlo hce hsl hend lv _ w' ⟨he, hl, ax_gs_app (ax_go_list hgo) hrest, hgw⟩ b2 b3
                · cases h
              · split at h
                · cases h
                · rename_i d'
                  split at h
                  · rename_i hb
                    obtain ⟨b2, b3⟩ := hb
                    generalize hmc : (ax_bud E.2.2.2.1 T.2.1).1 = mc' at h b2
                    generalize hms : (ax_bud E.2.2.2.1 T.2.1).2 = ms' at h b3
                    split at h
                    · cases h
                    · rename_i os hos
                      split at h
                      · cases h
                      · rename_i os' hos'
                        refine call d' mc' ms' (fun r w' => ∃ o ∈ os', ax_gO xs o r w') (Nat.le_refl _) b2 b3 ?_ (fun r w' ⟨o, ho, hgo⟩ => ?_)
                        · refine sx_met hm' (by rw [ax_gs_csum hav]; unfold ax_csum at k3 ⊢; rw [List.map_reverse, List.sum_reverse]; exact k3) (fun p2 e2 s2 m2 args2 below2 meth2 c2 hFx2 hini2 hret2 hlk2 => ?_)
                          refine ih d' M' mc' ms' _ os (hP.row hM'm) hos (fun r w' => ∃ o ∈ os', ax_gO xs o r w') (fun o ho r w' hg => ?_) p2 e2 (sx_rm d' mc' ms') s2 m2 args2 below2 meth2 c2 _ hFx2 hini2 (Nat.le_refl _) (Nat.le_refl _) (Nat.le_refl _) (Nat.le_refl _) (fun E2 hE2 cells slots w2 lv2 st2 r2 hd2 hc2 hs2 hr2 hF2 => sx_ret_G hFx2 hP.2.1 hret2 hlk2 hd2 hc2 hs2 hr2 hF2) _ [] w ⟨he, fun q hq => (ax_args_ok 0 hav q hq).2, rfl, hw⟩ (Nat.zero_le _) (Nat.zero_le _)
                          by_cases hmg : T.2.2.contains E.2.2.2.1 = true
                          · rw [if_pos hmg] at hos'
                            cases hq : ax_mrg os with
                            | none => rw [hq] at hos'; cases hos'
                            | some q =>
                              rw [hq] at hos'
                              cases hos'
                              exact ⟨q, List.mem_singleton.mpr rfl, ax_mrg_ok os q hq o ho hg⟩
                          · rw [if_neg hmg] at hos'
                            cases hos'
                            exact ⟨o, ho, hg⟩
                        · obtain ⟨x, hx, hxm⟩ := ax_all_mem h o ho
                          exact ih (d' + 1) M mc ms _ x hM hx F (fun o' ho' => hF o' (hxm o' ho')) p e R s m args below meth c Q hFx hini hfr hlo hce hsl hend lv _ w' ⟨hgo.1, hl, ax_gs_app (ax_go_list hgo.2.1) hrest, hgo.2.2⟩ b2 b3
                  · cases h
            · cases h
        · rw [if_neg hcall] at h hrow
          split at h
          · cases h
          · rename_i Ss hSs
            rw [← hEp] at hSs
            obtain ⟨r, hstep, S', hS', g1, g2, g3, g4⟩ := ax_step_ok hSs he hl hs hw
            obtain ⟨x, hx, hxm⟩ := ax_all_mem h S' hS'
            split at hx
            · rename_i hb
              have hg := ih d M mc ms S' x hM hx F (fun o' ho' => hF o' (hxm o' ho')) p e R s m args below meth c Q hFx hini hfr hlo hce hsl hend r.2.1 r.2.2.1 r.2.2.2.1 g2 hb.1 hb.2
              rw [g1, g3, g4] at hg
              rw [← hEp]
              exact sx_step_G hFx hP.1 hini hdec hrow hstep (by omega) (by omega) hg
            · cases hx
/-- a contract out of the reader's run -/
theorem ax_contract (hP : sx_Pok P) (hT : ax_Tok P T l D cA N0 b xs) {n d mi mc ms : Nat} {M : sx_M} {al : List ax_V} {aw : ax_W} {outs : List ax_O} (hM : P.2.2.2.1[mi]? = some M) (hfit : ax_csum al ≤ M.2.2.1) (h : ax_run P T n d M mc ms ([], 0, ax_args 0 al, [], aw, 0, 0) = some outs) :
    ∀ (av : List Value) (w : sx_W), ax_gs xs al av → ax_gw xs aw w → sx_C P l D cA N0 b xs M d mc ms av w (fun r w' => ∃ o ∈ outs.map (fun o => (o.2.1, o.2.2)), ax_go xs o.1 r ∧ ax_gw xs o.2 w') := by
  intro av w hav hw
  have hm := List.mem_of_getElem? hM
  have hm' := (hP.2.2 M hm).1
  refine sx_met hm' (by rw [ax_gs_csum hav]; exact hfit) (fun p2 e2 s2 m2 args2 below2 meth2 c2 hFx2 hini2 hret2 hlk2 => ?_)
  exact ax_run_ok hP hT n d M mc ms _ outs (hP.row hm) h _ (fun o ho r w' hg => ⟨_, List.mem_map.mpr ⟨o, ho, rfl⟩, hg.2⟩) p2 e2 (sx_rm d mc ms) s2 m2 args2 below2 meth2 c2 _ hFx2 hini2 (Nat.le_refl _) (Nat.le_refl _) (Nat.le_refl _) (Nat.le_refl _) (fun E2 hE2 cells slots w2 lv2 st2 r2 hd2 hc2 hs2 hr2 hF2 => sx_ret_G hFx2 hP.2.1 hret2 hlk2 hd2 hc2 hs2 hr2 hF2) _ [] w ⟨fun i q hq => by simp at hq, fun q hq => (ax_args_ok 0 hav q hq).2, rfl, hw⟩ (Nat.zero_le _) (Nat.zero_le _)
end AXV
end
section
/-! contracts, one behind another -/
def ax_eqW : ax_W → ax_W → Bool
  | [], [] => true
  | (t, r) :: w, (t', r') :: w' => decide (t = t') && decide (r = r') && ax_eqW w w'
  | _, _ => false
theorem ax_eqW_ok : ∀ (a b : ax_W), ax_eqW a b = true → a = b
  | [], [], _ => rfl
  | [], _ :: _, h => by cases h
  | _ :: _, [], h => by cases h
  | (t, r) :: w, (t', r') :: w', h => by
    simp only [ax_eqW, Bool.and_eq_true, decide_eq_true_eq] at h
    rw [h.1.1, h.1.2, ax_eqW_ok w w' h.2]
def ax_eqs (o : Option (List ax_O)) (k : List (Option ax_V × ax_W)) : Bool := match o with
  | none => false
  | some os => os.all (fun o => k.any (fun q => decide (o.2.1 = q.1) && ax_eqW o.2.2 q.2))
section AXK
variable {P : sx_P} {T : ax_T} {l : Launch} {D : va_G} {cA : Nat → ClassId} {N0 b : Nat} {xs : List Int32}
theorem ax_Tok_nil {t : List (Nat × Nat × Nat) × List Nat} : ax_Tok P ([], t) l D cA N0 b xs := fun k hk => by cases hk
theorem ax_Tok_add (hP : sx_Pok P) {ks : List ax_K} {t : List (Nat × Nat × Nat) × List Nat} (hT : ax_Tok P (ks, t) l D cA N0 b xs) {k : ax_K} {n : Nat} {M : sx_M} (hM : P.2.2.2.1[k.1]? = some M) (hfit : ax_csum k.2.1 ≤ M.2.2.1)
    (h : ax_eqs (ax_run P (ks, t) n k.2.2.2.2.1 M k.2.2.2.2.2.1 k.2.2.2.2.2.2 ([], 0, ax_args 0 k.2.1, [], k.2.2.1, 0, 0)) k.2.2.2.1 = true) : ax_Tok P (ks ++ [k], t) l D cA N0 b xs := by
  intro q hq M' hM' av w hav hw
  rcases List.mem_append.mp hq with hq | hq
  · exact hT q hq M' hM' av w hav hw
  · rw [List.mem_singleton] at hq
    subst hq
    cases hM.symm.trans hM'
    unfold ax_eqs at h
    split at h
    · cases h
    · rename_i os hos
      have hm := List.mem_of_getElem? hM
      have hm' := (hP.2.2 M hm).1
      refine sx_met hm' (by rw [ax_gs_csum hav]; exact hfit) (fun p2 e2 s2 m2 args2 below2 meth2 c2 hFx2 hini2 hret2 hlk2 => ?_)
      refine ax_run_ok hP hT n _ M _ _ _ os (hP.row hm) hos _ (fun o ho r w' hg => ?_) p2 e2 _ s2 m2 args2 below2 meth2 c2 _ hFx2 hini2 (Nat.le_refl _) (Nat.le_refl _) (Nat.le_refl _) (Nat.le_refl _) (fun E2 hE2 cells slots w2 lv2 st2 r2 hd2 hc2 hs2 hr2 hF2 => sx_ret_G hFx2 hP.2.1 hret2 hlk2 hd2 hc2 hs2 hr2 hF2) _ [] w ⟨fun i q hq => by simp at hq, fun q hq => (ax_args_ok 0 hav q hq).2, rfl, hw⟩ (Nat.zero_le _) (Nat.zero_le _)
      obtain ⟨z, hz, hz2⟩ := List.any_eq_true.mp (List.all_eq_true.mp h o ho)
      rw [Bool.and_eq_true, decide_eq_true_eq] at hz2
      exact ⟨z, hz, by rw [← hz2.1]; exact hg.2.1, by rw [← ax_eqW_ok _ _ hz2.2]; exact hg.2.2⟩
/-- every way back answers true -/
def ax_true (o : Option (List ax_O)) : Bool := match o with
  | none => false
  | some os => os.all (fun o => decide (o.2.1 = some (0, 1, 1)))
/-- the road to a place, where it is one road -/
noncomputable def ax_to (P : sx_P) (T : ax_T) (tgt : Nat) : Nat → Nat → sx_M → Nat → Nat → ax_S → Option ax_S
  | 0, _, _, _, _, _ => none
  | n + 1, d, M, mc, ms, S => if S.2.1 = tgt then some S else match S with
    | (env, pc, l, st, w, c, s) => match sx_fnd pc M.2.2.2.2.2.2.2 with
      | none => none
      | some E => if sx_isCall E then (match P.2.2.2.1[E.2.2.2.1]? with
          | none => none
          | some M' => if M'.2.2.2.2.1 ≤ st.length ∧ ax_csum (st.drop M'.2.2.2.2.1) ≤ 8 ∧ ax_recv P M' w (st.take M'.2.2.2.2.1).reverse = true then
              (match ax_con1 env E.2.2.2.1 (st.take M'.2.2.2.2.1).reverse w T.1 with
              | some k => if k.2.2.2.2.1 + 1 ≤ d ∧ c + k.2.2.2.2.2.1 ≤ mc ∧ s + k.2.2.2.2.2.2 ≤ ms then (match k.2.2.2.1 with
                | [o] => ax_to P T tgt n d M mc ms (env, pc + 3, l, o.1.toList ++ st.drop M'.2.2.2.2.1, o.2, c + k.2.2.2.2.2.1, s + k.2.2.2.2.2.2)
                | _ => none) else none
              | none => none) else none)
          else (match ax_step P M.2.2.1 E S with
          | some [S'] => if S'.2.2.2.2.2.1 ≤ mc ∧ S'.2.2.2.2.2.2 ≤ ms then ax_to P T tgt n d M mc ms S' else none
          | _ => none)
theorem ax_to_ok (hP : sx_Pok P) (hT : ax_Tok P T l D cA N0 b xs) {tgt d mc ms : Nat} {M : sx_M} (hM : sx_Mok P M) {p : Program} {e : Env} {R : Room} {s : State} {m : MethodId} {args : Array Value} {below : List Frame} {meth : Method} {c : Code} {Q : State → Prop} (hFx : sx_Fx P D cA N0 b M.2.2.1 xs M.1.cls M.2.1 p R s m args c) (hini : sx_isIni M = true → meth.name = "<init>") (hfr : d + 1 ≤ R.frames) (hlo : 64 * (d + 1) ≤ R.locals) (hce : mc ≤ R.cells) (hsl : ms ≤ R.slots) {S1 : ax_S}
    (hend : ∀ (lv : sx_L) (st : List Value) (w : sx_W), ax_ok xs S1 lv st w → sx_G p l e R s m args below meth c Q P D cA N0 b M.2.2.1 S1.2.2.2.2.2.1 S1.2.2.2.2.2.2 w S1.2.1 lv st) :
    ∀ (n : Nat) (S : ax_S), ax_to P T tgt n d M mc ms S = some S1 → ∀ (lv : sx_L) (st : List Value) (w : sx_W), ax_ok xs S lv st w → sx_G p l e R s m args below meth c Q P D cA N0 b M.2.2.1 S.2.2.2.2.2.1 S.2.2.2.2.2.2 w S.2.1 lv st := by
  intro n
  induction n with
  | zero => intro S h; cases h
  | succ n ih =>
    intro S h lv st w hok
    unfold ax_to at h
    by_cases ht : S.2.1 = tgt
    · rw [if_pos ht] at h
      cases h
      exact hend lv st w hok
    · rw [if_neg ht] at h
      obtain ⟨env, pc, al, ast, aw, cc, cs⟩ := S
      obtain ⟨he, hl, hs, hw⟩ := hok
      dsimp only at he hl hs hw h ⊢
      split at h
      · cases h
      · rename_i E hE
        rw [sx_fnd_eq] at hE
        have hEm := List.mem_of_find?_eq_some hE
        have hEp : E.1 = pc := by simpa using List.find?_some hE
        obtain ⟨hdec, hrow⟩ := hM E hEm
        unfold sx_rowOk at hrow
        by_cases hcall : sx_isCall E = true
        · rw [if_pos hcall] at h hrow
          split at h
          · cases h
          · rename_i M' hM'
            rw [hM'] at hrow
            dsimp only at hrow
            have hM'm := List.mem_of_getElem? hM'
            obtain ⟨hm', -⟩ := hP.2.2 M' hM'm
            split at h
            · rename_i hc0
              obtain ⟨k1, k2, k4⟩ := hc0
              generalize hna : M'.2.2.2.2.1 = na at h k1 k2 k4
              have hlen := ax_gs_len hs
              have hav : ax_gs xs (ast.take na).reverse (st.take na).reverse := ax_gs_rev (ax_gs_take na hs)
              have hrest := ax_gs_drop na hs
              have hst : st = (st.take na).reverse.reverse ++ st.drop na := by rw [List.reverse_reverse, List.take_append_drop]
              have havl : (st.take na).reverse.length = M'.2.2.2.2.1 := by rw [List.length_reverse, List.length_take, hna]; omega
              have hrc := ax_recv_ok (P := P) hw hav k4
              have hcsum : sx_csum (st.drop na) ≤ 8 := by rw [ax_gs_csum hrest]; exact k2
              have hdE : decode M.2.1 E.1 = .ok (E.2.1, E.2.2.1) := by
                unfold sx_dec at hdec
                rw [Bool.and_eq_true, decide_eq_true_eq] at hdec
                exact hdec.1
              split at h
              · rename_i k hk
                obtain ⟨g1, g2, g3, g4⟩ := ax_con1_ok hk
                split at h
                · rename_i hb
                  obtain ⟨b1, b2, b3⟩ := hb
                  split at h
                  · rename_i o ho
                    have hC := hT k g1 M' (by rw [g2]; exact hM') _ w (ax_leL_ok he _ _ _ g3 hav) (ax_leW_ok he _ _ _ g4 hw)
                    have hg := sx_call_G (Q := Q) (lv := lv) (cells := cc) (slots := cs) (e := e) (below := below) (meth := meth) hFx hP.2.1 hdE hm' hrow havl hrc hcsum hC (by omega) (by omega) (by omega) (by omega) (fun r w' ⟨o', ho', hgo, hgw⟩ => by
                      rw [ho, List.mem_singleton] at ho'
                      subst ho'
                      rw [hEp]
                      exact ih _ h lv _ w' ⟨he, hl, ax_gs_app (ax_go_list hgo) hrest, hgw⟩)
                    rw [← hst, hEp] at hg
                    exact hg
                  · cases h
                · cases h
              · cases h
            · cases h
        · rw [if_neg hcall] at h hrow
          split at h
          · rename_i S' hSs
            rw [← hEp] at hSs
            obtain ⟨r, hstep, S2, hS2, g1, g2, g3, g4⟩ := ax_step_ok hSs he hl hs hw
            rw [List.mem_singleton] at hS2
            subst hS2
            split at h
            · rename_i hb
              have hg := ih S2 h r.2.1 r.2.2.1 r.2.2.2.1 g2
              rw [g1, g3, g4] at hg
              rw [← hEp]
              exact sx_step_G hFx hP.1 hini hdec hrow hstep (by omega) (by omega) hg
            · cases h
          · cases h
end AXK
end
