/-! frames, calls, ends -/
def sx_B (P : sx_P) (D : va_G) (cA : Nat → ClassId) (N0 b : Nat) (xs : List Int32) (w : sx_W) (U : State) : Prop := sx_H P D cA N0 b w U.heap ∧ sx_K P D cA U ∧ va_X b xs.length (fun j => xs.getD j 0) U U.heap ∧ b < N0
def sx_Q (P : sx_P) (D : va_G) (cA : Nat → ClassId) (N0 b : Nat) (xs : List Int32) (F : Option Value → sx_W → Prop) : Array Value → State → Outcome → State → Prop := fun _ st oc t => (∃ (r : Option Value) (w' : sx_W), oc = .returned (r.map (sx_sh N0 b)) ∧ F r w' ∧ sx_B P D cA N0 b xs w' t) ∧ va_F (fun q => N0 ≤ q) st t
def sx_rm (d mc ms : Nat) : Room := { frames := d + 1, cells := mc, slots := ms, locals := 64 * (d + 1) }
def sx_words (P : sx_P) (M : sx_M) : List Cond := Cond.code M.1 M.2.1 M.2.2.1 M.2.2.2.1 :: P.1.flatten.filter goodWord
/-- a method's CONTRACT at given arguments and a given world: it returns, F holds of its answer and the world behind it; at most mc cells of ms slots are new; frames nest d deep at most -/
def sx_C (P : sx_P) (l : Launch) (D : va_G) (cA : Nat → ClassId) (N0 b : Nat) (xs : List Int32) (M : sx_M) (d mc ms : Nat) (av : List Value) (w : sx_W) (F : Option Value → sx_W → Prop) : Prop :=
  Met l M.1 (sx_words P M) (sx_rm d mc ms) (va_Pc (sx_st N0 b av) (sx_B P D cA N0 b xs w)) (sx_Q P D cA N0 b xs F) mc ms (fun q => N0 ≤ q)
def sx_isNest (w : Cond) : Bool := match w with
  | .fieldLinkNest .. => true
  | .methodLinkNest .. => true
  | _ => false
def sx_isIni (M : sx_M) : Bool := decide (M.1.name = "<init>")
/-- a method of the program is as its words say -/
def sx_mOk (P : sx_P) (M : sx_M) : Bool := match M with
  | (y, cc, nL, ret, n, isS, (q1, q2, q3, q4), rows) => plainName y.cls && sx_wd P q1 (.code y cc nL ret) && sx_wd P q4 (.initialized y.cls) && decide (nL ≤ 45) && decide (y.cls ≠ "java/lang/invoke/MethodHandle") && decide (y.cls ≠ "java/lang/invoke/VarHandle") &&
    (if isS then sx_wd P q2 (.static y) && decide ((parseMethodDescriptor y.desc).map (fun d => d.parameters.length) = some n)
     else sx_wd P q2 (.instanceMethod y) && decide ((parseMethodDescriptor y.desc).map (fun d => d.parameters.length + 1) = some n) && (decide (y.name = "<init>") || sx_wd P q3 (.selects y.cls y y))) &&
    rows.all (fun E => sx_dec cc E)
theorem sx_B.moved {P : sx_P} {D : va_G} {cA : Nat → ClassId} {N0 b : Nat} {xs : List Int32} {w : sx_W} {U V : State} (h : sx_B P D cA N0 b xs w U) (hh : V.heap = U.heap) (ha : U.vm.Alike V.vm) (hn : ∀ w ∈ P.2.2.2.2, va_Nw w U → va_Nw w V) : sx_B P D cA N0 b xs w V :=
  ⟨by rw [hh]; exact h.1, ⟨va_K.moved ha h.2.1.1, fun w hw => hn w hw (h.2.1.2 w hw)⟩, by rw [hh]; exact va_X.moved ha h.2.2.1, h.2.2.2⟩
theorem sx_nest_warm {s U : State} (hW : s.WarmedH U.vm) {w : Cond} (hw : sx_isNest w = true) (h : va_Nw w s) : va_Nw w U := by
  cases w <;> first | (cases hw; done) | exact va_Nw.warmF hW h | exact va_Nw.warmM hW h
theorem sx_nest_same {s U : State} (hW : s.vm = U.vm) {w : Cond} (hw : sx_isNest w = true) (h : va_Nw w s) : va_Nw w U := by
  cases w <;> first | (cases hw; done) | exact va_Nw.same rfl hW h
theorem sx_blind {P : sx_P} {D : va_G} {cA : Nat → ClassId} {N0 b : Nat} {xs : List Int32} {w : sx_W} {av : List Value} (hn : ∀ w ∈ P.2.2.2.2, sx_isNest w = true) : FrameBlind (va_Pc av (sx_B P D cA N0 b xs w)) :=
  fun a U g mk h => ⟨h.1, h.2.moved (U := U) (V := U.calling g mk a) rfl (Vm.Alike.refl U.vm) (fun w hw k => sx_nest_same (s := U) (U := U.calling g mk a) rfl (hn w hw) k)⟩
section SXC
variable {p : Program} {l : Launch} {e : Env} {R : Room} {s : State} {m : MethodId} {args : Array Value} {below : List Frame} {meth : Method} {c : Code} {Q : State → Prop}
variable {P : sx_P} {D : va_G} {cA : Nat → ClassId} {N0 b nL : Nat} {xs : List Int32} {own : String} {cc : ByteArray}
theorem sx_start (hF : sx_Fx P D cA N0 b nL xs own cc p R s m args c) (hn : ∀ w ∈ P.2.2.2.2, sx_isNest w = true) {w : sx_W} {H : Heap} {locs : List Loc} (hH : sx_H P D cA N0 b w H) (hS : va_S (fun q => N0 ≤ q) s.heap H locs) : ∀ U : State, U.heap = H → s.WarmedH U.vm → sx_B P D cA N0 b xs w U := by
  intro U hU hW
  refine ⟨by rw [hU]; exact hH, ⟨va_K.moved hW.alike hF.2.2.2.2.2.1.1, fun w hw => sx_nest_warm hW (hn w hw) (hF.2.2.2.2.2.1.2 w hw)⟩, ?_, hF.2.2.2.2.2.2.2.2.1⟩
  have hX := va_X.moved hW.alike hF.2.2.2.2.2.2.2.1
  rw [hU]
  exact hX.kept (hS.2.1 b (Nat.lt_of_lt_of_le hF.2.2.2.2.2.2.2.2.1 hF.2.2.2.2.2.2.1) (Nat.not_le.mpr hF.2.2.2.2.2.2.2.2.1))
theorem sx_back {H : Heap} {locs : List Loc} {cells slots mc ms pc : Nat} {ls : Array Slot} {st0 rest : List Value} {F : Option Value → sx_W → Prop} {a : Array Value} (hr : va_Run p l e R s m args below meth c H locs cells slots mc ms (F0 m pc ls st0) rest (sx_Q P D cA N0 b xs F a) (fun q => N0 ≤ q)) (hS : va_S (fun q => N0 ≤ q) s.heap H locs)
    (kk : ∀ (r : Option Value) (w' : sx_W), F r w' → ∀ (H1 : Heap) (locs1 : List Loc), sx_H P D cA N0 b w' H1 → va_S (fun q => N0 ≤ q) s.heap H1 locs1 → W p l e R s m args below meth c H1 locs1 (cells + mc) (slots + ms) Q (F0 m (pc + 3) ls ((r.map (sx_sh N0 b)).toList ++ rest))) : W p l e R s m args below meth c H locs cells slots Q (F0 m pc ls st0) := by
  intro T hT X
  obtain ⟨v, st₀, t, T', L, h0, X', hL, e1, e2, ⟨⟨r, w', hv, hF, hB⟩, hz, hk⟩, st⟩ := hr T hT X
  cases hv
  rw [h0] at hz hk
  obtain ⟨t2, a1, b1⟩ := kk r w' hF T'.heap (locs ++ L) (by rw [e1]; exact hB.1)
    ⟨Nat.le_trans hS.1 (by rw [e1]; exact hz), fun q h1 h2 => by rw [e1, hk q (Nat.lt_of_lt_of_le h1 hS.1) h2]; exact hS.2.1 q h1 h2, fun q hq => by
      rcases List.mem_append.mp hq with h | h
      · exact hS.2.2 q h
      · exact hL q h⟩ T' rfl X'
  exact ⟨t2, st t2 a1, b1⟩
/-- how a call's entry names its method: kind 0 virtual, 1 special, 2 static; a nest mate's 10 more -/
def sx_link (P : sx_P) (own : String) (E : sx_E) (M : sx_M) : Bool := match E with
  | (_, I, len, _, k, q, z) => decide (len = 3) && match I with
    | .invokevirtual i => !M.2.2.2.2.2.1 && !sx_isIni M && (if k = 0 then sx_wd P q (.methodLink own i M.1) else match P.2.2.2.2[q]? with
      | some (.methodLinkNest o j y _) => decide (o = own) && decide (j = i) && decide (y = M.1)
      | _ => false)
    | .invokespecial i => sx_isIni M && !M.2.2.2.2.2.1 && (if k = 0 then sx_wd P q (.methodLink own i M.1) else match P.2.2.2.2[q]? with
      | some (.methodLinkNest o j y _) => decide (o = own) && decide (j = i) && decide (y = M.1)
      | _ => false) && decide (M.2.2.2.1 = none)
    | .invokestatic i => M.2.2.2.2.2.1 && (if k = 0 then sx_wd P q (.methodLink own i M.1) else match P.2.2.2.2[q]? with
      | some (.methodLinkNest o j y _) => decide (o = own) && decide (j = i) && decide (y = M.1)
      | _ => false)
    | _ => false
/-- a receiver is an object of the method's own kind -/
def sx_recv (P : sx_P) (M : sx_M) (w : sx_W) (av : List Value) : Bool := M.2.2.2.2.2.1 || match av with
  | .ref a :: _ => sx_isIni M || match w[a]? with
    | some (ci, _) => decide (ci < 100) && match P.2.1[ci]? with
      | some (C, _, _) => decide (C = M.1.cls)
      | none => false
    | none => false
  | _ => false
theorem sx_words_ok (hF : sx_Fx P D cA N0 b nL xs own cc p R s m args c) {M : sx_M} {q : Nat} (h : sx_wd P q (.code M.1 M.2.1 M.2.2.1 M.2.2.2.1) = true) : ∀ w ∈ sx_words P M, ∀ (a' : Array Value) (U : State), s.WarmedH U.vm → w.before a' U = true := by
  have hg : ∀ w ∈ sx_words P M, w ∈ P.1.flatten ∧ goodWord w = true := fun w hw => by
    rcases List.mem_cons.mp hw with rfl | hw
    · exact sx_wd_mem h
    · exact List.mem_filter.mp hw
  exact fun w hw a' U hW => word_at hW (good_of_word (hg w hw).2) (hF.2.2.2.2.1 w (hg w hw).1 (hg w hw).2)
theorem sx_st_len (st : List Value) : (sx_st N0 b st).length = st.length := List.length_map ..
theorem sx_call_G (hF : sx_Fx P D cA N0 b nL xs own cc p R s m args c) (hn : ∀ w ∈ P.2.2.2.2, sx_isNest w = true) {E : sx_E} {M : sx_M} (hd : decode cc E.1 = .ok (E.2.1, E.2.2.1)) (hm : sx_mOk P M = true) (hl : sx_link P own E M = true) {av rest : List Value} {lv : sx_L} {w : sx_W} {cells slots d mc ms : Nat} {F : Option Value → sx_W → Prop}
    (hav : av.length = M.2.2.2.2.1) (hrc : sx_recv P M w av = true) (hcs : sx_csum rest ≤ 8) (hC : sx_C P l D cA N0 b xs M d mc ms av w F) (hfr : d + 2 ≤ R.frames) (hlo : 64 * (d + 2) ≤ R.locals) (hce : cells + mc ≤ R.cells) (hsl : slots + ms ≤ R.slots)
    (kk : ∀ (r : Option Value) (w' : sx_W), F r w' → sx_G p l e R s m args below meth c Q P D cA N0 b nL (cells + mc) (slots + ms) w' (E.1 + 3) lv (r.toList ++ rest)) : sx_G p l e R s m args below meth c Q P D cA N0 b nL cells slots w E.1 lv (av.reverse ++ rest) := by
  obtain ⟨pc, I, len, a0, k, q, z⟩ := E
  obtain ⟨y, bytes, maxL, ret, n, isS, ⟨q1, q2, q3, q4⟩, rows⟩ := M
  dsimp only at hd hav kk ⊢
  intro H locs ls hH hS hls
  simp only [sx_mOk, Bool.and_eq_true, decide_eq_true_eq] at hm
  obtain ⟨⟨⟨⟨⟨⟨⟨hpl, m1⟩, m4⟩, hmax⟩, hy1⟩, hy2⟩, m2⟩, -⟩ := hm
  have hws := sx_words_ok (M := (y, bytes, maxL, ret, n, isS, (q1, q2, q3, q4), rows)) hF m1
  have hst := sx_start hF hn hH hS
  have back : ∀ st0 : List Value, va_Run p l e R s m args below meth c H locs cells slots mc ms (F0 m pc ls st0) (sx_st N0 b rest) (sx_Q P D cA N0 b xs F (sx_st N0 b av).toArray) (fun q => N0 ≤ q) → W p l e R s m args below meth c H locs cells slots Q (F0 m pc ls st0) := fun st0 hr => sx_back hr hS (fun r w' hFr H1 locs1 hH1 hS1 => by
    have k1 := kk r w' hFr H1 locs1 ls hH1 hS1 hls
    have e1 : sx_st N0 b (r.toList ++ rest) = (r.map (sx_sh N0 b)).toList ++ sx_st N0 b rest := by
      unfold sx_st
      rw [List.map_append]
      cases r <;> rfl
    rw [e1] at k1
    exact k1)
  have hbl := sx_blind (P := P) (D := D) (cA := cA) (N0 := N0) (b := b) (xs := xs) (w := w) (av := sx_st N0 b av) hn
  have hW8 : 2 * (F0 m pc ls ([] : List Value)).monitorRoom + ((sx_st N0 b rest).map fun v => v.category).sum ≤ 8 := by
    rw [sx_csum_sh]
    show 2 * 0 + _ ≤ 8
    omega
  have hrm1 : (sx_rm d mc ms).frames + 1 ≤ R.frames := hfr
  have hrm2 : 8 + (maxL + 11) + (sx_rm d mc ms).locals ≤ R.locals := by show 8 + (maxL + 11) + 64 * (d + 1) ≤ R.locals; omega
  have hfix : CallFix p m c cc nL s args (P.1.flatten.filter goodWord) own := ⟨hF.1, hF.2.1, hF.2.2.1, hF.2.2.2.1, fun w hw => hF.2.2.2.2.1 w (List.mem_filter.mp hw).1 (List.mem_filter.mp hw).2⟩
  have hcode : Cond.code y bytes maxL ret ∈ sx_words P (y, bytes, maxL, ret, n, isS, (q1, q2, q3, q4), rows) := List.mem_cons_self
  have hpar : ∀ (k : Nat), (parseMethodDescriptor y.desc).map (fun d => d.parameters.length) = some k → ∀ sig, parseMethodDescriptor y.desc = some sig → k = sig.parameters.length := fun k h sig hs => by
    rw [hs] at h
    exact (Option.some.inj h).symm
  simp only [sx_link] at hl
  rw [Bool.and_eq_true, decide_eq_true_eq] at hl
  obtain ⟨hlen3, hl⟩ := hl
  subst hlen3
  have nest : ∀ {i : Nat}, (match P.2.2.2.2[q]? with | some (.methodLinkNest o j y' _) => decide (o = own) && decide (j = i) && decide (y' = y) | _ => false) = true → ∃ host : String, va_Nw (.methodLinkNest own i y host) s := by
    intro i h
    split at h
    · rename_i o j y' host hq
      simp only [Bool.and_eq_true, decide_eq_true_eq] at h
      obtain ⟨⟨rfl, rfl⟩, rfl⟩ := h
      exact ⟨host, hF.2.2.2.2.2.1.2 _ (List.mem_of_getElem? hq)⟩
    · cases h
  cases I
  case invokevirtual i =>
    simp only [Bool.and_eq_true, Bool.not_eq_true'] at hl
    obtain ⟨⟨rfl, hni⟩, hlk⟩ := hl
    rw [if_neg (by decide), Bool.and_eq_true, Bool.and_eq_true, decide_eq_true_eq, Bool.or_eq_true, decide_eq_true_eq] at m2
    obtain ⟨⟨m2, hpd⟩, m3⟩ := m2
    have hni' : ¬ y.name = "<init>" := by simpa [sx_isIni] using hni
    have m3 := m3.resolve_left hni'
    have hpd' : (parseMethodDescriptor y.desc).map (fun d => d.parameters.length) = some (n - 1) := by
      cases hp : parseMethodDescriptor y.desc with
      | none => rw [hp] at hpd; cases hpd
      | some sig => rw [hp] at hpd; simp at hpd ⊢; omega
    unfold sx_recv at hrc
    rw [Bool.false_or] at hrc
    split at hrc
    · rename_i a1 As
      rw [hni, Bool.false_or] at hrc
      split at hrc
      · rename_i ci fs hw
        rw [Bool.and_eq_true, decide_eq_true_eq] at hrc
        obtain ⟨hci, hrc⟩ := hrc
        split at hrc
        · rename_i C T N hcl
          rw [decide_eq_true_eq] at hrc
          subst hrc
          have hpv : PreV s H y.cls (N0 + a1) (va_Pc (sx_st N0 b (.ref a1 :: As)) (sx_B P D cA N0 b xs w)) (sx_st N0 b As) := ⟨hbl, va_recv hF.2.2.2.2.2.1.1 (sx_obj hH hw hci) (ci := ci) (q0 := 0) hcl rfl, fun U hU hW => ⟨rfl, hst U hU hW⟩⟩
          have hstk : sx_st N0 b ((.ref a1 :: As).reverse ++ rest) = (sx_st N0 b As).reverse ++ .ref (N0 + a1) :: sx_st N0 b rest := by
            unfold sx_st
            rw [List.map_append, List.map_reverse, List.map_cons, List.reverse_cons, List.append_assoc]
            rfl
          have hln : (sx_st N0 b As).length = n - 1 := by rw [sx_st_len]; simp at hav; omega
          rw [hstk]
          by_cases hk : k = 0
          · rw [if_pos hk] at hlk
            exact back _ (va_runV hfix hC ⟨⟨rfl, rfl, hrm1, hrm2, hws, hcode, sx_wd_at hF m1, sx_wd_at hF m4, ⟨hy1, hy2⟩, hpar _ hpd', sx_wd_at hF hlk⟩, sx_wd_at hF m2, sx_wd_at hF m3⟩ hpv rfl hln hls.1 rfl hW8 hd ⟨hce, hsl⟩)
          · rw [if_neg hk] at hlk
            obtain ⟨host, hno⟩ := nest hlk
            exact back _ (va_runVN (host := host) hfix hC ⟨⟨⟨rfl, rfl, hrm1, hrm2, hws, hcode⟩, sx_wd_at hF m1, sx_wd_at hF m4, ⟨hy1, hy2⟩, hpar _ hpd', va_Nw.use rfl hno⟩, sx_wd_at hF m2, sx_wd_at hF m3⟩ hpv rfl hln hls.1 rfl hW8 hd ⟨hce, hsl⟩)
        · cases hrc
      · cases hrc
    · cases hrc
  case invokespecial i =>
    simp only [Bool.and_eq_true, Bool.not_eq_true', decide_eq_true_eq] at hl
    obtain ⟨⟨⟨hni, rfl⟩, hlk⟩, hret⟩ := hl
    subst hret
    have hni' : y.name = "<init>" := by simpa [sx_isIni] using hni
    rw [if_neg (by decide), Bool.and_eq_true, Bool.and_eq_true, decide_eq_true_eq] at m2
    obtain ⟨⟨m2, hpd⟩, -⟩ := m2
    have hpd' : (parseMethodDescriptor y.desc).map (fun d => d.parameters.length) = some (n - 1) := by
      cases hp : parseMethodDescriptor y.desc with
      | none => rw [hp] at hpd; cases hpd
      | some sig => rw [hp] at hpd; simp at hpd ⊢; omega
    have hn0 : 0 < n := by
      cases hp : parseMethodDescriptor y.desc with
      | none => rw [hp] at hpd; cases hpd
      | some sig => rw [hp] at hpd; simp at hpd; omega
    unfold sx_recv at hrc
    rw [Bool.false_or] at hrc
    split at hrc
    · rename_i a1 As
      have hln : (sx_st N0 b As).length = n - 1 := by rw [sx_st_len]; simp at hav; omega
      have hps : PreS s H (va_Pc (sx_st N0 b (.ref a1 :: As)) (sx_B P D cA N0 b xs w)) (.ref (N0 + a1) :: sx_st N0 b As) := ⟨hbl, fun U hU hW => ⟨rfl, hst U hU hW⟩⟩
      have hstk : sx_st N0 b ((.ref a1 :: As).reverse ++ rest) = (sx_st N0 b As).reverse ++ .ref (N0 + a1) :: sx_st N0 b rest := by
        unfold sx_st
        rw [List.map_append, List.map_reverse, List.map_cons, List.reverse_cons, List.append_assoc]
        rfl
      rw [hstk]
      by_cases hk : k = 0
      · rw [if_pos hk] at hlk
        exact back _ (va_runI hfix hC ⟨⟨rfl, rfl, hrm1, hrm2, hws, hcode, sx_wd_at hF m1, sx_wd_at hF m4, ⟨hy1, hy2⟩, hpar _ hpd', sx_wd_at hF hlk⟩, hni', sx_wd_at hF m2⟩ hps rfl hln hls.1 rfl hW8 hd ⟨hce, hsl⟩)
      · rw [if_neg hk] at hlk
        obtain ⟨host, hno⟩ := nest hlk
        exact back _ (va_runIN (host := host) hfix hC ⟨⟨⟨rfl, rfl, hrm1, hrm2, hws, hcode⟩, sx_wd_at hF m1, sx_wd_at hF m4, ⟨hy1, hy2⟩, hpar _ hpd', va_Nw.use rfl hno⟩, hni', sx_wd_at hF m2⟩ hps rfl hln hls.1 rfl hW8 hd ⟨hce, hsl⟩)
    · cases hrc
  case invokestatic i =>
    simp only [Bool.and_eq_true] at hl
    obtain ⟨rfl, hlk⟩ := hl
    rw [if_pos rfl, Bool.and_eq_true, decide_eq_true_eq] at m2
    obtain ⟨m2, hpd⟩ := m2
    have hps : PreS s H (va_Pc (sx_st N0 b av) (sx_B P D cA N0 b xs w)) (sx_st N0 b av) := ⟨hbl, fun U hU hW => ⟨rfl, hst U hU hW⟩⟩
    have hstk : sx_st N0 b (av.reverse ++ rest) = (sx_st N0 b av).reverse ++ sx_st N0 b rest := by
      unfold sx_st
      rw [List.map_append, List.map_reverse]
    have hln : (sx_st N0 b av).length = n := by rw [sx_st_len]; exact hav
    rw [hstk]
    by_cases hk : k = 0
    · rw [if_pos hk] at hlk
      exact back _ (va_runS hfix hC ⟨⟨rfl, rfl, hrm1, hrm2, hws, hcode, sx_wd_at hF m1, sx_wd_at hF m4, ⟨hy1, hy2⟩, hpar _ hpd, sx_wd_at hF hlk⟩, sx_wd_at hF m2⟩ hps rfl hln hls.1 rfl hW8 hd ⟨hce, hsl⟩)
    · rw [if_neg hk] at hlk
      obtain ⟨host, hno⟩ := nest hlk
      exact back _ (va_runSN (host := host) hfix hC ⟨⟨⟨rfl, rfl, hrm1, hrm2, hws, hcode⟩, sx_wd_at hF m1, sx_wd_at hF m4, ⟨hy1, hy2⟩, hpar _ hpd, va_Nw.use rfl hno⟩, sx_wd_at hF m2, trivial⟩ hps rfl hln hls.1 rfl hW8 hd ⟨hce, hsl⟩)
  all_goals (cases hl)
end SXC
section SXE
variable {p : Program} {l : Launch} {e : Env} {R : Room} {s : State} {m : MethodId} {args : Array Value} {below : List Frame} {meth : Method} {c : Code} {Q : State → Prop}
variable {P : sx_P} {D : va_G} {cA : Nat → ClassId} {N0 b nL : Nat} {xs : List Int32} {own : String} {cc : ByteArray}
/-- an answer as the method's descriptor has it -/
def sx_retOk (ret : Option FieldType) (I : Instr) (st : List Value) : Option (Option Value) := match I, ret, st with
  | .return_, none, [] => some none
  | .ireturn, some ty, [.int v] => if narrow ty (.int v) = .int v then some (some (.int v)) else none
  | .lreturn, some .long, [.long v] => some (some (.long v))
  | _, _, _ => none
def sx_MQ (P : sx_P) (D : va_G) (cA : Nat → ClassId) (N0 b : Nat) (xs : List Int32) (F : Option Value → sx_W → Prop) (mc ms : Nat) (s : State) (args : Array Value) (below : List Frame) : State → Prop := MQ below (sx_Q P D cA N0 b xs F) args s mc ms (fun q => N0 ≤ q)
theorem sx_ret_G (hF : sx_Fx P D cA N0 b nL xs own cc p R s m args c) (hn : ∀ w ∈ P.2.2.2.2, sx_isNest w = true) {ret : Option FieldType} (hr : meth.sig.returnType = ret) (hlocks : meth.locks = false) {E : sx_E} (hdec : sx_dec cc E = true) {F : Option Value → sx_W → Prop} {mc ms cells slots : Nat} (hce : cells ≤ mc) (hsl : slots ≤ ms) {w : sx_W} {lv : sx_L} {st : List Value} {r : Option Value}
    (hs : sx_retOk ret E.2.1 st = some r) (hq : F r w) : sx_G p l e R s m args below meth c (sx_MQ P D cA N0 b xs F mc ms s args below) P D cA N0 b nL cells slots w E.1 lv st := by
  obtain ⟨pc, I, len, a, k, q, z⟩ := E
  unfold sx_dec at hdec
  rw [Bool.and_eq_true, decide_eq_true_eq, Bool.or_eq_true, decide_eq_true_eq] at hdec
  obtain ⟨hd, hlen⟩ := hdec
  dsimp only at hd hlen hs
  show sx_G p l e R s m args below meth c _ P D cA N0 b nL cells slots w pc lv st
  intro H locs ls hH hS hl
  have hst := sx_start hF hn hH hS
  refine W.widen hce hsl ?_
  have hqq : ∀ t : State, t.heap = H → s.WarmedH t.vm → sx_Q P D cA N0 b xs F args s (.returned (r.map (sx_sh N0 b))) t := fun t ht hW => ⟨⟨r, w, rfl, hq, hst t ht hW⟩, hS.F ht⟩
  unfold sx_retOk at hs
  split at hs
  · cases hs
    have hd' : decode cc pc = .ok (.return_, 1) := by
      rcases hlen with h1 | h1
      · cases h1
      · rw [hd, ← h1]; rfl
    exact W.vret hF.1 hF.2.1 hr hqq hS.2.2 hd'
  · rename_i ty v
    have hd' : decode cc pc = .ok (.ireturn, 1) := by
      rcases hlen with h1 | h1
      · cases h1
      · rw [hd, ← h1]; rfl
    by_cases hn : narrow ty (.int v) = .int v
    · rw [if_pos hn] at hs
      cases hs
      exact W.zret hF.1 hF.2.1 hr hn hqq hS.2.2 hd'
    · rw [if_neg hn] at hs; cases hs
  · rename_i v
    cases hs
    have hd' : decode cc pc = .ok (.lreturn, 1) := by
      rcases hlen with h1 | h1
      · cases h1
      · rw [hd, ← h1]; rfl
    exact W.lret hF.1 hF.2.1 hr hqq hS.2.2 hd'
  · cases hs
end SXE
