section
/-! the table is as the tables' words say: checked by the kernel -/
noncomputable def sx_layChk (P : sx_P) (q : vw_C) (k : Nat) : List Nat → Bool
  | [] => decide (q.2.2 = k)
  | p :: ps => sx_wd P p (u_lay q.1 q.2.1 k) && sx_layChk P q (k + 1) ps
theorem sx_layChk_ok {P : sx_P} {q : vw_C} : ∀ (ps : List Nat) (k : Nat), sx_layChk P q k ps = true → ∀ j, k ≤ j → j < q.2.2 → u_lay q.1 q.2.1 j ∈ P.1.flatten ∧ goodWord (u_lay q.1 q.2.1 j) = true
  | [], k, h, j, h1, h2 => by
    have : q.2.2 = k := by simpa [sx_layChk] using h
    omega
  | p :: ps, k, h, j, h1, h2 => by
    simp only [sx_layChk, Bool.and_eq_true] at h
    by_cases hj : j = k
    · subst hj
      exact sx_wd_mem h.1
    · exact sx_layChk_ok ps (k + 1) h.2 j (by omega) h2
theorem yp_lay0 : sx_layChk yp_P ("YearTrade$Tape", yp_T0, 2) 0 [1036, 1038] = true := by decide +kernel
theorem yp_pty0 : ∀ k, k < 2 → parseFieldDescriptor (yp_T0 k).2.2.1 = some (yp_P.2.2.1 0 k) := by decide +kernel
theorem yp_nms0 : ∀ a, a < 2 → ∀ b, b < 2 → a ≠ b → (yp_T0 a).2.1 ≠ (yp_T0 b).2.1 := by decide +kernel
theorem yp_ins0 : sx_wd yp_P 1026 (.instantiable "YearTrade$Tape" 2) = true := by decide +kernel
theorem yp_lay1 : sx_layChk yp_P ("YearTrade$Text", yp_T1, 5) 0 [1059, 1061, 1063, 1065, 1067] = true := by decide +kernel
theorem yp_pty1 : ∀ k, k < 5 → parseFieldDescriptor (yp_T1 k).2.2.1 = some (yp_P.2.2.1 1 k) := by decide +kernel
theorem yp_nms1 : ∀ a, a < 5 → ∀ b, b < 5 → a ≠ b → (yp_T1 a).2.1 ≠ (yp_T1 b).2.1 := by decide +kernel
theorem yp_ins1 : sx_wd yp_P 1043 (.instantiable "YearTrade$Text" 5) = true := by decide +kernel
theorem yp_lay2 : sx_layChk yp_P ("YearTrade$Book", yp_T2, 17) 0 [1137, 1139, 1141, 1143, 1145, 1147, 1149, 1151, 1153, 1155, 1157, 1159, 1161, 1163, 1165, 1167, 1169] = true := by decide +kernel
theorem yp_pty2 : ∀ k, k < 17 → parseFieldDescriptor (yp_T2 k).2.2.1 = some (yp_P.2.2.1 2 k) := by decide +kernel
theorem yp_nms2 : ∀ a, a < 17 → ∀ b, b < 17 → a ≠ b → (yp_T2 a).2.1 ≠ (yp_T2 b).2.1 := by decide +kernel
theorem yp_ins2 : sx_wd yp_P 1071 (.instantiable "YearTrade$Book" 17) = true := by decide +kernel
theorem yp_lay3 : sx_layChk yp_P ("YearTrade$Law", yp_T3, 12) 0 [1193, 1195, 1197, 1199, 1201, 1203, 1205, 1207, 1209, 1211, 1213, 1215] = true := by decide +kernel
theorem yp_pty3 : ∀ k, k < 12 → parseFieldDescriptor (yp_T3 k).2.2.1 = some (yp_P.2.2.1 3 k) := by decide +kernel
theorem yp_nms3 : ∀ a, a < 12 → ∀ b, b < 12 → a ≠ b → (yp_T3 a).2.1 ≠ (yp_T3 b).2.1 := by decide +kernel
theorem yp_ins3 : sx_wd yp_P 1173 (.instantiable "YearTrade$Law" 12) = true := by decide +kernel
theorem yp_lay4 : sx_layChk yp_P ("YearTrade$LawReader", yp_T4, 1) 0 [1228] = true := by decide +kernel
theorem yp_pty4 : ∀ k, k < 1 → parseFieldDescriptor (yp_T4 k).2.2.1 = some (yp_P.2.2.1 4 k) := by decide +kernel
theorem yp_nms4 : ∀ a, a < 1 → ∀ b, b < 1 → a ≠ b → (yp_T4 a).2.1 ≠ (yp_T4 b).2.1 := by decide +kernel
theorem yp_ins4 : sx_wd yp_P 1219 (.instantiable "YearTrade$LawReader" 1) = true := by decide +kernel
theorem yp_lay5 : sx_layChk yp_P ("YearTrade$Deals", yp_T5, 8) 0 [2007, 2009, 2011, 2013, 2015, 2017, 2019, 2021] = true := by decide +kernel
theorem yp_pty5 : ∀ k, k < 8 → parseFieldDescriptor (yp_T5 k).2.2.1 = some (yp_P.2.2.1 5 k) := by decide +kernel
theorem yp_nms5 : ∀ a, a < 8 → ∀ b, b < 8 → a ≠ b → (yp_T5 a).2.1 ≠ (yp_T5 b).2.1 := by decide +kernel
theorem yp_ins5 : sx_wd yp_P 1232 (.instantiable "YearTrade$Deals" 8) = true := by decide +kernel
theorem yp_lay6 : sx_layChk yp_P ("YearTrade$Past", yp_T6, 9) 0 [2048, 2050, 2052, 2054, 2056, 2058, 2060, 2062, 2064] = true := by decide +kernel
theorem yp_pty6 : ∀ k, k < 9 → parseFieldDescriptor (yp_T6 k).2.2.1 = some (yp_P.2.2.1 6 k) := by decide +kernel
theorem yp_nms6 : ∀ a, a < 9 → ∀ b, b < 9 → a ≠ b → (yp_T6 a).2.1 ≠ (yp_T6 b).2.1 := by decide +kernel
theorem yp_ins6 : sx_wd yp_P 2032 (.instantiable "YearTrade$Past" 9) = true := by decide +kernel
theorem yp_lay7 : sx_layChk yp_P ("YearTrade$Shop", yp_T7, 7) 0 [2082, 2084, 2086, 2088, 2090, 2092, 2094] = true := by decide +kernel
theorem yp_pty7 : ∀ k, k < 7 → parseFieldDescriptor (yp_T7 k).2.2.1 = some (yp_P.2.2.1 7 k) := by decide +kernel
theorem yp_nms7 : ∀ a, a < 7 → ∀ b, b < 7 → a ≠ b → (yp_T7 a).2.1 ≠ (yp_T7 b).2.1 := by decide +kernel
theorem yp_ins7 : sx_wd yp_P 2068 (.instantiable "YearTrade$Shop" 7) = true := by decide +kernel
theorem yp_lay8 : sx_layChk yp_P ("YearTrade$Fair", yp_T8, 5) 0 [2108, 2110, 2112, 2114, 2116] = true := by decide +kernel
theorem yp_pty8 : ∀ k, k < 5 → parseFieldDescriptor (yp_T8 k).2.2.1 = some (yp_P.2.2.1 8 k) := by decide +kernel
theorem yp_nms8 : ∀ a, a < 5 → ∀ b, b < 5 → a ≠ b → (yp_T8 a).2.1 ≠ (yp_T8 b).2.1 := by decide +kernel
theorem yp_ins8 : sx_wd yp_P 2098 (.instantiable "YearTrade$Fair" 5) = true := by decide +kernel
theorem yp_lay9 : sx_layChk yp_P ("YearTrade", yp_T9, 14) 0 [2133, 2135, 2137, 2139, 2141, 2143, 2145, 2147, 2149, 2151, 2153, 2155, 2157, 2159] = true := by decide +kernel
theorem yp_pty9 : ∀ k, k < 14 → parseFieldDescriptor (yp_T9 k).2.2.1 = some (yp_P.2.2.1 9 k) := by decide +kernel
theorem yp_nms9 : ∀ a, a < 14 → ∀ b, b < 14 → a ≠ b → (yp_T9 a).2.1 ≠ (yp_T9 b).2.1 := by decide +kernel
theorem yp_ins9 : sx_wd yp_P 1018 (.instantiable "YearTrade" 14) = true := by decide +kernel
theorem yp_lay10 : sx_layChk yp_P ("YearTradeModel", yp_T10, 48) 0 [5161, 5163, 5165, 5167, 5169, 5171, 5173, 5175, 5177, 5179, 5181, 5183, 5185, 5187, 5189, 5191, 5193, 5195, 5197, 5199, 5201, 5203, 5205, 5207, 5209, 5211, 5213, 5215, 5217, 5219, 5221, 5223, 5225, 5227, 5229, 5231, 5233, 5235, 5237, 5239, 6001, 6003, 6005, 6007, 6009, 6011, 6013, 6015] = true := by decide +kernel
theorem yp_pty10 : ∀ k, k < 48 → parseFieldDescriptor (yp_T10 k).2.2.1 = some (yp_P.2.2.1 10 k) := by decide +kernel
theorem yp_nms10 : ∀ a, a < 48 → ∀ b, b < 48 → a ≠ b → (yp_T10 a).2.1 ≠ (yp_T10 b).2.1 := by decide +kernel
theorem yp_ins10 : sx_wd yp_P 5108 (.instantiable "YearTradeModel" 48) = true := by decide +kernel
theorem yp_lay11 : sx_layChk yp_P ("YearTrade$Calendar", yp_T11, 0) 0 [] = true := by decide +kernel
theorem yp_pty11 : ∀ k, k < 0 → parseFieldDescriptor (yp_T11 k).2.2.1 = some (yp_P.2.2.1 11 k) := by decide +kernel
theorem yp_nms11 : ∀ a, a < 0 → ∀ b, b < 0 → a ≠ b → (yp_T11 a).2.1 ≠ (yp_T11 b).2.1 := by decide +kernel
theorem yp_ins11 : sx_wd yp_P 2025 (.instantiable "YearTrade$Calendar" 0) = true := by decide +kernel
theorem yp_kind : sx_kindOk yp_P := by
  intro ci q hq
  match ci, hq with
  | 0, hq => cases hq; exact ⟨fun k hk => sx_layChk_ok _ 0 yp_lay0 k (Nat.zero_le _) hk, yp_pty0, yp_nms0⟩
  | 1, hq => cases hq; exact ⟨fun k hk => sx_layChk_ok _ 0 yp_lay1 k (Nat.zero_le _) hk, yp_pty1, yp_nms1⟩
  | 2, hq => cases hq; exact ⟨fun k hk => sx_layChk_ok _ 0 yp_lay2 k (Nat.zero_le _) hk, yp_pty2, yp_nms2⟩
  | 3, hq => cases hq; exact ⟨fun k hk => sx_layChk_ok _ 0 yp_lay3 k (Nat.zero_le _) hk, yp_pty3, yp_nms3⟩
  | 4, hq => cases hq; exact ⟨fun k hk => sx_layChk_ok _ 0 yp_lay4 k (Nat.zero_le _) hk, yp_pty4, yp_nms4⟩
  | 5, hq => cases hq; exact ⟨fun k hk => sx_layChk_ok _ 0 yp_lay5 k (Nat.zero_le _) hk, yp_pty5, yp_nms5⟩
  | 6, hq => cases hq; exact ⟨fun k hk => sx_layChk_ok _ 0 yp_lay6 k (Nat.zero_le _) hk, yp_pty6, yp_nms6⟩
  | 7, hq => cases hq; exact ⟨fun k hk => sx_layChk_ok _ 0 yp_lay7 k (Nat.zero_le _) hk, yp_pty7, yp_nms7⟩
  | 8, hq => cases hq; exact ⟨fun k hk => sx_layChk_ok _ 0 yp_lay8 k (Nat.zero_le _) hk, yp_pty8, yp_nms8⟩
  | 9, hq => cases hq; exact ⟨fun k hk => sx_layChk_ok _ 0 yp_lay9 k (Nat.zero_le _) hk, yp_pty9, yp_nms9⟩
  | 10, hq => cases hq; exact ⟨fun k hk => sx_layChk_ok _ 0 yp_lay10 k (Nat.zero_le _) hk, yp_pty10, yp_nms10⟩
  | 11, hq => cases hq; exact ⟨fun k hk => sx_layChk_ok _ 0 yp_lay11 k (Nat.zero_le _) hk, yp_pty11, yp_nms11⟩
  | n + 12, hq => simp [yp_P, yp_cl] at hq
theorem yp_made : ∀ (ci : Nat) (q : vw_C), yp_P.2.1[ci]? = some q → ∃ n, Cond.instantiable q.1 n ∈ yp_P.1.flatten ∧ goodWord (.instantiable q.1 n) = true := by
  intro ci q hq
  match ci, hq with
  | 0, hq => cases hq; exact ⟨_, sx_wd_mem yp_ins0⟩
  | 1, hq => cases hq; exact ⟨_, sx_wd_mem yp_ins1⟩
  | 2, hq => cases hq; exact ⟨_, sx_wd_mem yp_ins2⟩
  | 3, hq => cases hq; exact ⟨_, sx_wd_mem yp_ins3⟩
  | 4, hq => cases hq; exact ⟨_, sx_wd_mem yp_ins4⟩
  | 5, hq => cases hq; exact ⟨_, sx_wd_mem yp_ins5⟩
  | 6, hq => cases hq; exact ⟨_, sx_wd_mem yp_ins6⟩
  | 7, hq => cases hq; exact ⟨_, sx_wd_mem yp_ins7⟩
  | 8, hq => cases hq; exact ⟨_, sx_wd_mem yp_ins8⟩
  | 9, hq => cases hq; exact ⟨_, sx_wd_mem yp_ins9⟩
  | 10, hq => cases hq; exact ⟨_, sx_wd_mem yp_ins10⟩
  | 11, hq => cases hq; exact ⟨_, sx_wd_mem yp_ins11⟩
  | n + 12, hq => simp [yp_P, yp_cl] at hq
theorem yp_isnest : ∀ w ∈ yp_P.2.2.2.2, sx_isNest w = true := List.all_eq_true.mp (show yp_nest.all sx_isNest = true from by decide +kernel)
def yp_nestq : List Nat := [1027, 1044, 1072, 1174, 1220, 1225, 1233, 2026, 2033, 2069, 2099]
theorem yp_nestIn : ((yp_nest.zip yp_nestq).all (fun q => decide ((yp_P.1[q.2 / 1000]?).bind (fun ch => ch[q.2 % 1000]?) = some q.1)) && decide (yp_nest.length = yp_nestq.length)) = true := by decide +kernel
theorem yp_ai : sx_wd yp_P 1041 (.arrayClass .int) = true := by decide +kernel
theorem yp_ab : sx_wd yp_P 6018 (.arrayClass .byte) = true := by decide +kernel
/-- as sx_mOk, but for the word of the code, which is shown by rfl (bytes are not compared one by one) -/
noncomputable def sx_mOk1 (P : sx_P) (M : sx_M) : Bool := match M with
  | (y, cc, nL, ret, n, isS, (q1, q2, q3, q4), rows) => plainName y.cls && goodWord (.code y cc nL ret) && sx_wd P q4 (.initialized y.cls) && decide (nL ≤ 45) && decide (y.cls ≠ "java/lang/invoke/MethodHandle") && decide (y.cls ≠ "java/lang/invoke/VarHandle") &&
    (if isS then sx_wd P q2 (.static y) && decide ((parseMethodDescriptor y.desc).map (fun d => d.parameters.length) = some n)
     else sx_wd P q2 (.instanceMethod y) && decide ((parseMethodDescriptor y.desc).map (fun d => d.parameters.length + 1) = some n) && (decide (y.name = "<init>") || sx_wd P q3 (.selects y.cls y y))) &&
    rows.all (fun E => sx_dec cc E)
theorem sx_okOf {P : sx_P} {M : sx_M} (hw : (P.1[M.2.2.2.2.2.2.1.1 / 1000]?).bind (fun ch => ch[M.2.2.2.2.2.2.1.1 % 1000]?) = some (.code M.1 M.2.1 M.2.2.1 M.2.2.2.1)) (h : (sx_mOk1 P M && sx_rowsOk P M) = true) : (sx_mOk P M && sx_rowsOk P M) = true := by
  obtain ⟨y, cc, nL, ret, n, isS, ⟨q1, q2, q3, q4⟩, rows⟩ := M
  dsimp only at hw
  unfold sx_mOk1 at h
  unfold sx_mOk sx_wd
  dsimp only at h ⊢
  rw [sx_look (q := q1), hw, decide_eq_true rfl, Bool.true_and]
  exact h
/-- as sx_mOk1, with the code read byte by byte -/
noncomputable def sx_mOk2 (P : sx_P) (M : sx_M) : Bool := match M with
  | (y, cc, nL, ret, n, isS, (q1, q2, q3, q4), rows) => plainName y.cls && goodWord (.code y cc nL ret) && sx_wd P q4 (.initialized y.cls) && decide (nL ≤ 45) && decide (y.cls ≠ "java/lang/invoke/MethodHandle") && decide (y.cls ≠ "java/lang/invoke/VarHandle") &&
    (if isS then sx_wd P q2 (.static y) && decide ((parseMethodDescriptor y.desc).map (fun d => d.parameters.length) = some n)
     else sx_wd P q2 (.instanceMethod y) && decide ((parseMethodDescriptor y.desc).map (fun d => d.parameters.length + 1) = some n) && (decide (y.name = "<init>") || sx_wd P q3 (.selects y.cls y y))) &&
    fwalk cc cc.data.toList 0 rows
theorem sx_mOk_2 {P : sx_P} {M : sx_M} (h : (sx_mOk2 P M && sx_rowsOk P M) = true) : (sx_mOk1 P M && sx_rowsOk P M) = true := by
  rw [Bool.and_eq_true] at h ⊢
  refine ⟨?_, h.2⟩
  have h1 := h.1
  obtain ⟨y, cc, nL, ret, n, isS, ⟨q1, q2, q3, q4⟩, rows⟩ := M
  unfold sx_mOk2 at h1
  unfold sx_mOk1
  dsimp only at h1 ⊢
  rw [Bool.and_eq_true] at h1 ⊢
  exact ⟨h1.1, List.all_eq_true.mpr (fwalk_ok rows cc.data.toList 0 h1.2 rfl)⟩
/-- what a class's name must be -/
def sx_cls (C : String) : Bool := plainName C && (decide (C ≠ "java/lang/invoke/MethodHandle") && decide (C ≠ "java/lang/invoke/VarHandle"))
/-- as sx_mOk2, what the class's name and the descriptor say left out -/
noncomputable def sx_mOk3 (P : sx_P) (M : sx_M) : Bool := match M with
  | (y, cc, nL, ret, _, isS, (q1, q2, q3, q4), rows) => goodWord (.code y cc nL ret) && (sx_wd P q4 (.initialized y.cls) && (decide (nL ≤ 45) && ((if isS then sx_wd P q2 (.static y)
     else sx_wd P q2 (.instanceMethod y) && (if q3 = 0 then (decide (y.name = "<init>") || sx_wd P q3 (.selects y.cls y y)) else sx_wd P q3 (.selects y.cls y y))) && fwalk cc cc.data.toList 0 rows)))
theorem sx_mOk_3 {P : sx_P} {M : sx_M} {k : Nat} (hc : sx_cls M.1.cls = true) (hd : (parseMethodDescriptor M.1.desc).map (fun d => d.parameters.length) = some k) (hn : (if M.2.2.2.2.2.1 then k else k + 1) = M.2.2.2.2.1) (h : (sx_mOk3 P M && sx_rowsOk P M) = true) : (sx_mOk2 P M && sx_rowsOk P M) = true := by
  rw [Bool.and_eq_true] at h ⊢
  refine ⟨?_, h.2⟩
  have h1 := h.1
  obtain ⟨y, cc, nL, ret, n, isS, ⟨q1, q2, q3, q4⟩, rows⟩ := M
  dsimp only at hc hd hn
  unfold sx_mOk3 at h1
  unfold sx_mOk2
  unfold sx_cls at hc
  dsimp only at h1 ⊢
  rw [Bool.and_eq_true, Bool.and_eq_true] at hc
  rw [Bool.and_eq_true, Bool.and_eq_true, Bool.and_eq_true, Bool.and_eq_true] at h1
  obtain ⟨c1, c2, c3⟩ := hc
  obtain ⟨g1, g2, g3, g4, g5⟩ := h1
  rw [g1, g2, g3, c1, c2, c3, g5]
  cases isS with
  | true =>
    have g4 : sx_wd P q2 (.static y) = true := g4
    have hn : k = n := hn
    show (true && true && true && true && true && true && (sx_wd P q2 (.static y) && decide ((parseMethodDescriptor y.desc).map (fun d => d.parameters.length) = some n)) && true) = true
    rw [g4, decide_eq_true (hd.trans (congrArg some hn))]
    rfl
  | false =>
    have g4 : (sx_wd P q2 (.instanceMethod y) && (if q3 = 0 then (decide (y.name = "<init>") || sx_wd P q3 (.selects y.cls y y)) else sx_wd P q3 (.selects y.cls y y))) = true := g4
    have hn : k + 1 = n := hn
    have hd2 : (parseMethodDescriptor y.desc).map (fun d => d.parameters.length + 1) = some n := by
      cases hp : parseMethodDescriptor y.desc with
      | none => rw [hp] at hd; cases hd
      | some d =>
        rw [hp] at hd
        have e : d.parameters.length = k := Option.some.inj hd
        show some (d.parameters.length + 1) = some n
        rw [e, hn]
    rw [Bool.and_eq_true] at g4
    have g6 : (decide (y.name = "<init>") || sx_wd P q3 (.selects y.cls y y)) = true := by
      have g5 := g4.2
      split at g5
      · exact g5
      · rw [g5, Bool.or_true]
    show (true && true && true && true && true && true && (sx_wd P q2 (.instanceMethod y) && decide ((parseMethodDescriptor y.desc).map (fun d => d.parameters.length + 1) = some n) && (decide (y.name = "<init>") || sx_wd P q3 (.selects y.cls y y))) && true) = true
    rw [g4.1, decide_eq_true hd2, g6]
    rfl
theorem yc_0 : sx_cls "YearTrade" = true := by decide +kernel
theorem yc_1 : sx_cls "YearTrade$Book" = true := by decide +kernel
theorem yc_2 : sx_cls "YearTrade$Calendar" = true := by decide +kernel
theorem yc_3 : sx_cls "YearTrade$Deals" = true := by decide +kernel
theorem yc_4 : sx_cls "YearTrade$Fair" = true := by decide +kernel
theorem yc_5 : sx_cls "YearTrade$Law" = true := by decide +kernel
theorem yc_6 : sx_cls "YearTrade$LawReader" = true := by decide +kernel
theorem yc_7 : sx_cls "YearTrade$Past" = true := by decide +kernel
theorem yc_8 : sx_cls "YearTrade$Shop" = true := by decide +kernel
theorem yc_9 : sx_cls "YearTrade$Tape" = true := by decide +kernel
theorem yc_10 : sx_cls "YearTrade$Text" = true := by decide +kernel
theorem yc_11 : sx_cls "YearTradeModel" = true := by decide +kernel
theorem yc_12 : sx_cls "java/lang/Integer" = true := by decide +kernel
theorem yc_13 : sx_cls "java/lang/Long" = true := by decide +kernel
theorem yd_0 : (parseMethodDescriptor "()I").map (fun d => d.parameters.length) = some 0 := by decide +kernel
theorem yd_1 : (parseMethodDescriptor "()V").map (fun d => d.parameters.length) = some 0 := by decide +kernel
theorem yd_2 : (parseMethodDescriptor "()Z").map (fun d => d.parameters.length) = some 0 := by decide +kernel
theorem yd_3 : (parseMethodDescriptor "(I)I").map (fun d => d.parameters.length) = some 1 := by decide +kernel
theorem yd_4 : (parseMethodDescriptor "(I)J").map (fun d => d.parameters.length) = some 1 := by decide +kernel
theorem yd_5 : (parseMethodDescriptor "(I)V").map (fun d => d.parameters.length) = some 1 := by decide +kernel
theorem yd_6 : (parseMethodDescriptor "(I)Z").map (fun d => d.parameters.length) = some 1 := by decide +kernel
theorem yd_7 : (parseMethodDescriptor "(II)I").map (fun d => d.parameters.length) = some 2 := by decide +kernel
theorem yd_8 : (parseMethodDescriptor "(II)J").map (fun d => d.parameters.length) = some 2 := by decide +kernel
theorem yd_9 : (parseMethodDescriptor "(II)V").map (fun d => d.parameters.length) = some 2 := by decide +kernel
theorem yd_10 : (parseMethodDescriptor "(II)Z").map (fun d => d.parameters.length) = some 2 := by decide +kernel
theorem yd_11 : (parseMethodDescriptor "(III)I").map (fun d => d.parameters.length) = some 3 := by decide +kernel
theorem yd_12 : (parseMethodDescriptor "(III)V").map (fun d => d.parameters.length) = some 3 := by decide +kernel
theorem yd_13 : (parseMethodDescriptor "(III)Z").map (fun d => d.parameters.length) = some 3 := by decide +kernel
theorem yd_14 : (parseMethodDescriptor "(IIIII)I").map (fun d => d.parameters.length) = some 5 := by decide +kernel
theorem yd_15 : (parseMethodDescriptor "(IIIIIZI)Z").map (fun d => d.parameters.length) = some 7 := by decide +kernel
theorem yd_16 : (parseMethodDescriptor "(IIZ)V").map (fun d => d.parameters.length) = some 3 := by decide +kernel
theorem yd_17 : (parseMethodDescriptor "(J)I").map (fun d => d.parameters.length) = some 1 := by decide +kernel
theorem yd_18 : (parseMethodDescriptor "(LYearTrade$Book;)J").map (fun d => d.parameters.length) = some 1 := by decide +kernel
theorem yd_19 : (parseMethodDescriptor "(LYearTrade$Book;)V").map (fun d => d.parameters.length) = some 1 := by decide +kernel
theorem yd_20 : (parseMethodDescriptor "(LYearTrade$Book;I)I").map (fun d => d.parameters.length) = some 2 := by decide +kernel
theorem yd_21 : (parseMethodDescriptor "(LYearTrade$Book;I)V").map (fun d => d.parameters.length) = some 2 := by decide +kernel
theorem yd_22 : (parseMethodDescriptor "(LYearTrade$Book;I)Z").map (fun d => d.parameters.length) = some 2 := by decide +kernel
theorem yd_23 : (parseMethodDescriptor "(LYearTrade$Book;II)I").map (fun d => d.parameters.length) = some 3 := by decide +kernel
theorem yd_24 : (parseMethodDescriptor "(LYearTrade$Book;II)V").map (fun d => d.parameters.length) = some 3 := by decide +kernel
theorem yd_25 : (parseMethodDescriptor "(LYearTrade$Book;II)Z").map (fun d => d.parameters.length) = some 3 := by decide +kernel
theorem yd_26 : (parseMethodDescriptor "(LYearTrade$Book;III)I").map (fun d => d.parameters.length) = some 4 := by decide +kernel
theorem yd_27 : (parseMethodDescriptor "(LYearTrade$Book;III)Z").map (fun d => d.parameters.length) = some 4 := by decide +kernel
theorem yd_28 : (parseMethodDescriptor "(LYearTrade$Book;IIII)I").map (fun d => d.parameters.length) = some 5 := by decide +kernel
theorem yd_29 : (parseMethodDescriptor "(LYearTrade$Book;J)I").map (fun d => d.parameters.length) = some 2 := by decide +kernel
theorem yd_30 : (parseMethodDescriptor "(LYearTrade$Book;JI)I").map (fun d => d.parameters.length) = some 3 := by decide +kernel
theorem yd_31 : (parseMethodDescriptor "(LYearTrade$Book;JI)Z").map (fun d => d.parameters.length) = some 3 := by decide +kernel
theorem yd_32 : (parseMethodDescriptor "(LYearTrade$Book;LYearTrade$Law;)I").map (fun d => d.parameters.length) = some 2 := by decide +kernel
theorem yd_33 : (parseMethodDescriptor "(LYearTrade$Book;LYearTrade$Law;)V").map (fun d => d.parameters.length) = some 2 := by decide +kernel
theorem yd_34 : (parseMethodDescriptor "(LYearTrade$Book;LYearTrade$Law;I)I").map (fun d => d.parameters.length) = some 3 := by decide +kernel
theorem yd_35 : (parseMethodDescriptor "(LYearTrade$Book;LYearTrade$Law;I)V").map (fun d => d.parameters.length) = some 3 := by decide +kernel
theorem yd_36 : (parseMethodDescriptor "(LYearTrade$Book;LYearTrade$Law;I)Z").map (fun d => d.parameters.length) = some 3 := by decide +kernel
theorem yd_37 : (parseMethodDescriptor "(LYearTrade$Book;LYearTrade$Law;II)V").map (fun d => d.parameters.length) = some 4 := by decide +kernel
theorem yd_38 : (parseMethodDescriptor "(LYearTrade$Book;LYearTrade$Law;II)Z").map (fun d => d.parameters.length) = some 4 := by decide +kernel
theorem yd_39 : (parseMethodDescriptor "(LYearTrade$Book;LYearTrade$Text;)Z").map (fun d => d.parameters.length) = some 2 := by decide +kernel
theorem yd_40 : (parseMethodDescriptor "(LYearTrade$Law;)V").map (fun d => d.parameters.length) = some 1 := by decide +kernel
theorem yd_41 : (parseMethodDescriptor "(LYearTrade$Tape;I)V").map (fun d => d.parameters.length) = some 2 := by decide +kernel
theorem yd_42 : (parseMethodDescriptor "(LYearTrade$Text;)Z").map (fun d => d.parameters.length) = some 1 := by decide +kernel
theorem yd_43 : (parseMethodDescriptor "(LYearTrade$Text;I)Z").map (fun d => d.parameters.length) = some 2 := by decide +kernel
theorem yd_44 : (parseMethodDescriptor "(Z)V").map (fun d => d.parameters.length) = some 1 := by decide +kernel
theorem yd_45 : (parseMethodDescriptor "([I[I)V").map (fun d => d.parameters.length) = some 2 := by decide +kernel
end
section
/-! methods of the table, checked by the kernel -/
theorem yp_ok0 : (sx_mOk yp_P yp_m0 && sx_rowsOk yp_P yp_m0) = true := sx_okOf rfl (sx_mOk_2 (sx_mOk_3 yc_0 yd_1 rfl (by decide +kernel)))
theorem yp_ok1 : (sx_mOk yp_P yp_m1 && sx_rowsOk yp_P yp_m1) = true := sx_okOf rfl (sx_mOk_2 (sx_mOk_3 yc_9 yd_1 rfl (by decide +kernel)))
theorem yp_ok2 : (sx_mOk yp_P yp_m2 && sx_rowsOk yp_P yp_m2) = true := sx_okOf rfl (sx_mOk_2 (sx_mOk_3 yc_10 yd_1 rfl (by decide +kernel)))
theorem yp_ok3 : (sx_mOk yp_P yp_m3 && sx_rowsOk yp_P yp_m3) = true := sx_okOf rfl (sx_mOk_2 (sx_mOk_3 yc_1 yd_1 rfl (by decide +kernel)))
theorem yp_ok4 : (sx_mOk yp_P yp_m4 && sx_rowsOk yp_P yp_m4) = true := sx_okOf rfl (sx_mOk_2 (sx_mOk_3 yc_5 yd_1 rfl (by decide +kernel)))
theorem yp_ok5 : (sx_mOk yp_P yp_m5 && sx_rowsOk yp_P yp_m5) = true := sx_okOf rfl (sx_mOk_2 (sx_mOk_3 yc_6 yd_1 rfl (by decide +kernel)))
theorem yp_ok6 : (sx_mOk yp_P yp_m6 && sx_rowsOk yp_P yp_m6) = true := sx_okOf rfl (sx_mOk_2 (sx_mOk_3 yc_3 yd_1 rfl (by decide +kernel)))
theorem yp_ok7 : (sx_mOk yp_P yp_m7 && sx_rowsOk yp_P yp_m7) = true := sx_okOf rfl (sx_mOk_2 (sx_mOk_3 yc_2 yd_1 rfl (by decide +kernel)))
theorem yp_ok8 : (sx_mOk yp_P yp_m8 && sx_rowsOk yp_P yp_m8) = true := sx_okOf rfl (sx_mOk_2 (sx_mOk_3 yc_7 yd_1 rfl (by decide +kernel)))
theorem yp_ok9 : (sx_mOk yp_P yp_m9 && sx_rowsOk yp_P yp_m9) = true := sx_okOf rfl (sx_mOk_2 (sx_mOk_3 yc_8 yd_1 rfl (by decide +kernel)))
theorem yp_ok10 : (sx_mOk yp_P yp_m10 && sx_rowsOk yp_P yp_m10) = true := sx_okOf rfl (sx_mOk_2 (sx_mOk_3 yc_4 yd_1 rfl (by decide +kernel)))
theorem yp_ok11 : (sx_mOk yp_P yp_m11 && sx_rowsOk yp_P yp_m11) = true := sx_okOf rfl (sx_mOk_2 (sx_mOk_3 yc_0 yd_10 rfl (by decide +kernel)))
theorem yp_ok12 : (sx_mOk yp_P yp_m12 && sx_rowsOk yp_P yp_m12) = true := sx_okOf rfl (sx_mOk_2 (sx_mOk_3 yc_0 yd_15 rfl (by decide +kernel)))
theorem yp_ok13 : (sx_mOk yp_P yp_m13 && sx_rowsOk yp_P yp_m13) = true := sx_okOf rfl (sx_mOk_2 (sx_mOk_3 yc_1 yd_6 rfl (by decide +kernel)))
theorem yp_ok14 : (sx_mOk yp_P yp_m14 && sx_rowsOk yp_P yp_m14) = true := sx_okOf rfl (sx_mOk_2 (sx_mOk_3 yc_1 yd_6 rfl (by decide +kernel)))
theorem yp_ok15 : (sx_mOk yp_P yp_m15 && sx_rowsOk yp_P yp_m15) = true := sx_okOf rfl (sx_mOk_2 (sx_mOk_3 yc_1 yd_16 rfl (by decide +kernel)))
theorem yp_ok16 : (sx_mOk yp_P yp_m16 && sx_rowsOk yp_P yp_m16) = true := sx_okOf rfl (sx_mOk_2 (sx_mOk_3 yc_1 yd_9 rfl (by decide +kernel)))
theorem yp_ok17 : (sx_mOk yp_P yp_m17 && sx_rowsOk yp_P yp_m17) = true := sx_okOf rfl (sx_mOk_2 (sx_mOk_3 yc_1 yd_6 rfl (by decide +kernel)))
theorem yp_ok18 : (sx_mOk yp_P yp_m18 && sx_rowsOk yp_P yp_m18) = true := sx_okOf rfl (sx_mOk_2 (sx_mOk_3 yc_1 yd_5 rfl (by decide +kernel)))
theorem yp_ok19 : (sx_mOk yp_P yp_m19 && sx_rowsOk yp_P yp_m19) = true := sx_okOf rfl (sx_mOk_2 (sx_mOk_3 yc_1 yd_12 rfl (by decide +kernel)))
theorem yp_ok20 : (sx_mOk yp_P yp_m20 && sx_rowsOk yp_P yp_m20) = true := sx_okOf rfl (sx_mOk_2 (sx_mOk_3 yc_0 yd_14 rfl (by decide +kernel)))
theorem yp_ok21 : (sx_mOk yp_P yp_m21 && sx_rowsOk yp_P yp_m21) = true := sx_okOf rfl (sx_mOk_2 (sx_mOk_3 yc_9 yd_5 rfl (by decide +kernel)))
theorem yp_ok22 : (sx_mOk yp_P yp_m22 && sx_rowsOk yp_P yp_m22) = true := sx_okOf rfl (sx_mOk_2 (sx_mOk_3 yc_0 yd_3 rfl (by decide +kernel)))
theorem yp_ok23 : (sx_mOk yp_P yp_m23 && sx_rowsOk yp_P yp_m23) = true := sx_okOf rfl (sx_mOk_2 (sx_mOk_3 yc_9 yd_10 rfl (by decide +kernel)))
theorem yp_ok24 : (sx_mOk yp_P yp_m24 && sx_rowsOk yp_P yp_m24) = true := sx_okOf rfl (sx_mOk_2 (sx_mOk_3 yc_10 yd_41 rfl (by decide +kernel)))
theorem yp_ok25 : (sx_mOk yp_P yp_m25 && sx_rowsOk yp_P yp_m25) = true := sx_okOf rfl (sx_mOk_2 (sx_mOk_3 yc_10 yd_3 rfl (by decide +kernel)))
theorem yp_ok26 : (sx_mOk yp_P yp_m26 && sx_rowsOk yp_P yp_m26) = true := sx_okOf rfl (sx_mOk_2 (sx_mOk_3 yc_6 yd_42 rfl (by decide +kernel)))
theorem yp_ok27 : (sx_mOk yp_P yp_m27 && sx_rowsOk yp_P yp_m27) = true := sx_okOf rfl (sx_mOk_2 (sx_mOk_3 yc_6 yd_43 rfl (by decide +kernel)))
theorem yp_ok28 : (sx_mOk yp_P yp_m28 && sx_rowsOk yp_P yp_m28) = true := sx_okOf rfl (sx_mOk_2 (sx_mOk_3 yc_10 yd_2 rfl (by decide +kernel)))
theorem yp_ok29 : (sx_mOk yp_P yp_m29 && sx_rowsOk yp_P yp_m29) = true := sx_okOf rfl (sx_mOk_2 (sx_mOk_3 yc_10 yd_10 rfl (by decide +kernel)))
theorem yp_ok30 : (sx_mOk yp_P yp_m30 && sx_rowsOk yp_P yp_m30) = true := sx_okOf rfl (sx_mOk_2 (sx_mOk_3 yc_10 yd_1 rfl (by decide +kernel)))
theorem yp_ok31 : (sx_mOk yp_P yp_m31 && sx_rowsOk yp_P yp_m31) = true := sx_okOf rfl (sx_mOk_2 (sx_mOk_3 yc_6 yd_43 rfl (by decide +kernel)))
theorem yp_ok32 : (sx_mOk yp_P yp_m32 && sx_rowsOk yp_P yp_m32) = true := sx_okOf rfl (sx_mOk_2 (sx_mOk_3 yc_6 yd_43 rfl (by decide +kernel)))
theorem yp_ok33 : (sx_mOk yp_P yp_m33 && sx_rowsOk yp_P yp_m33) = true := sx_okOf rfl (sx_mOk_2 (sx_mOk_3 yc_6 yd_43 rfl (by decide +kernel)))
theorem yp_ok34 : (sx_mOk yp_P yp_m34 && sx_rowsOk yp_P yp_m34) = true := sx_okOf rfl (sx_mOk_2 (sx_mOk_3 yc_10 yd_2 rfl (by decide +kernel)))
theorem yp_ok35 : (sx_mOk yp_P yp_m35 && sx_rowsOk yp_P yp_m35) = true := sx_okOf rfl (sx_mOk_2 (sx_mOk_3 yc_10 yd_3 rfl (by decide +kernel)))
theorem yp_ok36 : (sx_mOk yp_P yp_m36 && sx_rowsOk yp_P yp_m36) = true := sx_okOf rfl (sx_mOk_2 (sx_mOk_3 yc_5 yd_7 rfl (by decide +kernel)))
theorem yp_ok37 : (sx_mOk yp_P yp_m37 && sx_rowsOk yp_P yp_m37) = true := sx_okOf rfl (sx_mOk_2 (sx_mOk_3 yc_10 yd_6 rfl (by decide +kernel)))
theorem yp_ok38 : (sx_mOk yp_P yp_m38 && sx_rowsOk yp_P yp_m38) = true := sx_okOf rfl (sx_mOk_2 (sx_mOk_3 yc_6 yd_6 rfl (by decide +kernel)))
theorem yp_ok39 : (sx_mOk yp_P yp_m39 && sx_rowsOk yp_P yp_m39) = true := sx_okOf rfl (sx_mOk_2 (sx_mOk_3 yc_6 yd_6 rfl (by decide +kernel)))
theorem yp_ok40 : (sx_mOk yp_P yp_m40 && sx_rowsOk yp_P yp_m40) = true := sx_okOf rfl (sx_mOk_2 (sx_mOk_3 yc_6 yd_6 rfl (by decide +kernel)))
theorem yp_ok41 : (sx_mOk yp_P yp_m41 && sx_rowsOk yp_P yp_m41) = true := sx_okOf rfl (sx_mOk_2 (sx_mOk_3 yc_6 yd_43 rfl (by decide +kernel)))
theorem yp_ok42 : (sx_mOk yp_P yp_m42 && sx_rowsOk yp_P yp_m42) = true := sx_okOf rfl (sx_mOk_2 (sx_mOk_3 yc_6 yd_43 rfl (by decide +kernel)))
theorem yp_ok43 : (sx_mOk yp_P yp_m43 && sx_rowsOk yp_P yp_m43) = true := sx_okOf rfl (sx_mOk_2 (sx_mOk_3 yc_6 yd_43 rfl (by decide +kernel)))
theorem yp_ok44 : (sx_mOk yp_P yp_m44 && sx_rowsOk yp_P yp_m44) = true := sx_okOf rfl (sx_mOk_2 (sx_mOk_3 yc_5 yd_5 rfl (by decide +kernel)))
theorem yp_ok45 : (sx_mOk yp_P yp_m45 && sx_rowsOk yp_P yp_m45) = true := sx_okOf rfl (sx_mOk_2 (sx_mOk_3 yc_5 yd_12 rfl (by decide +kernel)))
theorem yp_ok46 : (sx_mOk yp_P yp_m46 && sx_rowsOk yp_P yp_m46) = true := sx_okOf rfl (sx_mOk_2 (sx_mOk_3 yc_10 yd_2 rfl (by decide +kernel)))
theorem yp_ok47 : (sx_mOk yp_P yp_m47 && sx_rowsOk yp_P yp_m47) = true := sx_okOf rfl (sx_mOk_2 (sx_mOk_3 yc_5 yd_40 rfl (by decide +kernel)))
theorem yp_ok48 : (sx_mOk yp_P yp_m48 && sx_rowsOk yp_P yp_m48) = true := sx_okOf rfl (sx_mOk_2 (sx_mOk_3 yc_0 yd_3 rfl (by decide +kernel)))
theorem yp_ok49 : (sx_mOk yp_P yp_m49 && sx_rowsOk yp_P yp_m49) = true := sx_okOf rfl (sx_mOk_2 (sx_mOk_3 yc_3 yd_42 rfl (by decide +kernel)))
theorem yp_ok50 : (sx_mOk yp_P yp_m50 && sx_rowsOk yp_P yp_m50) = true := sx_okOf rfl (sx_mOk_2 (sx_mOk_3 yc_3 yd_42 rfl (by decide +kernel)))
theorem yp_ok51 : (sx_mOk yp_P yp_m51 && sx_rowsOk yp_P yp_m51) = true := sx_okOf rfl (sx_mOk_2 (sx_mOk_3 yc_3 yd_6 rfl (by decide +kernel)))
theorem yp_ok52 : (sx_mOk yp_P yp_m52 && sx_rowsOk yp_P yp_m52) = true := sx_okOf rfl (sx_mOk_2 (sx_mOk_3 yc_3 yd_42 rfl (by decide +kernel)))
theorem yp_ok53 : (sx_mOk yp_P yp_m53 && sx_rowsOk yp_P yp_m53) = true := sx_okOf rfl (sx_mOk_2 (sx_mOk_3 yc_3 yd_36 rfl (by decide +kernel)))
theorem yp_ok54 : (sx_mOk yp_P yp_m54 && sx_rowsOk yp_P yp_m54) = true := sx_okOf rfl (sx_mOk_2 (sx_mOk_3 yc_3 yd_36 rfl (by decide +kernel)))
theorem yp_ok55 : (sx_mOk yp_P yp_m55 && sx_rowsOk yp_P yp_m55) = true := sx_okOf rfl (sx_mOk_2 (sx_mOk_3 yc_5 yd_27 rfl (by decide +kernel)))
theorem yp_ok56 : (sx_mOk yp_P yp_m56 && sx_rowsOk yp_P yp_m56) = true := sx_okOf rfl (sx_mOk_2 (sx_mOk_3 yc_5 yd_12 rfl (by decide +kernel)))
theorem yp_ok57 : (sx_mOk yp_P yp_m57 && sx_rowsOk yp_P yp_m57) = true := sx_okOf rfl (sx_mOk_2 (sx_mOk_3 yc_5 yd_20 rfl (by decide +kernel)))
theorem yp_ok58 : (sx_mOk yp_P yp_m58 && sx_rowsOk yp_P yp_m58) = true := sx_okOf rfl (sx_mOk_2 (sx_mOk_3 yc_5 yd_23 rfl (by decide +kernel)))
theorem yp_ok59 : (sx_mOk yp_P yp_m59 && sx_rowsOk yp_P yp_m59) = true := sx_okOf rfl (sx_mOk_2 (sx_mOk_3 yc_5 yd_20 rfl (by decide +kernel)))
theorem yp_ok60 : (sx_mOk yp_P yp_m60 && sx_rowsOk yp_P yp_m60) = true := sx_okOf rfl (sx_mOk_2 (sx_mOk_3 yc_1 yd_4 rfl (by decide +kernel)))
theorem yp_ok61 : (sx_mOk yp_P yp_m61 && sx_rowsOk yp_P yp_m61) = true := sx_okOf rfl (sx_mOk_2 (sx_mOk_3 yc_13 yd_17 rfl (by decide +kernel)))
theorem yp_ok62 : (sx_mOk yp_P yp_m62 && sx_rowsOk yp_P yp_m62) = true := sx_okOf rfl (sx_mOk_2 (sx_mOk_3 yc_1 yd_3 rfl (by decide +kernel)))
theorem yp_ok63 : (sx_mOk yp_P yp_m63 && sx_rowsOk yp_P yp_m63) = true := sx_okOf rfl (sx_mOk_2 (sx_mOk_3 yc_12 yd_3 rfl (by decide +kernel)))
theorem yp_ok64 : (sx_mOk yp_P yp_m64 && sx_rowsOk yp_P yp_m64) = true := sx_okOf rfl (sx_mOk_2 (sx_mOk_3 yc_1 yd_17 rfl (by decide +kernel)))
theorem yp_ok65 : (sx_mOk yp_P yp_m65 && sx_rowsOk yp_P yp_m65) = true := sx_okOf rfl (sx_mOk_2 (sx_mOk_3 yc_5 yd_10 rfl (by decide +kernel)))
theorem yp_ok66 : (sx_mOk yp_P yp_m66 && sx_rowsOk yp_P yp_m66) = true := sx_okOf rfl (sx_mOk_2 (sx_mOk_3 yc_5 yd_11 rfl (by decide +kernel)))
theorem yp_ok67 : (sx_mOk yp_P yp_m67 && sx_rowsOk yp_P yp_m67) = true := sx_okOf rfl (sx_mOk_2 (sx_mOk_3 yc_3 yd_21 rfl (by decide +kernel)))
theorem yp_ok68 : (sx_mOk yp_P yp_m68 && sx_rowsOk yp_P yp_m68) = true := sx_okOf rfl (sx_mOk_2 (sx_mOk_3 yc_1 yd_12 rfl (by decide +kernel)))
end
section
/-! methods of the table, checked by the kernel -/
theorem yp_ok69 : (sx_mOk yp_P yp_m69 && sx_rowsOk yp_P yp_m69) = true := sx_okOf rfl (sx_mOk_2 (sx_mOk_3 yc_1 yd_9 rfl (by decide +kernel)))
theorem yp_ok70 : (sx_mOk yp_P yp_m70 && sx_rowsOk yp_P yp_m70) = true := sx_okOf rfl (sx_mOk_2 (sx_mOk_3 yc_0 yd_3 rfl (by decide +kernel)))
theorem yp_ok71 : (sx_mOk yp_P yp_m71 && sx_rowsOk yp_P yp_m71) = true := sx_okOf rfl (sx_mOk_2 (sx_mOk_3 yc_1 yd_19 rfl (by decide +kernel)))
theorem yp_ok72 : (sx_mOk yp_P yp_m72 && sx_rowsOk yp_P yp_m72) = true := sx_okOf rfl (sx_mOk_2 (sx_mOk_3 yc_0 yd_7 rfl (by decide +kernel)))
theorem yp_ok73 : (sx_mOk yp_P yp_m73 && sx_rowsOk yp_P yp_m73) = true := sx_okOf rfl (sx_mOk_2 (sx_mOk_3 yc_1 yd_6 rfl (by decide +kernel)))
theorem yp_ok74 : (sx_mOk yp_P yp_m74 && sx_rowsOk yp_P yp_m74) = true := sx_okOf rfl (sx_mOk_2 (sx_mOk_3 yc_1 yd_7 rfl (by decide +kernel)))
theorem yp_ok75 : (sx_mOk yp_P yp_m75 && sx_rowsOk yp_P yp_m75) = true := sx_okOf rfl (sx_mOk_2 (sx_mOk_3 yc_0 yd_7 rfl (by decide +kernel)))
theorem yp_ok76 : (sx_mOk yp_P yp_m76 && sx_rowsOk yp_P yp_m76) = true := sx_okOf rfl (sx_mOk_2 (sx_mOk_3 yc_1 yd_4 rfl (by decide +kernel)))
theorem yp_ok77 : (sx_mOk yp_P yp_m77 && sx_rowsOk yp_P yp_m77) = true := sx_okOf rfl (sx_mOk_2 (sx_mOk_3 yc_1 yd_3 rfl (by decide +kernel)))
theorem yp_ok78 : (sx_mOk yp_P yp_m78 && sx_rowsOk yp_P yp_m78) = true := sx_okOf rfl (sx_mOk_2 (sx_mOk_3 yc_1 yd_4 rfl (by decide +kernel)))
theorem yp_ok79 : (sx_mOk yp_P yp_m79 && sx_rowsOk yp_P yp_m79) = true := sx_okOf rfl (sx_mOk_2 (sx_mOk_3 yc_1 yd_6 rfl (by decide +kernel)))
theorem yp_ok80 : (sx_mOk yp_P yp_m80 && sx_rowsOk yp_P yp_m80) = true := sx_okOf rfl (sx_mOk_2 (sx_mOk_3 yc_0 yd_7 rfl (by decide +kernel)))
theorem yp_ok81 : (sx_mOk yp_P yp_m81 && sx_rowsOk yp_P yp_m81) = true := sx_okOf rfl (sx_mOk_2 (sx_mOk_3 yc_0 yd_7 rfl (by decide +kernel)))
theorem yp_ok82 : (sx_mOk yp_P yp_m82 && sx_rowsOk yp_P yp_m82) = true := sx_okOf rfl (sx_mOk_2 (sx_mOk_3 yc_5 yd_28 rfl (by decide +kernel)))
theorem yp_ok83 : (sx_mOk yp_P yp_m83 && sx_rowsOk yp_P yp_m83) = true := sx_okOf rfl (sx_mOk_2 (sx_mOk_3 yc_5 yd_3 rfl (by decide +kernel)))
theorem yp_ok84 : (sx_mOk yp_P yp_m84 && sx_rowsOk yp_P yp_m84) = true := sx_okOf rfl (sx_mOk_2 (sx_mOk_3 yc_0 yd_11 rfl (by decide +kernel)))
theorem yp_ok85 : (sx_mOk yp_P yp_m85 && sx_rowsOk yp_P yp_m85) = true := sx_okOf rfl (sx_mOk_2 (sx_mOk_3 yc_0 yd_3 rfl (by decide +kernel)))
theorem yp_ok86 : (sx_mOk yp_P yp_m86 && sx_rowsOk yp_P yp_m86) = true := sx_okOf rfl (sx_mOk_2 (sx_mOk_3 yc_7 yd_20 rfl (by decide +kernel)))
theorem yp_ok87 : (sx_mOk yp_P yp_m87 && sx_rowsOk yp_P yp_m87) = true := sx_okOf rfl (sx_mOk_2 (sx_mOk_3 yc_7 yd_30 rfl (by decide +kernel)))
theorem yp_ok88 : (sx_mOk yp_P yp_m88 && sx_rowsOk yp_P yp_m88) = true := sx_okOf rfl (sx_mOk_2 (sx_mOk_3 yc_7 yd_25 rfl (by decide +kernel)))
theorem yp_ok89 : (sx_mOk yp_P yp_m89 && sx_rowsOk yp_P yp_m89) = true := sx_okOf rfl (sx_mOk_2 (sx_mOk_3 yc_0 yd_11 rfl (by decide +kernel)))
theorem yp_ok90 : (sx_mOk yp_P yp_m90 && sx_rowsOk yp_P yp_m90) = true := sx_okOf rfl (sx_mOk_2 (sx_mOk_3 yc_7 yd_21 rfl (by decide +kernel)))
theorem yp_ok91 : (sx_mOk yp_P yp_m91 && sx_rowsOk yp_P yp_m91) = true := sx_okOf rfl (sx_mOk_2 (sx_mOk_3 yc_7 yd_31 rfl (by decide +kernel)))
theorem yp_ok92 : (sx_mOk yp_P yp_m92 && sx_rowsOk yp_P yp_m92) = true := sx_okOf rfl (sx_mOk_2 (sx_mOk_3 yc_7 yd_3 rfl (by decide +kernel)))
theorem yp_ok93 : (sx_mOk yp_P yp_m93 && sx_rowsOk yp_P yp_m93) = true := sx_okOf rfl (sx_mOk_2 (sx_mOk_3 yc_7 yd_0 rfl (by decide +kernel)))
theorem yp_ok94 : (sx_mOk yp_P yp_m94 && sx_rowsOk yp_P yp_m94) = true := sx_okOf rfl (sx_mOk_2 (sx_mOk_3 yc_7 yd_6 rfl (by decide +kernel)))
theorem yp_ok95 : (sx_mOk yp_P yp_m95 && sx_rowsOk yp_P yp_m95) = true := sx_okOf rfl (sx_mOk_2 (sx_mOk_3 yc_0 yd_7 rfl (by decide +kernel)))
theorem yp_ok96 : (sx_mOk yp_P yp_m96 && sx_rowsOk yp_P yp_m96) = true := sx_okOf rfl (sx_mOk_2 (sx_mOk_3 yc_7 yd_23 rfl (by decide +kernel)))
theorem yp_ok97 : (sx_mOk yp_P yp_m97 && sx_rowsOk yp_P yp_m97) = true := sx_okOf rfl (sx_mOk_2 (sx_mOk_3 yc_7 yd_20 rfl (by decide +kernel)))
theorem yp_ok98 : (sx_mOk yp_P yp_m98 && sx_rowsOk yp_P yp_m98) = true := sx_okOf rfl (sx_mOk_2 (sx_mOk_3 yc_1 yd_8 rfl (by decide +kernel)))
theorem yp_ok99 : (sx_mOk yp_P yp_m99 && sx_rowsOk yp_P yp_m99) = true := sx_okOf rfl (sx_mOk_2 (sx_mOk_3 yc_0 yd_11 rfl (by decide +kernel)))
theorem yp_ok100 : (sx_mOk yp_P yp_m100 && sx_rowsOk yp_P yp_m100) = true := sx_okOf rfl (sx_mOk_2 (sx_mOk_3 yc_8 yd_37 rfl (by decide +kernel)))
theorem yp_ok101 : (sx_mOk yp_P yp_m101 && sx_rowsOk yp_P yp_m101) = true := sx_okOf rfl (sx_mOk_2 (sx_mOk_3 yc_8 yd_6 rfl (by decide +kernel)))
theorem yp_ok102 : (sx_mOk yp_P yp_m102 && sx_rowsOk yp_P yp_m102) = true := sx_okOf rfl (sx_mOk_2 (sx_mOk_3 yc_8 yd_9 rfl (by decide +kernel)))
theorem yp_ok103 : (sx_mOk yp_P yp_m103 && sx_rowsOk yp_P yp_m103) = true := sx_okOf rfl (sx_mOk_2 (sx_mOk_3 yc_0 yd_11 rfl (by decide +kernel)))
theorem yp_ok104 : (sx_mOk yp_P yp_m104 && sx_rowsOk yp_P yp_m104) = true := sx_okOf rfl (sx_mOk_2 (sx_mOk_3 yc_8 yd_23 rfl (by decide +kernel)))
theorem yp_ok105 : (sx_mOk yp_P yp_m105 && sx_rowsOk yp_P yp_m105) = true := sx_okOf rfl (sx_mOk_2 (sx_mOk_3 yc_8 yd_3 rfl (by decide +kernel)))
theorem yp_ok106 : (sx_mOk yp_P yp_m106 && sx_rowsOk yp_P yp_m106) = true := sx_okOf rfl (sx_mOk_2 (sx_mOk_3 yc_0 yd_7 rfl (by decide +kernel)))
theorem yp_ok107 : (sx_mOk yp_P yp_m107 && sx_rowsOk yp_P yp_m107) = true := sx_okOf rfl (sx_mOk_2 (sx_mOk_3 yc_0 yd_11 rfl (by decide +kernel)))
theorem yp_ok108 : (sx_mOk yp_P yp_m108 && sx_rowsOk yp_P yp_m108) = true := sx_okOf rfl (sx_mOk_2 (sx_mOk_3 yc_4 yd_39 rfl (by decide +kernel)))
theorem yp_ok109 : (sx_mOk yp_P yp_m109 && sx_rowsOk yp_P yp_m109) = true := sx_okOf rfl (sx_mOk_2 (sx_mOk_3 yc_4 yd_39 rfl (by decide +kernel)))
theorem yp_ok110 : (sx_mOk yp_P yp_m110 && sx_rowsOk yp_P yp_m110) = true := sx_okOf rfl (sx_mOk_2 (sx_mOk_3 yc_4 yd_35 rfl (by decide +kernel)))
theorem yp_ok111 : (sx_mOk yp_P yp_m111 && sx_rowsOk yp_P yp_m111) = true := sx_okOf rfl (sx_mOk_2 (sx_mOk_3 yc_4 yd_20 rfl (by decide +kernel)))
theorem yp_ok112 : (sx_mOk yp_P yp_m112 && sx_rowsOk yp_P yp_m112) = true := sx_okOf rfl (sx_mOk_2 (sx_mOk_3 yc_4 yd_7 rfl (by decide +kernel)))
theorem yp_ok113 : (sx_mOk yp_P yp_m113 && sx_rowsOk yp_P yp_m113) = true := sx_okOf rfl (sx_mOk_2 (sx_mOk_3 yc_4 yd_7 rfl (by decide +kernel)))
theorem yp_ok114 : (sx_mOk yp_P yp_m114 && sx_rowsOk yp_P yp_m114) = true := sx_okOf rfl (sx_mOk_2 (sx_mOk_3 yc_4 yd_11 rfl (by decide +kernel)))
theorem yp_ok115 : (sx_mOk yp_P yp_m115 && sx_rowsOk yp_P yp_m115) = true := sx_okOf rfl (sx_mOk_2 (sx_mOk_3 yc_4 yd_12 rfl (by decide +kernel)))
theorem yp_ok116 : (sx_mOk yp_P yp_m116 && sx_rowsOk yp_P yp_m116) = true := sx_okOf rfl (sx_mOk_2 (sx_mOk_3 yc_4 yd_5 rfl (by decide +kernel)))
theorem yp_ok117 : (sx_mOk yp_P yp_m117 && sx_rowsOk yp_P yp_m117) = true := sx_okOf rfl (sx_mOk_2 (sx_mOk_3 yc_4 yd_7 rfl (by decide +kernel)))
theorem yp_ok118 : (sx_mOk yp_P yp_m118 && sx_rowsOk yp_P yp_m118) = true := sx_okOf rfl (sx_mOk_2 (sx_mOk_3 yc_4 yd_3 rfl (by decide +kernel)))
theorem yp_ok119 : (sx_mOk yp_P yp_m119 && sx_rowsOk yp_P yp_m119) = true := sx_okOf rfl (sx_mOk_2 (sx_mOk_3 yc_4 yd_3 rfl (by decide +kernel)))
theorem yp_ok120 : (sx_mOk yp_P yp_m120 && sx_rowsOk yp_P yp_m120) = true := sx_okOf rfl (sx_mOk_2 (sx_mOk_3 yc_0 yd_7 rfl (by decide +kernel)))
theorem yp_ok121 : (sx_mOk yp_P yp_m121 && sx_rowsOk yp_P yp_m121) = true := sx_okOf rfl (sx_mOk_2 (sx_mOk_3 yc_4 yd_39 rfl (by decide +kernel)))
theorem yp_ok122 : (sx_mOk yp_P yp_m122 && sx_rowsOk yp_P yp_m122) = true := sx_okOf rfl (sx_mOk_2 (sx_mOk_3 yc_4 yd_33 rfl (by decide +kernel)))
theorem yp_ok123 : (sx_mOk yp_P yp_m123 && sx_rowsOk yp_P yp_m123) = true := sx_okOf rfl (sx_mOk_2 (sx_mOk_3 yc_4 yd_3 rfl (by decide +kernel)))
theorem yp_ok124 : (sx_mOk yp_P yp_m124 && sx_rowsOk yp_P yp_m124) = true := sx_okOf rfl (sx_mOk_2 (sx_mOk_3 yc_4 yd_7 rfl (by decide +kernel)))
theorem yp_ok125 : (sx_mOk yp_P yp_m125 && sx_rowsOk yp_P yp_m125) = true := sx_okOf rfl (sx_mOk_2 (sx_mOk_3 yc_4 yd_6 rfl (by decide +kernel)))
theorem yp_ok126 : (sx_mOk yp_P yp_m126 && sx_rowsOk yp_P yp_m126) = true := sx_okOf rfl (sx_mOk_2 (sx_mOk_3 yc_4 yd_0 rfl (by decide +kernel)))
theorem yp_ok127 : (sx_mOk yp_P yp_m127 && sx_rowsOk yp_P yp_m127) = true := sx_okOf rfl (sx_mOk_2 (sx_mOk_3 yc_0 yd_8 rfl (by decide +kernel)))
theorem yp_ok128 : (sx_mOk yp_P yp_m128 && sx_rowsOk yp_P yp_m128) = true := sx_okOf rfl (sx_mOk_2 (sx_mOk_3 yc_7 yd_18 rfl (by decide +kernel)))
theorem yp_ok129 : (sx_mOk yp_P yp_m129 && sx_rowsOk yp_P yp_m129) = true := sx_okOf rfl (sx_mOk_2 (sx_mOk_3 yc_7 yd_21 rfl (by decide +kernel)))
theorem yp_ok130 : (sx_mOk yp_P yp_m130 && sx_rowsOk yp_P yp_m130) = true := sx_okOf rfl (sx_mOk_2 (sx_mOk_3 yc_7 yd_18 rfl (by decide +kernel)))
theorem yp_ok131 : (sx_mOk yp_P yp_m131 && sx_rowsOk yp_P yp_m131) = true := sx_okOf rfl (sx_mOk_2 (sx_mOk_3 yc_7 yd_22 rfl (by decide +kernel)))
theorem yp_ok132 : (sx_mOk yp_P yp_m132 && sx_rowsOk yp_P yp_m132) = true := sx_okOf rfl (sx_mOk_2 (sx_mOk_3 yc_0 yd_3 rfl (by decide +kernel)))
theorem yp_ok133 : (sx_mOk yp_P yp_m133 && sx_rowsOk yp_P yp_m133) = true := sx_okOf rfl (sx_mOk_2 (sx_mOk_3 yc_0 yd_3 rfl (by decide +kernel)))
theorem yp_ok134 : (sx_mOk yp_P yp_m134 && sx_rowsOk yp_P yp_m134) = true := sx_okOf rfl (sx_mOk_2 (sx_mOk_3 yc_2 yd_34 rfl (by decide +kernel)))
theorem yp_ok135 : (sx_mOk yp_P yp_m135 && sx_rowsOk yp_P yp_m135) = true := sx_okOf rfl (sx_mOk_2 (sx_mOk_3 yc_2 yd_32 rfl (by decide +kernel)))
theorem yp_ok136 : (sx_mOk yp_P yp_m136 && sx_rowsOk yp_P yp_m136) = true := sx_okOf rfl (sx_mOk_2 (sx_mOk_3 yc_2 yd_33 rfl (by decide +kernel)))
theorem yp_ok137 : (sx_mOk yp_P yp_m137 && sx_rowsOk yp_P yp_m137) = true := sx_okOf rfl (sx_mOk_2 (sx_mOk_3 yc_0 yd_7 rfl (by decide +kernel)))
end
section
/-! methods of the table, checked by the kernel -/
theorem yp_ok138 : (sx_mOk yp_P yp_m138 && sx_rowsOk yp_P yp_m138) = true := sx_okOf rfl (sx_mOk_2 (sx_mOk_3 yc_1 yd_0 rfl (by decide +kernel)))
theorem yp_ok139 : (sx_mOk yp_P yp_m139 && sx_rowsOk yp_P yp_m139) = true := sx_okOf rfl (sx_mOk_2 (sx_mOk_3 yc_0 yd_7 rfl (by decide +kernel)))
theorem yp_ok140 : (sx_mOk yp_P yp_m140 && sx_rowsOk yp_P yp_m140) = true := sx_okOf rfl (sx_mOk_2 (sx_mOk_3 yc_3 yd_38 rfl (by decide +kernel)))
theorem yp_ok141 : (sx_mOk yp_P yp_m141 && sx_rowsOk yp_P yp_m141) = true := sx_okOf rfl (sx_mOk_2 (sx_mOk_3 yc_3 yd_24 rfl (by decide +kernel)))
theorem yp_ok142 : (sx_mOk yp_P yp_m142 && sx_rowsOk yp_P yp_m142) = true := sx_okOf rfl (sx_mOk_2 (sx_mOk_3 yc_3 yd_24 rfl (by decide +kernel)))
theorem yp_ok143 : (sx_mOk yp_P yp_m143 && sx_rowsOk yp_P yp_m143) = true := sx_okOf rfl (sx_mOk_2 (sx_mOk_3 yc_0 yd_11 rfl (by decide +kernel)))
theorem yp_ok144 : (sx_mOk yp_P yp_m144 && sx_rowsOk yp_P yp_m144) = true := sx_okOf rfl (sx_mOk_2 (sx_mOk_3 yc_7 yd_29 rfl (by decide +kernel)))
theorem yp_ok145 : (sx_mOk yp_P yp_m145 && sx_rowsOk yp_P yp_m145) = true := sx_okOf rfl (sx_mOk_2 (sx_mOk_3 yc_0 yd_11 rfl (by decide +kernel)))
theorem yp_ok146 : (sx_mOk yp_P yp_m146 && sx_rowsOk yp_P yp_m146) = true := sx_okOf rfl (sx_mOk_2 (sx_mOk_3 yc_7 yd_21 rfl (by decide +kernel)))
theorem yp_ok147 : (sx_mOk yp_P yp_m147 && sx_rowsOk yp_P yp_m147) = true := sx_okOf rfl (sx_mOk_2 (sx_mOk_3 yc_7 yd_5 rfl (by decide +kernel)))
theorem yp_ok148 : (sx_mOk yp_P yp_m148 && sx_rowsOk yp_P yp_m148) = true := sx_okOf rfl (sx_mOk_2 (sx_mOk_3 yc_7 yd_5 rfl (by decide +kernel)))
theorem yp_ok149 : (sx_mOk yp_P yp_m149 && sx_rowsOk yp_P yp_m149) = true := sx_okOf rfl (sx_mOk_2 (sx_mOk_3 yc_7 yd_7 rfl (by decide +kernel)))
theorem yp_ok150 : (sx_mOk yp_P yp_m150 && sx_rowsOk yp_P yp_m150) = true := sx_okOf rfl (sx_mOk_2 (sx_mOk_3 yc_7 yd_3 rfl (by decide +kernel)))
theorem yp_ok151 : (sx_mOk yp_P yp_m151 && sx_rowsOk yp_P yp_m151) = true := sx_okOf rfl (sx_mOk_2 (sx_mOk_3 yc_0 yd_11 rfl (by decide +kernel)))
theorem yp_ok152 : (sx_mOk yp_P yp_m152 && sx_rowsOk yp_P yp_m152) = true := sx_okOf rfl (sx_mOk_2 (sx_mOk_3 yc_7 yd_26 rfl (by decide +kernel)))
theorem yp_ok153 : (sx_mOk yp_P yp_m153 && sx_rowsOk yp_P yp_m153) = true := sx_okOf rfl (sx_mOk_2 (sx_mOk_3 yc_0 yd_6 rfl (by decide +kernel)))
theorem yp_ok154 : (sx_mOk yp_P yp_m154 && sx_rowsOk yp_P yp_m154) = true := sx_okOf rfl (sx_mOk_2 (sx_mOk_3 yc_0 yd_0 rfl (by decide +kernel)))
theorem yp_ok155 : (sx_mOk yp_P yp_m155 && sx_rowsOk yp_P yp_m155) = true := sx_okOf rfl (sx_mOk_2 (sx_mOk_3 yc_0 yd_2 rfl (by decide +kernel)))
theorem yp_ok156 : (sx_mOk yp_P yp_m156 && sx_rowsOk yp_P yp_m156) = true := sx_okOf rfl (sx_mOk_2 (sx_mOk_3 yc_0 yd_3 rfl (by decide +kernel)))
theorem yp_ok157 : (sx_mOk yp_P yp_m157 && sx_rowsOk yp_P yp_m157) = true := sx_okOf rfl (sx_mOk_2 (sx_mOk_3 yc_10 yd_3 rfl (by decide +kernel)))
theorem yp_ok158 : (sx_mOk yp_P yp_m158 && sx_rowsOk yp_P yp_m158) = true := sx_okOf rfl (sx_mOk_2 (sx_mOk_3 yc_0 yd_3 rfl (by decide +kernel)))
theorem yp_ok159 : (sx_mOk yp_P yp_m159 && sx_rowsOk yp_P yp_m159) = true := sx_okOf rfl (sx_mOk_2 (sx_mOk_3 yc_1 yd_0 rfl (by decide +kernel)))
theorem yp_ok160 : (sx_mOk yp_P yp_m160 && sx_rowsOk yp_P yp_m160) = true := sx_okOf rfl (sx_mOk_2 (sx_mOk_3 yc_11 yd_1 rfl (by decide +kernel)))
theorem yp_ok161 : (sx_mOk yp_P yp_m161 && sx_rowsOk yp_P yp_m161) = true := sx_okOf rfl (sx_mOk_2 (sx_mOk_3 yc_11 yd_10 rfl (by decide +kernel)))
theorem yp_ok162 : (sx_mOk yp_P yp_m162 && sx_rowsOk yp_P yp_m162) = true := sx_okOf rfl (sx_mOk_2 (sx_mOk_3 yc_11 yd_13 rfl (by decide +kernel)))
theorem yp_ok163 : (sx_mOk yp_P yp_m163 && sx_rowsOk yp_P yp_m163) = true := sx_okOf rfl (sx_mOk_2 (sx_mOk_3 yc_11 yd_15 rfl (by decide +kernel)))
theorem yp_ok164 : (sx_mOk yp_P yp_m164 && sx_rowsOk yp_P yp_m164) = true := sx_okOf rfl (sx_mOk_2 (sx_mOk_3 yc_11 yd_6 rfl (by decide +kernel)))
theorem yp_ok165 : (sx_mOk yp_P yp_m165 && sx_rowsOk yp_P yp_m165) = true := sx_okOf rfl (sx_mOk_2 (sx_mOk_3 yc_11 yd_10 rfl (by decide +kernel)))
theorem yp_ok166 : (sx_mOk yp_P yp_m166 && sx_rowsOk yp_P yp_m166) = true := sx_okOf rfl (sx_mOk_2 (sx_mOk_3 yc_11 yd_14 rfl (by decide +kernel)))
theorem yp_ok167 : (sx_mOk yp_P yp_m167 && sx_rowsOk yp_P yp_m167) = true := sx_okOf rfl (sx_mOk_2 (sx_mOk_3 yc_11 yd_5 rfl (by decide +kernel)))
theorem yp_ok168 : (sx_mOk yp_P yp_m168 && sx_rowsOk yp_P yp_m168) = true := sx_okOf rfl (sx_mOk_2 (sx_mOk_3 yc_11 yd_3 rfl (by decide +kernel)))
theorem yp_ok169 : (sx_mOk yp_P yp_m169 && sx_rowsOk yp_P yp_m169) = true := sx_okOf rfl (sx_mOk_2 (sx_mOk_3 yc_11 yd_2 rfl (by decide +kernel)))
theorem yp_ok170 : (sx_mOk yp_P yp_m170 && sx_rowsOk yp_P yp_m170) = true := sx_okOf rfl (sx_mOk_2 (sx_mOk_3 yc_11 yd_0 rfl (by decide +kernel)))
theorem yp_ok171 : (sx_mOk yp_P yp_m171 && sx_rowsOk yp_P yp_m171) = true := sx_okOf rfl (sx_mOk_2 (sx_mOk_3 yc_11 yd_6 rfl (by decide +kernel)))
theorem yp_ok172 : (sx_mOk yp_P yp_m172 && sx_rowsOk yp_P yp_m172) = true := sx_okOf rfl (sx_mOk_2 (sx_mOk_3 yc_11 yd_10 rfl (by decide +kernel)))
theorem yp_ok173 : (sx_mOk yp_P yp_m173 && sx_rowsOk yp_P yp_m173) = true := sx_okOf rfl (sx_mOk_2 (sx_mOk_3 yc_11 yd_2 rfl (by decide +kernel)))
theorem yp_ok174 : (sx_mOk yp_P yp_m174 && sx_rowsOk yp_P yp_m174) = true := sx_okOf rfl (sx_mOk_2 (sx_mOk_3 yc_11 yd_2 rfl (by decide +kernel)))
theorem yp_ok175 : (sx_mOk yp_P yp_m175 && sx_rowsOk yp_P yp_m175) = true := sx_okOf rfl (sx_mOk_2 (sx_mOk_3 yc_11 yd_6 rfl (by decide +kernel)))
theorem yp_ok176 : (sx_mOk yp_P yp_m176 && sx_rowsOk yp_P yp_m176) = true := sx_okOf rfl (sx_mOk_2 (sx_mOk_3 yc_11 yd_2 rfl (by decide +kernel)))
theorem yp_ok177 : (sx_mOk yp_P yp_m177 && sx_rowsOk yp_P yp_m177) = true := sx_okOf rfl (sx_mOk_2 (sx_mOk_3 yc_11 yd_2 rfl (by decide +kernel)))
theorem yp_ok178 : (sx_mOk yp_P yp_m178 && sx_rowsOk yp_P yp_m178) = true := sx_okOf rfl (sx_mOk_2 (sx_mOk_3 yc_11 yd_9 rfl (by decide +kernel)))
theorem yp_ok179 : (sx_mOk yp_P yp_m179 && sx_rowsOk yp_P yp_m179) = true := sx_okOf rfl (sx_mOk_2 (sx_mOk_3 yc_11 yd_3 rfl (by decide +kernel)))
theorem yp_ok180 : (sx_mOk yp_P yp_m180 && sx_rowsOk yp_P yp_m180) = true := sx_okOf rfl (sx_mOk_2 (sx_mOk_3 yc_11 yd_3 rfl (by decide +kernel)))
theorem yp_ok181 : (sx_mOk yp_P yp_m181 && sx_rowsOk yp_P yp_m181) = true := sx_okOf rfl (sx_mOk_2 (sx_mOk_3 yc_11 yd_44 rfl (by decide +kernel)))
theorem yp_ok182 : (sx_mOk yp_P yp_m182 && sx_rowsOk yp_P yp_m182) = true := sx_okOf rfl (sx_mOk_2 (sx_mOk_3 yc_11 yd_0 rfl (by decide +kernel)))
theorem yp_ok183 : (sx_mOk yp_P yp_m183 && sx_rowsOk yp_P yp_m183) = true := sx_okOf rfl (sx_mOk_2 (sx_mOk_3 yc_11 yd_6 rfl (by decide +kernel)))
theorem yp_ok184 : (sx_mOk yp_P yp_m184 && sx_rowsOk yp_P yp_m184) = true := sx_okOf rfl (sx_mOk_2 (sx_mOk_3 yc_11 yd_2 rfl (by decide +kernel)))
theorem yp_ok185 : (sx_mOk yp_P yp_m185 && sx_rowsOk yp_P yp_m185) = true := sx_okOf rfl (sx_mOk_2 (sx_mOk_3 yc_11 yd_2 rfl (by decide +kernel)))
theorem yp_ok186 : (sx_mOk yp_P yp_m186 && sx_rowsOk yp_P yp_m186) = true := sx_okOf rfl (sx_mOk_2 (sx_mOk_3 yc_11 yd_1 rfl (by decide +kernel)))
theorem yp_ok187 : (sx_mOk yp_P yp_m187 && sx_rowsOk yp_P yp_m187) = true := sx_okOf rfl (sx_mOk_2 (sx_mOk_3 yc_11 yd_44 rfl (by decide +kernel)))
theorem yp_ok188 : (sx_mOk yp_P yp_m188 && sx_rowsOk yp_P yp_m188) = true := sx_okOf rfl (sx_mOk_2 (sx_mOk_3 yc_11 yd_5 rfl (by decide +kernel)))
theorem yp_ok189 : (sx_mOk yp_P yp_m189 && sx_rowsOk yp_P yp_m189) = true := sx_okOf rfl (sx_mOk_2 (sx_mOk_3 yc_11 yd_6 rfl (by decide +kernel)))
theorem yp_ok190 : (sx_mOk yp_P yp_m190 && sx_rowsOk yp_P yp_m190) = true := sx_okOf rfl (sx_mOk_2 (sx_mOk_3 yc_11 yd_3 rfl (by decide +kernel)))
theorem yp_ok191 : (sx_mOk yp_P yp_m191 && sx_rowsOk yp_P yp_m191) = true := sx_okOf rfl (sx_mOk_2 (sx_mOk_3 yc_11 yd_6 rfl (by decide +kernel)))
theorem yp_ok192 : (sx_mOk yp_P yp_m192 && sx_rowsOk yp_P yp_m192) = true := sx_okOf rfl (sx_mOk_2 (sx_mOk_3 yc_11 yd_2 rfl (by decide +kernel)))
theorem yp_ok193 : (sx_mOk yp_P yp_m193 && sx_rowsOk yp_P yp_m193) = true := sx_okOf rfl (sx_mOk_2 (sx_mOk_3 yc_11 yd_6 rfl (by decide +kernel)))
theorem yp_ok194 : (sx_mOk yp_P yp_m194 && sx_rowsOk yp_P yp_m194) = true := sx_okOf rfl (sx_mOk_2 (sx_mOk_3 yc_11 yd_2 rfl (by decide +kernel)))
theorem yp_ok195 : (sx_mOk yp_P yp_m195 && sx_rowsOk yp_P yp_m195) = true := sx_okOf rfl (sx_mOk_2 (sx_mOk_3 yc_11 yd_6 rfl (by decide +kernel)))
theorem yp_ok196 : (sx_mOk yp_P yp_m196 && sx_rowsOk yp_P yp_m196) = true := sx_okOf rfl (sx_mOk_2 (sx_mOk_3 yc_11 yd_6 rfl (by decide +kernel)))
theorem yp_ok197 : (sx_mOk yp_P yp_m197 && sx_rowsOk yp_P yp_m197) = true := sx_okOf rfl (sx_mOk_2 (sx_mOk_3 yc_11 yd_13 rfl (by decide +kernel)))
theorem yp_ok198 : (sx_mOk yp_P yp_m198 && sx_rowsOk yp_P yp_m198) = true := sx_okOf rfl (sx_mOk_2 (sx_mOk_3 yc_11 yd_7 rfl (by decide +kernel)))
theorem yp_ok199 : (sx_mOk yp_P yp_m199 && sx_rowsOk yp_P yp_m199) = true := sx_okOf rfl (sx_mOk_2 (sx_mOk_3 yc_11 yd_7 rfl (by decide +kernel)))
theorem yp_ok200 : (sx_mOk yp_P yp_m200 && sx_rowsOk yp_P yp_m200) = true := sx_okOf rfl (sx_mOk_2 (sx_mOk_3 yc_11 yd_6 rfl (by decide +kernel)))
theorem yp_ok201 : (sx_mOk yp_P yp_m201 && sx_rowsOk yp_P yp_m201) = true := sx_okOf rfl (sx_mOk_2 (sx_mOk_3 yc_11 yd_13 rfl (by decide +kernel)))
theorem yp_ok202 : (sx_mOk yp_P yp_m202 && sx_rowsOk yp_P yp_m202) = true := sx_okOf rfl (sx_mOk_2 (sx_mOk_3 yc_11 yd_12 rfl (by decide +kernel)))
theorem yp_ok203 : (sx_mOk yp_P yp_m203 && sx_rowsOk yp_P yp_m203) = true := sx_okOf rfl (sx_mOk_2 (sx_mOk_3 yc_11 yd_5 rfl (by decide +kernel)))
theorem yp_ok204 : (sx_mOk yp_P yp_m204 && sx_rowsOk yp_P yp_m204) = true := sx_okOf rfl (sx_mOk_2 (sx_mOk_3 yc_11 yd_3 rfl (by decide +kernel)))
theorem yp_ok205 : (sx_mOk yp_P yp_m205 && sx_rowsOk yp_P yp_m205) = true := sx_okOf rfl (sx_mOk_2 (sx_mOk_3 yc_11 yd_10 rfl (by decide +kernel)))
theorem yp_ok206 : (sx_mOk yp_P yp_m206 && sx_rowsOk yp_P yp_m206) = true := sx_okOf rfl (sx_mOk_2 (sx_mOk_3 yc_11 yd_3 rfl (by decide +kernel)))
end
section
/-! methods of the table, checked by the kernel -/
theorem yp_ok207 : (sx_mOk yp_P yp_m207 && sx_rowsOk yp_P yp_m207) = true := sx_okOf rfl (sx_mOk_2 (sx_mOk_3 yc_11 yd_7 rfl (by decide +kernel)))
theorem yp_ok208 : (sx_mOk yp_P yp_m208 && sx_rowsOk yp_P yp_m208) = true := sx_okOf rfl (sx_mOk_2 (sx_mOk_3 yc_11 yd_7 rfl (by decide +kernel)))
theorem yp_ok209 : (sx_mOk yp_P yp_m209 && sx_rowsOk yp_P yp_m209) = true := sx_okOf rfl (sx_mOk_2 (sx_mOk_3 yc_11 yd_11 rfl (by decide +kernel)))
theorem yp_ok210 : (sx_mOk yp_P yp_m210 && sx_rowsOk yp_P yp_m210) = true := sx_okOf rfl (sx_mOk_2 (sx_mOk_3 yc_11 yd_9 rfl (by decide +kernel)))
theorem yp_ok211 : (sx_mOk yp_P yp_m211 && sx_rowsOk yp_P yp_m211) = true := sx_okOf rfl (sx_mOk_2 (sx_mOk_3 yc_11 yd_3 rfl (by decide +kernel)))
theorem yp_ok212 : (sx_mOk yp_P yp_m212 && sx_rowsOk yp_P yp_m212) = true := sx_okOf rfl (sx_mOk_2 (sx_mOk_3 yc_11 yd_45 rfl (by decide +kernel)))
theorem yp_ok213 : (sx_mOk yp_P yp_m213 && sx_rowsOk yp_P yp_m213) = true := sx_okOf rfl (sx_mOk_2 (sx_mOk_3 yc_11 yd_7 rfl (by decide +kernel)))
theorem yp_ok214 : (sx_mOk yp_P yp_m214 && sx_rowsOk yp_P yp_m214) = true := sx_okOf rfl (sx_mOk_2 (sx_mOk_3 yc_11 yd_2 rfl (by decide +kernel)))
theorem yp_ok215 : (sx_mOk yp_P yp_m215 && sx_rowsOk yp_P yp_m215) = true := sx_okOf rfl (sx_mOk_2 (sx_mOk_3 yc_11 yd_2 rfl (by decide +kernel)))
theorem yp_ok216 : (sx_mOk yp_P yp_m216 && sx_rowsOk yp_P yp_m216) = true := sx_okOf rfl (sx_mOk_2 (sx_mOk_3 yc_11 yd_9 rfl (by decide +kernel)))
theorem yp_ok217 : (sx_mOk yp_P yp_m217 && sx_rowsOk yp_P yp_m217) = true := sx_okOf rfl (sx_mOk_2 (sx_mOk_3 yc_11 yd_7 rfl (by decide +kernel)))
theorem yp_ok218 : (sx_mOk yp_P yp_m218 && sx_rowsOk yp_P yp_m218) = true := sx_okOf rfl (sx_mOk_2 (sx_mOk_3 yc_11 yd_7 rfl (by decide +kernel)))
theorem yp_ok219 : (sx_mOk yp_P yp_m219 && sx_rowsOk yp_P yp_m219) = true := sx_okOf rfl (sx_mOk_2 (sx_mOk_3 yc_11 yd_3 rfl (by decide +kernel)))
theorem yp_ok220 : (sx_mOk yp_P yp_m220 && sx_rowsOk yp_P yp_m220) = true := sx_okOf rfl (sx_mOk_2 (sx_mOk_3 yc_11 yd_10 rfl (by decide +kernel)))
theorem yp_ok221 : (sx_mOk yp_P yp_m221 && sx_rowsOk yp_P yp_m221) = true := sx_okOf rfl (sx_mOk_2 (sx_mOk_3 yc_11 yd_3 rfl (by decide +kernel)))
theorem yp_ok222 : (sx_mOk yp_P yp_m222 && sx_rowsOk yp_P yp_m222) = true := sx_okOf rfl (sx_mOk_2 (sx_mOk_3 yc_11 yd_7 rfl (by decide +kernel)))
theorem yp_ok223 : (sx_mOk yp_P yp_m223 && sx_rowsOk yp_P yp_m223) = true := sx_okOf rfl (sx_mOk_2 (sx_mOk_3 yc_11 yd_7 rfl (by decide +kernel)))
theorem yp_ok224 : (sx_mOk yp_P yp_m224 && sx_rowsOk yp_P yp_m224) = true := sx_okOf rfl (sx_mOk_2 (sx_mOk_3 yc_11 yd_7 rfl (by decide +kernel)))
theorem yp_ok225 : (sx_mOk yp_P yp_m225 && sx_rowsOk yp_P yp_m225) = true := sx_okOf rfl (sx_mOk_2 (sx_mOk_3 yc_11 yd_7 rfl (by decide +kernel)))
theorem yp_ok226 : (sx_mOk yp_P yp_m226 && sx_rowsOk yp_P yp_m226) = true := sx_okOf rfl (sx_mOk_2 (sx_mOk_3 yc_11 yd_11 rfl (by decide +kernel)))
theorem yp_ok227 : (sx_mOk yp_P yp_m227 && sx_rowsOk yp_P yp_m227) = true := sx_okOf rfl (sx_mOk_2 (sx_mOk_3 yc_11 yd_3 rfl (by decide +kernel)))
theorem yp_ok228 : (sx_mOk yp_P yp_m228 && sx_rowsOk yp_P yp_m228) = true := sx_okOf rfl (sx_mOk_2 (sx_mOk_3 yc_11 yd_13 rfl (by decide +kernel)))
theorem yp_ok229 : (sx_mOk yp_P yp_m229 && sx_rowsOk yp_P yp_m229) = true := sx_okOf rfl (sx_mOk_2 (sx_mOk_3 yc_11 yd_11 rfl (by decide +kernel)))
theorem yp_ok230 : (sx_mOk yp_P yp_m230 && sx_rowsOk yp_P yp_m230) = true := sx_okOf rfl (sx_mOk_2 (sx_mOk_3 yc_11 yd_10 rfl (by decide +kernel)))
theorem yp_ok231 : (sx_mOk yp_P yp_m231 && sx_rowsOk yp_P yp_m231) = true := sx_okOf rfl (sx_mOk_2 (sx_mOk_3 yc_11 yd_10 rfl (by decide +kernel)))
theorem yp_ok232 : (sx_mOk yp_P yp_m232 && sx_rowsOk yp_P yp_m232) = true := sx_okOf rfl (sx_mOk_2 (sx_mOk_3 yc_11 yd_7 rfl (by decide +kernel)))
theorem yp_ok233 : (sx_mOk yp_P yp_m233 && sx_rowsOk yp_P yp_m233) = true := sx_okOf rfl (sx_mOk_2 (sx_mOk_3 yc_11 yd_7 rfl (by decide +kernel)))
theorem yp_ok234 : (sx_mOk yp_P yp_m234 && sx_rowsOk yp_P yp_m234) = true := sx_okOf rfl (sx_mOk_2 (sx_mOk_3 yc_11 yd_10 rfl (by decide +kernel)))
theorem yp_ok235 : (sx_mOk yp_P yp_m235 && sx_rowsOk yp_P yp_m235) = true := sx_okOf rfl (sx_mOk_2 (sx_mOk_3 yc_11 yd_3 rfl (by decide +kernel)))
theorem yp_ok236 : (sx_mOk yp_P yp_m236 && sx_rowsOk yp_P yp_m236) = true := sx_okOf rfl (sx_mOk_2 (sx_mOk_3 yc_11 yd_11 rfl (by decide +kernel)))
theorem yp_ok237 : (sx_mOk yp_P yp_m237 && sx_rowsOk yp_P yp_m237) = true := sx_okOf rfl (sx_mOk_2 (sx_mOk_3 yc_11 yd_9 rfl (by decide +kernel)))
theorem yp_ok238 : (sx_mOk yp_P yp_m238 && sx_rowsOk yp_P yp_m238) = true := sx_okOf rfl (sx_mOk_2 (sx_mOk_3 yc_11 yd_11 rfl (by decide +kernel)))
theorem yp_ok239 : (sx_mOk yp_P yp_m239 && sx_rowsOk yp_P yp_m239) = true := sx_okOf rfl (sx_mOk_2 (sx_mOk_3 yc_11 yd_3 rfl (by decide +kernel)))
theorem yp_ok240 : (sx_mOk yp_P yp_m240 && sx_rowsOk yp_P yp_m240) = true := sx_okOf rfl (sx_mOk_2 (sx_mOk_3 yc_11 yd_3 rfl (by decide +kernel)))
theorem yp_ok241 : (sx_mOk yp_P yp_m241 && sx_rowsOk yp_P yp_m241) = true := sx_okOf rfl (sx_mOk_2 (sx_mOk_3 yc_11 yd_7 rfl (by decide +kernel)))
theorem yp_ok242 : (sx_mOk yp_P yp_m242 && sx_rowsOk yp_P yp_m242) = true := sx_okOf rfl (sx_mOk_2 (sx_mOk_3 yc_11 yd_11 rfl (by decide +kernel)))
theorem yp_ok243 : (sx_mOk yp_P yp_m243 && sx_rowsOk yp_P yp_m243) = true := sx_okOf rfl (sx_mOk_2 (sx_mOk_3 yc_11 yd_6 rfl (by decide +kernel)))
theorem yp_ok244 : (sx_mOk yp_P yp_m244 && sx_rowsOk yp_P yp_m244) = true := sx_okOf rfl (sx_mOk_2 (sx_mOk_3 yc_11 yd_7 rfl (by decide +kernel)))
theorem yp_ok245 : (sx_mOk yp_P yp_m245 && sx_rowsOk yp_P yp_m245) = true := sx_okOf rfl (sx_mOk_2 (sx_mOk_3 yc_11 yd_3 rfl (by decide +kernel)))
theorem yp_ok246 : (sx_mOk yp_P yp_m246 && sx_rowsOk yp_P yp_m246) = true := sx_okOf rfl (sx_mOk_2 (sx_mOk_3 yc_11 yd_11 rfl (by decide +kernel)))
theorem yp_ok247 : (sx_mOk yp_P yp_m247 && sx_rowsOk yp_P yp_m247) = true := sx_okOf rfl (sx_mOk_2 (sx_mOk_3 yc_11 yd_3 rfl (by decide +kernel)))
theorem yp_ok248 : (sx_mOk yp_P yp_m248 && sx_rowsOk yp_P yp_m248) = true := sx_okOf rfl (sx_mOk_2 (sx_mOk_3 yc_11 yd_7 rfl (by decide +kernel)))
theorem yp_ok249 : (sx_mOk yp_P yp_m249 && sx_rowsOk yp_P yp_m249) = true := sx_okOf rfl (sx_mOk_2 (sx_mOk_3 yc_11 yd_1 rfl (by decide +kernel)))
theorem yp_ok250 : (sx_mOk yp_P yp_m250 && sx_rowsOk yp_P yp_m250) = true := sx_okOf rfl (sx_mOk_2 (sx_mOk_3 yc_11 yd_7 rfl (by decide +kernel)))
theorem yp_ok251 : (sx_mOk yp_P yp_m251 && sx_rowsOk yp_P yp_m251) = true := sx_okOf rfl (sx_mOk_2 (sx_mOk_3 yc_11 yd_6 rfl (by decide +kernel)))
theorem yp_ok252 : (sx_mOk yp_P yp_m252 && sx_rowsOk yp_P yp_m252) = true := sx_okOf rfl (sx_mOk_2 (sx_mOk_3 yc_11 yd_8 rfl (by decide +kernel)))
theorem yp_ok253 : (sx_mOk yp_P yp_m253 && sx_rowsOk yp_P yp_m253) = true := sx_okOf rfl (sx_mOk_2 (sx_mOk_3 yc_11 yd_3 rfl (by decide +kernel)))
theorem yp_ok254 : (sx_mOk yp_P yp_m254 && sx_rowsOk yp_P yp_m254) = true := sx_okOf rfl (sx_mOk_2 (sx_mOk_3 yc_11 yd_7 rfl (by decide +kernel)))
theorem yp_ok255 : (sx_mOk yp_P yp_m255 && sx_rowsOk yp_P yp_m255) = true := sx_okOf rfl (sx_mOk_2 (sx_mOk_3 yc_11 yd_3 rfl (by decide +kernel)))
theorem yp_ok256 : (sx_mOk yp_P yp_m256 && sx_rowsOk yp_P yp_m256) = true := sx_okOf rfl (sx_mOk_2 (sx_mOk_3 yc_11 yd_3 rfl (by decide +kernel)))
theorem yp_ok257 : (sx_mOk yp_P yp_m257 && sx_rowsOk yp_P yp_m257) = true := sx_okOf rfl (sx_mOk_2 (sx_mOk_3 yc_11 yd_3 rfl (by decide +kernel)))
theorem yp_ok258 : (sx_mOk yp_P yp_m258 && sx_rowsOk yp_P yp_m258) = true := sx_okOf rfl (sx_mOk_2 (sx_mOk_3 yc_11 yd_5 rfl (by decide +kernel)))
theorem yp_ok259 : (sx_mOk yp_P yp_m259 && sx_rowsOk yp_P yp_m259) = true := sx_okOf rfl (sx_mOk_2 (sx_mOk_3 yc_11 yd_1 rfl (by decide +kernel)))
theorem yp_ok260 : (sx_mOk yp_P yp_m260 && sx_rowsOk yp_P yp_m260) = true := sx_okOf rfl (sx_mOk_2 (sx_mOk_3 yc_11 yd_5 rfl (by decide +kernel)))
theorem yp_ok261 : (sx_mOk yp_P yp_m261 && sx_rowsOk yp_P yp_m261) = true := sx_okOf rfl (sx_mOk_2 (sx_mOk_3 yc_11 yd_7 rfl (by decide +kernel)))
theorem yp_ok262 : (sx_mOk yp_P yp_m262 && sx_rowsOk yp_P yp_m262) = true := sx_okOf rfl (sx_mOk_2 (sx_mOk_3 yc_11 yd_0 rfl (by decide +kernel)))
theorem yp_ok263 : (sx_mOk yp_P yp_m263 && sx_rowsOk yp_P yp_m263) = true := sx_okOf rfl (sx_mOk_2 (sx_mOk_3 yc_11 yd_11 rfl (by decide +kernel)))
theorem yp_ok264 : (sx_mOk yp_P yp_m264 && sx_rowsOk yp_P yp_m264) = true := sx_okOf rfl (sx_mOk_2 (sx_mOk_3 yc_11 yd_11 rfl (by decide +kernel)))
theorem yp_ok265 : (sx_mOk yp_P yp_m265 && sx_rowsOk yp_P yp_m265) = true := sx_okOf rfl (sx_mOk_2 (sx_mOk_3 yc_11 yd_5 rfl (by decide +kernel)))
theorem yp_ok266 : (sx_mOk yp_P yp_m266 && sx_rowsOk yp_P yp_m266) = true := sx_okOf rfl (sx_mOk_2 (sx_mOk_3 yc_11 yd_10 rfl (by decide +kernel)))
theorem yp_ok267 : (sx_mOk yp_P yp_m267 && sx_rowsOk yp_P yp_m267) = true := sx_okOf rfl (sx_mOk_2 (sx_mOk_3 yc_11 yd_11 rfl (by decide +kernel)))
theorem yp_ok268 : (sx_mOk yp_P yp_m268 && sx_rowsOk yp_P yp_m268) = true := sx_okOf rfl (sx_mOk_2 (sx_mOk_3 yc_11 yd_6 rfl (by decide +kernel)))
theorem yp_ok269 : (sx_mOk yp_P yp_m269 && sx_rowsOk yp_P yp_m269) = true := sx_okOf rfl (sx_mOk_2 (sx_mOk_3 yc_11 yd_0 rfl (by decide +kernel)))
theorem yp_ok270 : (sx_mOk yp_P yp_m270 && sx_rowsOk yp_P yp_m270) = true := sx_okOf rfl (sx_mOk_2 (sx_mOk_3 yc_11 yd_0 rfl (by decide +kernel)))
theorem yp_ok271 : (sx_mOk yp_P yp_m271 && sx_rowsOk yp_P yp_m271) = true := sx_okOf rfl (sx_mOk_2 (sx_mOk_3 yc_11 yd_2 rfl (by decide +kernel)))
theorem yp_ok272 : (sx_mOk yp_P yp_m272 && sx_rowsOk yp_P yp_m272) = true := sx_okOf rfl (sx_mOk_2 (sx_mOk_3 yc_11 yd_3 rfl (by decide +kernel)))
theorem yp_ok273 : (sx_mOk yp_P yp_m273 && sx_rowsOk yp_P yp_m273) = true := sx_okOf rfl (sx_mOk_2 (sx_mOk_3 yc_11 yd_3 rfl (by decide +kernel)))
theorem yp_ok274 : (sx_mOk yp_P yp_m274 && sx_rowsOk yp_P yp_m274) = true := sx_okOf rfl (sx_mOk_2 (sx_mOk_3 yc_11 yd_3 rfl (by decide +kernel)))
theorem yp_ok275 : (sx_mOk yp_P yp_m275 && sx_rowsOk yp_P yp_m275) = true := sx_okOf rfl (sx_mOk_2 (sx_mOk_3 yc_11 yd_0 rfl (by decide +kernel)))
end
section
/-! the table as a whole -/
theorem sx_chunks {α : Type} (f : α → Bool) (n k : Nat) (l : List α) (hl : l.length ≤ n * k) (H : ∀ j, j < k → ((l.drop (n * j)).take n).all f = true) : ∀ x ∈ l, f x = true := by
  intro x hx
  obtain ⟨i, hi, rfl⟩ := List.mem_iff_getElem.mp hx
  have hn : 0 < n := by
    rcases Nat.eq_zero_or_pos n with h | h
    · rw [h, Nat.zero_mul] at hl
      omega
    · exact h
  have hj : i / n < k := Nat.div_lt_of_lt_mul (by omega)
  refine List.all_eq_true.mp (H (i / n) hj) _ (List.mem_of_getElem? (i := i % n) ?_)
  rw [List.getElem?_take_of_lt (Nat.mod_lt _ hn), List.getElem?_drop, Nat.div_add_mod]
  exact List.getElem?_eq_getElem hi
theorem yp_lr0 : ((yp_m276.2.2.2.2.2.2.2.drop 0).take 60).all (fun E => sx_rowOk yp_P yp_m276.1.cls (sx_isIni yp_m276) E) = true := by decide +kernel
theorem yp_lr1 : ((yp_m276.2.2.2.2.2.2.2.drop 60).take 60).all (fun E => sx_rowOk yp_P yp_m276.1.cls (sx_isIni yp_m276) E) = true := by decide +kernel
theorem yp_lr2 : ((yp_m276.2.2.2.2.2.2.2.drop 120).take 60).all (fun E => sx_rowOk yp_P yp_m276.1.cls (sx_isIni yp_m276) E) = true := by decide +kernel
theorem yp_lr3 : ((yp_m276.2.2.2.2.2.2.2.drop 180).take 60).all (fun E => sx_rowOk yp_P yp_m276.1.cls (sx_isIni yp_m276) E) = true := by decide +kernel
theorem yp_lr4 : ((yp_m276.2.2.2.2.2.2.2.drop 240).take 60).all (fun E => sx_rowOk yp_P yp_m276.1.cls (sx_isIni yp_m276) E) = true := by decide +kernel
theorem yp_lr5 : ((yp_m276.2.2.2.2.2.2.2.drop 300).take 60).all (fun E => sx_rowOk yp_P yp_m276.1.cls (sx_isIni yp_m276) E) = true := by decide +kernel
theorem yp_lr6 : ((yp_m276.2.2.2.2.2.2.2.drop 360).take 60).all (fun E => sx_rowOk yp_P yp_m276.1.cls (sx_isIni yp_m276) E) = true := by decide +kernel
theorem yp_lr7 : ((yp_m276.2.2.2.2.2.2.2.drop 420).take 60).all (fun E => sx_rowOk yp_P yp_m276.1.cls (sx_isIni yp_m276) E) = true := by decide +kernel
theorem yp_lr8 : ((yp_m276.2.2.2.2.2.2.2.drop 480).take 60).all (fun E => sx_rowOk yp_P yp_m276.1.cls (sx_isIni yp_m276) E) = true := by decide +kernel
theorem yp_lr9 : ((yp_m276.2.2.2.2.2.2.2.drop 540).take 60).all (fun E => sx_rowOk yp_P yp_m276.1.cls (sx_isIni yp_m276) E) = true := by decide +kernel
theorem yp_lr10 : ((yp_m276.2.2.2.2.2.2.2.drop 600).take 60).all (fun E => sx_rowOk yp_P yp_m276.1.cls (sx_isIni yp_m276) E) = true := by decide +kernel
theorem yp_lr11 : ((yp_m276.2.2.2.2.2.2.2.drop 660).take 60).all (fun E => sx_rowOk yp_P yp_m276.1.cls (sx_isIni yp_m276) E) = true := by decide +kernel
theorem yp_lr12 : ((yp_m276.2.2.2.2.2.2.2.drop 720).take 60).all (fun E => sx_rowOk yp_P yp_m276.1.cls (sx_isIni yp_m276) E) = true := by decide +kernel
theorem yp_lr13 : ((yp_m276.2.2.2.2.2.2.2.drop 780).take 60).all (fun E => sx_rowOk yp_P yp_m276.1.cls (sx_isIni yp_m276) E) = true := by decide +kernel
theorem yp_lr14 : ((yp_m276.2.2.2.2.2.2.2.drop 840).take 60).all (fun E => sx_rowOk yp_P yp_m276.1.cls (sx_isIni yp_m276) E) = true := by decide +kernel
theorem yp_lr15 : ((yp_m276.2.2.2.2.2.2.2.drop 900).take 60).all (fun E => sx_rowOk yp_P yp_m276.1.cls (sx_isIni yp_m276) E) = true := by decide +kernel
theorem yp_lawwalk : fwalk code code.data.toList 0 yp_m276.2.2.2.2.2.2.2 = true := by decide +kernel
theorem yp_lawlen : decide (yp_m276.2.2.2.2.2.2.2.length ≤ 60 * 16) = true := by decide +kernel
theorem yp_and {a b : Bool} (h : (a && b) = true) : a = true ∧ b = true := by simpa using h
set_option maxRecDepth 100000 in
theorem yp_all : ∀ M ∈ yp_P.2.2.2.1, sx_mOk yp_P M = true ∧ sx_rowsOk yp_P M = true := by
  show ∀ M ∈ yp_ms, _
  unfold yp_ms
  exact List.forall_mem_cons.mpr ⟨yp_and yp_ok0, List.forall_mem_cons.mpr ⟨yp_and yp_ok1, List.forall_mem_cons.mpr ⟨yp_and yp_ok2, List.forall_mem_cons.mpr ⟨yp_and yp_ok3, List.forall_mem_cons.mpr ⟨yp_and yp_ok4, List.forall_mem_cons.mpr ⟨yp_and yp_ok5, List.forall_mem_cons.mpr ⟨yp_and yp_ok6, List.forall_mem_cons.mpr ⟨yp_and yp_ok7, List.forall_mem_cons.mpr ⟨yp_and yp_ok8, List.forall_mem_cons.mpr ⟨yp_and yp_ok9, List.forall_mem_cons.mpr ⟨yp_and yp_ok10, List.forall_mem_cons.mpr ⟨yp_and yp_ok11, List.forall_mem_cons.mpr ⟨yp_and yp_ok12, List.forall_mem_cons.mpr ⟨yp_and yp_ok13, List.forall_mem_cons.mpr ⟨yp_and yp_ok14, List.forall_mem_cons.mpr ⟨yp_and yp_ok15, List.forall_mem_cons.mpr ⟨yp_and yp_ok16, List.forall_mem_cons.mpr ⟨yp_and yp_ok17, List.forall_mem_cons.mpr ⟨yp_and yp_ok18, List.forall_mem_cons.mpr ⟨yp_and yp_ok19, List.forall_mem_cons.mpr ⟨yp_and yp_ok20, List.forall_mem_cons.mpr ⟨yp_and yp_ok21, List.forall_mem_cons.mpr ⟨yp_and yp_ok22, List.forall_mem_cons.mpr ⟨yp_and yp_ok23, List.forall_mem_cons.mpr ⟨yp_and yp_ok24, List.forall_mem_cons.mpr ⟨yp_and yp_ok25, List.forall_mem_cons.mpr ⟨yp_and yp_ok26, List.forall_mem_cons.mpr ⟨yp_and yp_ok27, List.forall_mem_cons.mpr ⟨yp_and yp_ok28, List.forall_mem_cons.mpr ⟨yp_and yp_ok29, List.forall_mem_cons.mpr ⟨yp_and yp_ok30, List.forall_mem_cons.mpr ⟨yp_and yp_ok31, List.forall_mem_cons.mpr ⟨yp_and yp_ok32, List.forall_mem_cons.mpr ⟨yp_and yp_ok33, List.forall_mem_cons.mpr ⟨yp_and yp_ok34, List.forall_mem_cons.mpr ⟨yp_and yp_ok35, List.forall_mem_cons.mpr ⟨yp_and yp_ok36, List.forall_mem_cons.mpr ⟨yp_and yp_ok37, List.forall_mem_cons.mpr ⟨yp_and yp_ok38, List.forall_mem_cons.mpr ⟨yp_and yp_ok39, List.forall_mem_cons.mpr ⟨yp_and yp_ok40, List.forall_mem_cons.mpr ⟨yp_and yp_ok41, List.forall_mem_cons.mpr ⟨yp_and yp_ok42, List.forall_mem_cons.mpr ⟨yp_and yp_ok43, List.forall_mem_cons.mpr ⟨yp_and yp_ok44, List.forall_mem_cons.mpr ⟨yp_and yp_ok45, List.forall_mem_cons.mpr ⟨yp_and yp_ok46, List.forall_mem_cons.mpr ⟨yp_and yp_ok47, List.forall_mem_cons.mpr ⟨yp_and yp_ok48, List.forall_mem_cons.mpr ⟨yp_and yp_ok49, List.forall_mem_cons.mpr ⟨yp_and yp_ok50, List.forall_mem_cons.mpr ⟨yp_and yp_ok51, List.forall_mem_cons.mpr ⟨yp_and yp_ok52, List.forall_mem_cons.mpr ⟨yp_and yp_ok53, List.forall_mem_cons.mpr ⟨yp_and yp_ok54, List.forall_mem_cons.mpr ⟨yp_and yp_ok55, List.forall_mem_cons.mpr ⟨yp_and yp_ok56, List.forall_mem_cons.mpr ⟨yp_and yp_ok57, List.forall_mem_cons.mpr ⟨yp_and yp_ok58, List.forall_mem_cons.mpr ⟨yp_and yp_ok59, List.forall_mem_cons.mpr ⟨yp_and yp_ok60, List.forall_mem_cons.mpr ⟨yp_and yp_ok61, List.forall_mem_cons.mpr ⟨yp_and yp_ok62, List.forall_mem_cons.mpr ⟨yp_and yp_ok63, List.forall_mem_cons.mpr ⟨yp_and yp_ok64, List.forall_mem_cons.mpr ⟨yp_and yp_ok65, List.forall_mem_cons.mpr ⟨yp_and yp_ok66, List.forall_mem_cons.mpr ⟨yp_and yp_ok67, List.forall_mem_cons.mpr ⟨yp_and yp_ok68, List.forall_mem_cons.mpr ⟨yp_and yp_ok69, List.forall_mem_cons.mpr ⟨yp_and yp_ok70, List.forall_mem_cons.mpr ⟨yp_and yp_ok71, List.forall_mem_cons.mpr ⟨yp_and yp_ok72, List.forall_mem_cons.mpr ⟨yp_and yp_ok73, List.forall_mem_cons.mpr ⟨yp_and yp_ok74, List.forall_mem_cons.mpr ⟨yp_and yp_ok75, List.forall_mem_cons.mpr ⟨yp_and yp_ok76, List.forall_mem_cons.mpr ⟨yp_and yp_ok77, List.forall_mem_cons.mpr ⟨yp_and yp_ok78, List.forall_mem_cons.mpr ⟨yp_and yp_ok79, List.forall_mem_cons.mpr ⟨yp_and yp_ok80, List.forall_mem_cons.mpr ⟨yp_and yp_ok81, List.forall_mem_cons.mpr ⟨yp_and yp_ok82, List.forall_mem_cons.mpr ⟨yp_and yp_ok83, List.forall_mem_cons.mpr ⟨yp_and yp_ok84, List.forall_mem_cons.mpr ⟨yp_and yp_ok85, List.forall_mem_cons.mpr ⟨yp_and yp_ok86, List.forall_mem_cons.mpr ⟨yp_and yp_ok87, List.forall_mem_cons.mpr ⟨yp_and yp_ok88, List.forall_mem_cons.mpr ⟨yp_and yp_ok89, List.forall_mem_cons.mpr ⟨yp_and yp_ok90, List.forall_mem_cons.mpr ⟨yp_and yp_ok91, List.forall_mem_cons.mpr ⟨yp_and yp_ok92, List.forall_mem_cons.mpr ⟨yp_and yp_ok93, List.forall_mem_cons.mpr ⟨yp_and yp_ok94, List.forall_mem_cons.mpr ⟨yp_and yp_ok95, List.forall_mem_cons.mpr ⟨yp_and yp_ok96, List.forall_mem_cons.mpr ⟨yp_and yp_ok97, List.forall_mem_cons.mpr ⟨yp_and yp_ok98, List.forall_mem_cons.mpr ⟨yp_and yp_ok99, List.forall_mem_cons.mpr ⟨yp_and yp_ok100, List.forall_mem_cons.mpr ⟨yp_and yp_ok101, List.forall_mem_cons.mpr ⟨yp_and yp_ok102, List.forall_mem_cons.mpr ⟨yp_and yp_ok103, List.forall_mem_cons.mpr ⟨yp_and yp_ok104, List.forall_mem_cons.mpr ⟨yp_and yp_ok105, List.forall_mem_cons.mpr ⟨yp_and yp_ok106, List.forall_mem_cons.mpr ⟨yp_and yp_ok107, List.forall_mem_cons.mpr ⟨yp_and yp_ok108, List.forall_mem_cons.mpr ⟨yp_and yp_ok109, List.forall_mem_cons.mpr ⟨yp_and yp_ok110, List.forall_mem_cons.mpr ⟨yp_and yp_ok111, List.forall_mem_cons.mpr ⟨yp_and yp_ok112, List.forall_mem_cons.mpr ⟨yp_and yp_ok113, List.forall_mem_cons.mpr ⟨yp_and yp_ok114, List.forall_mem_cons.mpr ⟨yp_and yp_ok115, List.forall_mem_cons.mpr ⟨yp_and yp_ok116, List.forall_mem_cons.mpr ⟨yp_and yp_ok117, List.forall_mem_cons.mpr ⟨yp_and yp_ok118, List.forall_mem_cons.mpr ⟨yp_and yp_ok119, List.forall_mem_cons.mpr ⟨yp_and yp_ok120, List.forall_mem_cons.mpr ⟨yp_and yp_ok121, List.forall_mem_cons.mpr ⟨yp_and yp_ok122, List.forall_mem_cons.mpr ⟨yp_and yp_ok123, List.forall_mem_cons.mpr ⟨yp_and yp_ok124, List.forall_mem_cons.mpr ⟨yp_and yp_ok125, List.forall_mem_cons.mpr ⟨yp_and yp_ok126, List.forall_mem_cons.mpr ⟨yp_and yp_ok127, List.forall_mem_cons.mpr ⟨yp_and yp_ok128, List.forall_mem_cons.mpr ⟨yp_and yp_ok129, List.forall_mem_cons.mpr ⟨yp_and yp_ok130, List.forall_mem_cons.mpr ⟨yp_and yp_ok131, List.forall_mem_cons.mpr ⟨yp_and yp_ok132, List.forall_mem_cons.mpr ⟨yp_and yp_ok133, List.forall_mem_cons.mpr ⟨yp_and yp_ok134, List.forall_mem_cons.mpr ⟨yp_and yp_ok135, List.forall_mem_cons.mpr ⟨yp_and yp_ok136, List.forall_mem_cons.mpr ⟨yp_and yp_ok137, List.forall_mem_cons.mpr ⟨yp_and yp_ok138, List.forall_mem_cons.mpr ⟨yp_and yp_ok139, List.forall_mem_cons.mpr ⟨yp_and yp_ok140, List.forall_mem_cons.mpr ⟨yp_and yp_ok141, List.forall_mem_cons.mpr ⟨yp_and yp_ok142, List.forall_mem_cons.mpr ⟨yp_and yp_ok143, List.forall_mem_cons.mpr ⟨yp_and yp_ok144, List.forall_mem_cons.mpr ⟨yp_and yp_ok145, List.forall_mem_cons.mpr ⟨yp_and yp_ok146, List.forall_mem_cons.mpr ⟨yp_and yp_ok147, List.forall_mem_cons.mpr ⟨yp_and yp_ok148, List.forall_mem_cons.mpr ⟨yp_and yp_ok149, List.forall_mem_cons.mpr ⟨yp_and yp_ok150, List.forall_mem_cons.mpr ⟨yp_and yp_ok151, List.forall_mem_cons.mpr ⟨yp_and yp_ok152, List.forall_mem_cons.mpr ⟨yp_and yp_ok153, List.forall_mem_cons.mpr ⟨yp_and yp_ok154, List.forall_mem_cons.mpr ⟨yp_and yp_ok155, List.forall_mem_cons.mpr ⟨yp_and yp_ok156, List.forall_mem_cons.mpr ⟨yp_and yp_ok157, List.forall_mem_cons.mpr ⟨yp_and yp_ok158, List.forall_mem_cons.mpr ⟨yp_and yp_ok159, List.forall_mem_cons.mpr ⟨yp_and yp_ok160, List.forall_mem_cons.mpr ⟨yp_and yp_ok161, List.forall_mem_cons.mpr ⟨yp_and yp_ok162, List.forall_mem_cons.mpr ⟨yp_and yp_ok163, List.forall_mem_cons.mpr ⟨yp_and yp_ok164, List.forall_mem_cons.mpr ⟨yp_and yp_ok165, List.forall_mem_cons.mpr ⟨yp_and yp_ok166, List.forall_mem_cons.mpr ⟨yp_and yp_ok167, List.forall_mem_cons.mpr ⟨yp_and yp_ok168, List.forall_mem_cons.mpr ⟨yp_and yp_ok169, List.forall_mem_cons.mpr ⟨yp_and yp_ok170, List.forall_mem_cons.mpr ⟨yp_and yp_ok171, List.forall_mem_cons.mpr ⟨yp_and yp_ok172, List.forall_mem_cons.mpr ⟨yp_and yp_ok173, List.forall_mem_cons.mpr ⟨yp_and yp_ok174, List.forall_mem_cons.mpr ⟨yp_and yp_ok175, List.forall_mem_cons.mpr ⟨yp_and yp_ok176, List.forall_mem_cons.mpr ⟨yp_and yp_ok177, List.forall_mem_cons.mpr ⟨yp_and yp_ok178, List.forall_mem_cons.mpr ⟨yp_and yp_ok179, List.forall_mem_cons.mpr ⟨yp_and yp_ok180, List.forall_mem_cons.mpr ⟨yp_and yp_ok181, List.forall_mem_cons.mpr ⟨yp_and yp_ok182, List.forall_mem_cons.mpr ⟨yp_and yp_ok183, List.forall_mem_cons.mpr ⟨yp_and yp_ok184, List.forall_mem_cons.mpr ⟨yp_and yp_ok185, List.forall_mem_cons.mpr ⟨yp_and yp_ok186, List.forall_mem_cons.mpr ⟨yp_and yp_ok187, List.forall_mem_cons.mpr ⟨yp_and yp_ok188, List.forall_mem_cons.mpr ⟨yp_and yp_ok189, List.forall_mem_cons.mpr ⟨yp_and yp_ok190, List.forall_mem_cons.mpr ⟨yp_and yp_ok191, List.forall_mem_cons.mpr ⟨yp_and yp_ok192, List.forall_mem_cons.mpr ⟨yp_and yp_ok193, List.forall_mem_cons.mpr ⟨yp_and yp_ok194, List.forall_mem_cons.mpr ⟨yp_and yp_ok195, List.forall_mem_cons.mpr ⟨yp_and yp_ok196, List.forall_mem_cons.mpr ⟨yp_and yp_ok197, List.forall_mem_cons.mpr ⟨yp_and yp_ok198, List.forall_mem_cons.mpr ⟨yp_and yp_ok199, List.forall_mem_cons.mpr ⟨yp_and yp_ok200, List.forall_mem_cons.mpr ⟨yp_and yp_ok201, List.forall_mem_cons.mpr ⟨yp_and yp_ok202, List.forall_mem_cons.mpr ⟨yp_and yp_ok203, List.forall_mem_cons.mpr ⟨yp_and yp_ok204, List.forall_mem_cons.mpr ⟨yp_and yp_ok205, List.forall_mem_cons.mpr ⟨yp_and yp_ok206, List.forall_mem_cons.mpr ⟨yp_and yp_ok207, List.forall_mem_cons.mpr ⟨yp_and yp_ok208, List.forall_mem_cons.mpr ⟨yp_and yp_ok209, List.forall_mem_cons.mpr ⟨yp_and yp_ok210, List.forall_mem_cons.mpr ⟨yp_and yp_ok211, List.forall_mem_cons.mpr ⟨yp_and yp_ok212, List.forall_mem_cons.mpr ⟨yp_and yp_ok213, List.forall_mem_cons.mpr ⟨yp_and yp_ok214, List.forall_mem_cons.mpr ⟨yp_and yp_ok215, List.forall_mem_cons.mpr ⟨yp_and yp_ok216, List.forall_mem_cons.mpr ⟨yp_and yp_ok217, List.forall_mem_cons.mpr ⟨yp_and yp_ok218, List.forall_mem_cons.mpr ⟨yp_and yp_ok219, List.forall_mem_cons.mpr ⟨yp_and yp_ok220, List.forall_mem_cons.mpr ⟨yp_and yp_ok221, List.forall_mem_cons.mpr ⟨yp_and yp_ok222, List.forall_mem_cons.mpr ⟨yp_and yp_ok223, List.forall_mem_cons.mpr ⟨yp_and yp_ok224, List.forall_mem_cons.mpr ⟨yp_and yp_ok225, List.forall_mem_cons.mpr ⟨yp_and yp_ok226, List.forall_mem_cons.mpr ⟨yp_and yp_ok227, List.forall_mem_cons.mpr ⟨yp_and yp_ok228, List.forall_mem_cons.mpr ⟨yp_and yp_ok229, List.forall_mem_cons.mpr ⟨yp_and yp_ok230, List.forall_mem_cons.mpr ⟨yp_and yp_ok231, List.forall_mem_cons.mpr ⟨yp_and yp_ok232, List.forall_mem_cons.mpr ⟨yp_and yp_ok233, List.forall_mem_cons.mpr ⟨yp_and yp_ok234, List.forall_mem_cons.mpr ⟨yp_and yp_ok235, List.forall_mem_cons.mpr ⟨yp_and yp_ok236, List.forall_mem_cons.mpr ⟨yp_and yp_ok237, List.forall_mem_cons.mpr ⟨yp_and yp_ok238, List.forall_mem_cons.mpr ⟨yp_and yp_ok239, List.forall_mem_cons.mpr ⟨yp_and yp_ok240, List.forall_mem_cons.mpr ⟨yp_and yp_ok241, List.forall_mem_cons.mpr ⟨yp_and yp_ok242, List.forall_mem_cons.mpr ⟨yp_and yp_ok243, List.forall_mem_cons.mpr ⟨yp_and yp_ok244, List.forall_mem_cons.mpr ⟨yp_and yp_ok245, List.forall_mem_cons.mpr ⟨yp_and yp_ok246, List.forall_mem_cons.mpr ⟨yp_and yp_ok247, List.forall_mem_cons.mpr ⟨yp_and yp_ok248, List.forall_mem_cons.mpr ⟨yp_and yp_ok249, List.forall_mem_cons.mpr ⟨yp_and yp_ok250, List.forall_mem_cons.mpr ⟨yp_and yp_ok251, List.forall_mem_cons.mpr ⟨yp_and yp_ok252, List.forall_mem_cons.mpr ⟨yp_and yp_ok253, List.forall_mem_cons.mpr ⟨yp_and yp_ok254, List.forall_mem_cons.mpr ⟨yp_and yp_ok255, List.forall_mem_cons.mpr ⟨yp_and yp_ok256, List.forall_mem_cons.mpr ⟨yp_and yp_ok257, List.forall_mem_cons.mpr ⟨yp_and yp_ok258, List.forall_mem_cons.mpr ⟨yp_and yp_ok259, List.forall_mem_cons.mpr ⟨yp_and yp_ok260, List.forall_mem_cons.mpr ⟨yp_and yp_ok261, List.forall_mem_cons.mpr ⟨yp_and yp_ok262, List.forall_mem_cons.mpr ⟨yp_and yp_ok263, List.forall_mem_cons.mpr ⟨yp_and yp_ok264, List.forall_mem_cons.mpr ⟨yp_and yp_ok265, List.forall_mem_cons.mpr ⟨yp_and yp_ok266, List.forall_mem_cons.mpr ⟨yp_and yp_ok267, List.forall_mem_cons.mpr ⟨yp_and yp_ok268, List.forall_mem_cons.mpr ⟨yp_and yp_ok269, List.forall_mem_cons.mpr ⟨yp_and yp_ok270, List.forall_mem_cons.mpr ⟨yp_and yp_ok271, List.forall_mem_cons.mpr ⟨yp_and yp_ok272, List.forall_mem_cons.mpr ⟨yp_and yp_ok273, List.forall_mem_cons.mpr ⟨yp_and yp_ok274, List.forall_mem_cons.mpr ⟨yp_and yp_ok275, fun _ h => absurd h List.not_mem_nil⟩⟩⟩⟩⟩⟩⟩⟩⟩⟩⟩⟩⟩⟩⟩⟩⟩⟩⟩⟩⟩⟩⟩⟩⟩⟩⟩⟩⟩⟩⟩⟩⟩⟩⟩⟩⟩⟩⟩⟩⟩⟩⟩⟩⟩⟩⟩⟩⟩⟩⟩⟩⟩⟩⟩⟩⟩⟩⟩⟩⟩⟩⟩⟩⟩⟩⟩⟩⟩⟩⟩⟩⟩⟩⟩⟩⟩⟩⟩⟩⟩⟩⟩⟩⟩⟩⟩⟩⟩⟩⟩⟩⟩⟩⟩⟩⟩⟩⟩⟩⟩⟩⟩⟩⟩⟩⟩⟩⟩⟩⟩⟩⟩⟩⟩⟩⟩⟩⟩⟩⟩⟩⟩⟩⟩⟩⟩⟩⟩⟩⟩⟩⟩⟩⟩⟩⟩⟩⟩⟩⟩⟩⟩⟩⟩⟩⟩⟩⟩⟩⟩⟩⟩⟩⟩⟩⟩⟩⟩⟩⟩⟩⟩⟩⟩⟩⟩⟩⟩⟩⟩⟩⟩⟩⟩⟩⟩⟩⟩⟩⟩⟩⟩⟩⟩⟩⟩⟩⟩⟩⟩⟩⟩⟩⟩⟩⟩⟩⟩⟩⟩⟩⟩⟩⟩⟩⟩⟩⟩⟩⟩⟩⟩⟩⟩⟩⟩⟩⟩⟩⟩⟩⟩⟩⟩⟩⟩⟩⟩⟩⟩⟩⟩⟩⟩⟩⟩⟩⟩⟩⟩⟩⟩⟩⟩⟩⟩⟩⟩⟩⟩⟩⟩⟩⟩⟩⟩⟩⟩⟩⟩⟩⟩⟩⟩⟩⟩⟩⟩⟩⟩⟩⟩⟩⟩⟩
theorem yp_Pok : sx_Pok yp_P := ⟨yp_kind, yp_isnest, yp_all⟩
theorem yp_lawOk : sx_Mok yp_P yp_m276 := by
  intro E hE
  refine ⟨fwalk_ok (code := code) _ code.data.toList 0 yp_lawwalk rfl E hE, sx_chunks (fun E => sx_rowOk yp_P yp_m276.1.cls (sx_isIni yp_m276) E) 60 16 _ (of_decide_eq_true yp_lawlen) (fun j hj => ?_) E hE⟩
  match j, hj with
  | 0, _ => exact yp_lr0
  | 1, _ => exact yp_lr1
  | 2, _ => exact yp_lr2
  | 3, _ => exact yp_lr3
  | 4, _ => exact yp_lr4
  | 5, _ => exact yp_lr5
  | 6, _ => exact yp_lr6
  | 7, _ => exact yp_lr7
  | 8, _ => exact yp_lr8
  | 9, _ => exact yp_lr9
  | 10, _ => exact yp_lr10
  | 11, _ => exact yp_lr11
  | 12, _ => exact yp_lr12
  | 13, _ => exact yp_lr13
  | 14, _ => exact yp_lr14
  | 15, _ => exact yp_lr15
  | n + 16, h => omega
end
