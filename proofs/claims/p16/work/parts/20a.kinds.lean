/-! the table is as the tables' words say: checked by the kernel -/
def sx_layChk (P : sx_P) (q : vw_C) (k : Nat) : List Nat → Bool
  | [] => decide (q.2.2 = k)
  | p :: ps => sx_wd P p (u_lay q.1 q.2.1 k) && sx_layChk P q (k + 1) ps
theorem sx_layChk_ok {P : sx_P} {q : vw_C} : ∀ (ps : List Nat) (k : Nat), sx_layChk P q k ps = true → ∀ j, k ≤ j → j < q.2.2 → u_lay q.1 q.2.1 j ∈ P.1.flatten ∧ goodWord (u_lay q.1 q.2.1 j) = true
  | [], k, h, j, h1, h2 => by
    have : q.2.2 = k := by simpa [sx_layChk] using h
    omega
  | p :: ps, k, h, j, h1, h2 => by
    simp only [sx_layChk, Bool.and_eq_true] at h
    by_cases hj : j = k
    · subst hj
      exact sx_wd_mem h.1
    · exact sx_layChk_ok ps (k + 1) h.2 j (by omega) h2
theorem yp_lay0 : sx_layChk yp_P ("YearTrade$Tape", yp_T0, 2) 0 [1036, 1038] = true := by decide +kernel
theorem yp_pty0 : ∀ k, k < 2 → parseFieldDescriptor (yp_T0 k).2.2.1 = some (yp_P.2.2.1 0 k) := by decide +kernel
theorem yp_nms0 : ∀ a, a < 2 → ∀ b, b < 2 → a ≠ b → (yp_T0 a).2.1 ≠ (yp_T0 b).2.1 := by decide +kernel
theorem yp_ins0 : sx_wd yp_P 1026 (.instantiable "YearTrade$Tape" 2) = true := by decide +kernel
theorem yp_lay1 : sx_layChk yp_P ("YearTrade$Text", yp_T1, 5) 0 [1059, 1061, 1063, 1065, 1067] = true := by decide +kernel
theorem yp_pty1 : ∀ k, k < 5 → parseFieldDescriptor (yp_T1 k).2.2.1 = some (yp_P.2.2.1 1 k) := by decide +kernel
theorem yp_nms1 : ∀ a, a < 5 → ∀ b, b < 5 → a ≠ b → (yp_T1 a).2.1 ≠ (yp_T1 b).2.1 := by decide +kernel
theorem yp_ins1 : sx_wd yp_P 1043 (.instantiable "YearTrade$Text" 5) = true := by decide +kernel
theorem yp_lay2 : sx_layChk yp_P ("YearTrade$Book", yp_T2, 17) 0 [1137, 1139, 1141, 1143, 1145, 1147, 1149, 1151, 1153, 1155, 1157, 1159, 1161, 1163, 1165, 1167, 1169] = true := by decide +kernel
theorem yp_pty2 : ∀ k, k < 17 → parseFieldDescriptor (yp_T2 k).2.2.1 = some (yp_P.2.2.1 2 k) := by decide +kernel
theorem yp_nms2 : ∀ a, a < 17 → ∀ b, b < 17 → a ≠ b → (yp_T2 a).2.1 ≠ (yp_T2 b).2.1 := by decide +kernel
theorem yp_ins2 : sx_wd yp_P 1071 (.instantiable "YearTrade$Book" 17) = true := by decide +kernel
theorem yp_lay3 : sx_layChk yp_P ("YearTrade$Law", yp_T3, 12) 0 [1193, 1195, 1197, 1199, 1201, 1203, 1205, 1207, 1209, 1211, 1213, 1215] = true := by decide +kernel
theorem yp_pty3 : ∀ k, k < 12 → parseFieldDescriptor (yp_T3 k).2.2.1 = some (yp_P.2.2.1 3 k) := by decide +kernel
theorem yp_nms3 : ∀ a, a < 12 → ∀ b, b < 12 → a ≠ b → (yp_T3 a).2.1 ≠ (yp_T3 b).2.1 := by decide +kernel
theorem yp_ins3 : sx_wd yp_P 1173 (.instantiable "YearTrade$Law" 12) = true := by decide +kernel
theorem yp_lay4 : sx_layChk yp_P ("YearTrade$LawReader", yp_T4, 1) 0 [1228] = true := by decide +kernel
theorem yp_pty4 : ∀ k, k < 1 → parseFieldDescriptor (yp_T4 k).2.2.1 = some (yp_P.2.2.1 4 k) := by decide +kernel
theorem yp_nms4 : ∀ a, a < 1 → ∀ b, b < 1 → a ≠ b → (yp_T4 a).2.1 ≠ (yp_T4 b).2.1 := by decide +kernel
theorem yp_ins4 : sx_wd yp_P 1219 (.instantiable "YearTrade$LawReader" 1) = true := by decide +kernel
theorem yp_lay5 : sx_layChk yp_P ("YearTrade$Deals", yp_T5, 8) 0 [2007, 2009, 2011, 2013, 2015, 2017, 2019, 2021] = true := by decide +kernel
theorem yp_pty5 : ∀ k, k < 8 → parseFieldDescriptor (yp_T5 k).2.2.1 = some (yp_P.2.2.1 5 k) := by decide +kernel
theorem yp_nms5 : ∀ a, a < 8 → ∀ b, b < 8 → a ≠ b → (yp_T5 a).2.1 ≠ (yp_T5 b).2.1 := by decide +kernel
theorem yp_ins5 : sx_wd yp_P 1232 (.instantiable "YearTrade$Deals" 8) = true := by decide +kernel
theorem yp_lay6 : sx_layChk yp_P ("YearTrade$Past", yp_T6, 9) 0 [2048, 2050, 2052, 2054, 2056, 2058, 2060, 2062, 2064] = true := by decide +kernel
theorem yp_pty6 : ∀ k, k < 9 → parseFieldDescriptor (yp_T6 k).2.2.1 = some (yp_P.2.2.1 6 k) := by decide +kernel
theorem yp_nms6 : ∀ a, a < 9 → ∀ b, b < 9 → a ≠ b → (yp_T6 a).2.1 ≠ (yp_T6 b).2.1 := by decide +kernel
theorem yp_ins6 : sx_wd yp_P 2032 (.instantiable "YearTrade$Past" 9) = true := by decide +kernel
theorem yp_lay7 : sx_layChk yp_P ("YearTrade$Shop", yp_T7, 7) 0 [2082, 2084, 2086, 2088, 2090, 2092, 2094] = true := by decide +kernel
theorem yp_pty7 : ∀ k, k < 7 → parseFieldDescriptor (yp_T7 k).2.2.1 = some (yp_P.2.2.1 7 k) := by decide +kernel
theorem yp_nms7 : ∀ a, a < 7 → ∀ b, b < 7 → a ≠ b → (yp_T7 a).2.1 ≠ (yp_T7 b).2.1 := by decide +kernel
theorem yp_ins7 : sx_wd yp_P 2068 (.instantiable "YearTrade$Shop" 7) = true := by decide +kernel
theorem yp_lay8 : sx_layChk yp_P ("YearTrade$Fair", yp_T8, 5) 0 [2108, 2110, 2112, 2114, 2116] = true := by decide +kernel
theorem yp_pty8 : ∀ k, k < 5 → parseFieldDescriptor (yp_T8 k).2.2.1 = some (yp_P.2.2.1 8 k) := by decide +kernel
theorem yp_nms8 : ∀ a, a < 5 → ∀ b, b < 5 → a ≠ b → (yp_T8 a).2.1 ≠ (yp_T8 b).2.1 := by decide +kernel
theorem yp_ins8 : sx_wd yp_P 2098 (.instantiable "YearTrade$Fair" 5) = true := by decide +kernel
theorem yp_lay9 : sx_layChk yp_P ("YearTrade", yp_T9, 14) 0 [2133, 2135, 2137, 2139, 2141, 2143, 2145, 2147, 2149, 2151, 2153, 2155, 2157, 2159] = true := by decide +kernel
theorem yp_pty9 : ∀ k, k < 14 → parseFieldDescriptor (yp_T9 k).2.2.1 = some (yp_P.2.2.1 9 k) := by decide +kernel
theorem yp_nms9 : ∀ a, a < 14 → ∀ b, b < 14 → a ≠ b → (yp_T9 a).2.1 ≠ (yp_T9 b).2.1 := by decide +kernel
theorem yp_ins9 : sx_wd yp_P 1018 (.instantiable "YearTrade" 14) = true := by decide +kernel
theorem yp_lay10 : sx_layChk yp_P ("YearTradeModel", yp_T10, 48) 0 [5161, 5163, 5165, 5167, 5169, 5171, 5173, 5175, 5177, 5179, 5181, 5183, 5185, 5187, 5189, 5191, 5193, 5195, 5197, 5199, 5201, 5203, 5205, 5207, 5209, 5211, 5213, 5215, 5217, 5219, 5221, 5223, 5225, 5227, 5229, 5231, 5233, 5235, 5237, 5239, 6001, 6003, 6005, 6007, 6009, 6011, 6013, 6015] = true := by decide +kernel
theorem yp_pty10 : ∀ k, k < 48 → parseFieldDescriptor (yp_T10 k).2.2.1 = some (yp_P.2.2.1 10 k) := by decide +kernel
theorem yp_nms10 : ∀ a, a < 48 → ∀ b, b < 48 → a ≠ b → (yp_T10 a).2.1 ≠ (yp_T10 b).2.1 := by decide +kernel
theorem yp_ins10 : sx_wd yp_P 5108 (.instantiable "YearTradeModel" 48) = true := by decide +kernel
theorem yp_lay11 : sx_layChk yp_P ("YearTrade$Calendar", yp_T11, 0) 0 [] = true := by decide +kernel
theorem yp_pty11 : ∀ k, k < 0 → parseFieldDescriptor (yp_T11 k).2.2.1 = some (yp_P.2.2.1 11 k) := by decide +kernel
theorem yp_nms11 : ∀ a, a < 0 → ∀ b, b < 0 → a ≠ b → (yp_T11 a).2.1 ≠ (yp_T11 b).2.1 := by decide +kernel
theorem yp_ins11 : sx_wd yp_P 2025 (.instantiable "YearTrade$Calendar" 0) = true := by decide +kernel
theorem yp_kind : sx_kindOk yp_P := by
  intro ci q hq
  match ci, hq with
  | 0, hq => cases hq; exact ⟨fun k hk => sx_layChk_ok _ 0 yp_lay0 k (Nat.zero_le _) hk, yp_pty0, yp_nms0⟩
  | 1, hq => cases hq; exact ⟨fun k hk => sx_layChk_ok _ 0 yp_lay1 k (Nat.zero_le _) hk, yp_pty1, yp_nms1⟩
  | 2, hq => cases hq; exact ⟨fun k hk => sx_layChk_ok _ 0 yp_lay2 k (Nat.zero_le _) hk, yp_pty2, yp_nms2⟩
  | 3, hq => cases hq; exact ⟨fun k hk => sx_layChk_ok _ 0 yp_lay3 k (Nat.zero_le _) hk, yp_pty3, yp_nms3⟩
  | 4, hq => cases hq; exact ⟨fun k hk => sx_layChk_ok _ 0 yp_lay4 k (Nat.zero_le _) hk, yp_pty4, yp_nms4⟩
  | 5, hq => cases hq; exact ⟨fun k hk => sx_layChk_ok _ 0 yp_lay5 k (Nat.zero_le _) hk, yp_pty5, yp_nms5⟩
  | 6, hq => cases hq; exact ⟨fun k hk => sx_layChk_ok _ 0 yp_lay6 k (Nat.zero_le _) hk, yp_pty6, yp_nms6⟩
  | 7, hq => cases hq; exact ⟨fun k hk => sx_layChk_ok _ 0 yp_lay7 k (Nat.zero_le _) hk, yp_pty7, yp_nms7⟩
  | 8, hq => cases hq; exact ⟨fun k hk => sx_layChk_ok _ 0 yp_lay8 k (Nat.zero_le _) hk, yp_pty8, yp_nms8⟩
  | 9, hq => cases hq; exact ⟨fun k hk => sx_layChk_ok _ 0 yp_lay9 k (Nat.zero_le _) hk, yp_pty9, yp_nms9⟩
  | 10, hq => cases hq; exact ⟨fun k hk => sx_layChk_ok _ 0 yp_lay10 k (Nat.zero_le _) hk, yp_pty10, yp_nms10⟩
  | 11, hq => cases hq; exact ⟨fun k hk => sx_layChk_ok _ 0 yp_lay11 k (Nat.zero_le _) hk, yp_pty11, yp_nms11⟩
  | n + 12, hq => simp [yp_P, yp_cl] at hq
theorem yp_made : ∀ (ci : Nat) (q : vw_C), yp_P.2.1[ci]? = some q → ∃ n, Cond.instantiable q.1 n ∈ yp_P.1.flatten ∧ goodWord (.instantiable q.1 n) = true := by
  intro ci q hq
  match ci, hq with
  | 0, hq => cases hq; exact ⟨_, sx_wd_mem yp_ins0⟩
  | 1, hq => cases hq; exact ⟨_, sx_wd_mem yp_ins1⟩
  | 2, hq => cases hq; exact ⟨_, sx_wd_mem yp_ins2⟩
  | 3, hq => cases hq; exact ⟨_, sx_wd_mem yp_ins3⟩
  | 4, hq => cases hq; exact ⟨_, sx_wd_mem yp_ins4⟩
  | 5, hq => cases hq; exact ⟨_, sx_wd_mem yp_ins5⟩
  | 6, hq => cases hq; exact ⟨_, sx_wd_mem yp_ins6⟩
  | 7, hq => cases hq; exact ⟨_, sx_wd_mem yp_ins7⟩
  | 8, hq => cases hq; exact ⟨_, sx_wd_mem yp_ins8⟩
  | 9, hq => cases hq; exact ⟨_, sx_wd_mem yp_ins9⟩
  | 10, hq => cases hq; exact ⟨_, sx_wd_mem yp_ins10⟩
  | 11, hq => cases hq; exact ⟨_, sx_wd_mem yp_ins11⟩
  | n + 12, hq => simp [yp_P, yp_cl] at hq
theorem yp_isnest : ∀ w ∈ yp_P.2.2.2.2, sx_isNest w = true := List.all_eq_true.mp (show yp_nest.all sx_isNest = true from by decide +kernel)
def yp_nestq : List Nat := [1027, 1044, 1072, 1174, 1220, 1225, 1233, 2026, 2033, 2069, 2099]
theorem yp_nestIn : ((yp_nest.zip yp_nestq).all (fun q => decide ((yp_P.1[q.2 / 1000]?).bind (fun ch => ch[q.2 % 1000]?) = some q.1)) && decide (yp_nest.length = yp_nestq.length)) = true := by decide +kernel
theorem yp_ai : sx_wd yp_P 1041 (.arrayClass .int) = true := by decide +kernel
theorem yp_ab : sx_wd yp_P 6018 (.arrayClass .byte) = true := by decide +kernel
/-- as sx_mOk, but for the word of the code, which is shown by rfl (bytes are not compared one by one) -/
def sx_mOk1 (P : sx_P) (M : sx_M) : Bool := match M with
  | (y, cc, nL, ret, n, isS, (q1, q2, q3, q4), rows) => plainName y.cls && goodWord (.code y cc nL ret) && sx_wd P q4 (.initialized y.cls) && decide (nL ≤ 45) && decide (y.cls ≠ "java/lang/invoke/MethodHandle") && decide (y.cls ≠ "java/lang/invoke/VarHandle") &&
    (if isS then sx_wd P q2 (.static y) && decide ((parseMethodDescriptor y.desc).map (fun d => d.parameters.length) = some n)
     else sx_wd P q2 (.instanceMethod y) && decide ((parseMethodDescriptor y.desc).map (fun d => d.parameters.length + 1) = some n) && (decide (y.name = "<init>") || sx_wd P q3 (.selects y.cls y y))) &&
    rows.all (fun E => sx_dec cc E)
theorem sx_okOf {P : sx_P} {M : sx_M} (hw : (P.1[M.2.2.2.2.2.2.1.1 / 1000]?).bind (fun ch => ch[M.2.2.2.2.2.2.1.1 % 1000]?) = some (.code M.1 M.2.1 M.2.2.1 M.2.2.2.1)) (h : (sx_mOk1 P M && sx_rowsOk P M) = true) : (sx_mOk P M && sx_rowsOk P M) = true := by
  obtain ⟨y, cc, nL, ret, n, isS, ⟨q1, q2, q3, q4⟩, rows⟩ := M
  dsimp only at hw
  unfold sx_mOk1 at h
  unfold sx_mOk sx_wd
  dsimp only at h ⊢
  rw [hw, decide_eq_true rfl, Bool.true_and]
  exact h
/-- as sx_mOk1, with the code read byte by byte -/
def sx_mOk2 (P : sx_P) (M : sx_M) : Bool := match M with
  | (y, cc, nL, ret, n, isS, (q1, q2, q3, q4), rows) => plainName y.cls && goodWord (.code y cc nL ret) && sx_wd P q4 (.initialized y.cls) && decide (nL ≤ 45) && decide (y.cls ≠ "java/lang/invoke/MethodHandle") && decide (y.cls ≠ "java/lang/invoke/VarHandle") &&
    (if isS then sx_wd P q2 (.static y) && decide ((parseMethodDescriptor y.desc).map (fun d => d.parameters.length) = some n)
     else sx_wd P q2 (.instanceMethod y) && decide ((parseMethodDescriptor y.desc).map (fun d => d.parameters.length + 1) = some n) && (decide (y.name = "<init>") || sx_wd P q3 (.selects y.cls y y))) &&
    fwalk cc cc.data.toList 0 rows
theorem sx_mOk_2 {P : sx_P} {M : sx_M} (h : (sx_mOk2 P M && sx_rowsOk P M) = true) : (sx_mOk1 P M && sx_rowsOk P M) = true := by
  rw [Bool.and_eq_true] at h ⊢
  refine ⟨?_, h.2⟩
  have h1 := h.1
  obtain ⟨y, cc, nL, ret, n, isS, ⟨q1, q2, q3, q4⟩, rows⟩ := M
  unfold sx_mOk2 at h1
  unfold sx_mOk1
  dsimp only at h1 ⊢
  rw [Bool.and_eq_true] at h1 ⊢
  exact ⟨h1.1, List.all_eq_true.mpr (fwalk_ok rows cc.data.toList 0 h1.2 rfl)⟩
