theorem mx_as6 {F : mx_F} {k1 k2 k3 k4 k5 k6 : Nat} {e1 e2 e3 e4 e5 e6 : mx_E} (h1 : F k1 = some e1) (h2 : F k2 = some e2) (h3 : F k3 = some e3) (h4 : F k4 = some e4) (h5 : F k5 = some e5) (h6 : F k6 = some e6) : F = mx_put (mx_put (mx_put (mx_put (mx_put (mx_put F k1 e1) k2 e2) k3 e3) k4 e4) k5 e5) k6 e6 := by
  rw [mx_self h1, mx_self h2, mx_self h3, mx_self h4, mx_self h5, mx_self h6]
theorem mx_as7 {F : mx_F} {k1 k2 k3 k4 k5 k6 k7 : Nat} {e1 e2 e3 e4 e5 e6 e7 : mx_E} (h1 : F k1 = some e1) (h2 : F k2 = some e2) (h3 : F k3 = some e3) (h4 : F k4 = some e4) (h5 : F k5 = some e5) (h6 : F k6 = some e6) (h7 : F k7 = some e7) : F = mx_put (mx_put (mx_put (mx_put (mx_put (mx_put (mx_put F k1 e1) k2 e2) k3 e3) k4 e4) k5 e5) k6 e6) k7 e7 := by
  rw [mx_self h1, mx_self h2, mx_self h3, mx_self h4, mx_self h5, mx_self h6, mx_self h7]
theorem mx_as8 {F : mx_F} {k1 k2 k3 k4 k5 k6 k7 k8 : Nat} {e1 e2 e3 e4 e5 e6 e7 e8 : mx_E} (h1 : F k1 = some e1) (h2 : F k2 = some e2) (h3 : F k3 = some e3) (h4 : F k4 = some e4) (h5 : F k5 = some e5) (h6 : F k6 = some e6) (h7 : F k7 = some e7) (h8 : F k8 = some e8) : F = mx_put (mx_put (mx_put (mx_put (mx_put (mx_put (mx_put (mx_put F k1 e1) k2 e2) k3 e3) k4 e4) k5 e5) k6 e6) k7 e7) k8 e8 := by
  rw [mx_self h1, mx_self h2, mx_self h3, mx_self h4, mx_self h5, mx_self h6, mx_self h7, mx_self h8]
theorem nI_m1 {n : Nat} (h : n < 2 ^ 31) : ¬ nI n = -1 := by
  intro c
  have h9 := congrArg Int32.toInt c
  rw [nI_toInt h] at h9
  have h8 : (-1 : Int32).toInt = -1 := by decide
  omega
-- LadderWords.unit(I)Z
def sp_L_unit : mx_Sp := fun As F P => ∃ (n : Nat) (f : Nat → Int32) (u : Int32), As = [mx_r 0, mx_i u] ∧ F 0 = some e_L ∧ F 1 = some (e_R n) ∧ F 2 = some (mx_ia 12 f) ∧ n ≤ 12 ∧ (uc n u → P (some (mx_i (nI 0))) F) ∧ (¬ uc n u → P (some (mx_i (nI 1))) (mx_put (mx_put F 2 (mx_ia 12 (upd f n u))) 1 (e_R (n + 1))))
theorem d_L_unit_0 : decode c_L_unit 0 = .ok (.aload_n 0, 1) := by decide +kernel
theorem d_L_unit_1 : decode c_L_unit 1 = .ok (.getfield 10, 3) := by decide +kernel
theorem d_L_unit_4 : decode c_L_unit 4 = .ok (.iload_n 1, 1) := by decide +kernel
theorem d_L_unit_5 : decode c_L_unit 5 = .ok (.invokevirtual 53, 3) := by decide +kernel
theorem d_L_unit_8 : decode c_L_unit 8 = .ok (.ireturn, 1) := by decide +kernel
abbrev w_L_unit : List Cond := mx_ws y_L_unit c_L_unit 2 (some .boolean)
abbrev rm_L_unit : Room := { frames := 20, cells := 0, slots := 0, locals := 400 }
def t_L_unit  (P : Option mx_V → mx_F → Prop) : List (Nat × mx_O) := [
  (0, mx_aload 0 1),
  (1, mx_get 6 0 4),
  (4, mx_iload 1 5),
  (5, mx_cv1 3 sp_R_add 0 0 8),
  (8, mx_zret P)]
set_option maxRecDepth 20000 in
theorem a_L_unit  {p : Program} {l : Launch} {e : Env} {s : State} {m : MethodId} {args : Array Value} {below : List Frame} {meth : Method} {c : Code} {D : va_G} {tc : Nat → ClassId} {tb : Nat → Nat} {sz : Nat} {a0 : Nat → Nat} {G : mx_F} {P : Option mx_V → mx_F → Prop}  (C : mx_C p s m args c c_L_unit y_L_unit.cls w_L_unit D tc tb (mx_A a0 G sz) 2 (mx_Ok0 a0 G)) (hr : meth.sig.returnType = (some .boolean)) (hlk : meth.locks = false) : mx_all (mx_W p l e rm_L_unit s m args below meth c (MQ below (mx_Q D tc tb a0 G sz P) args s 0 0 (mx_A a0 G sz)) D tc tb (mx_A a0 G sz) 2 (mx_Ok0 a0 G)) (t_L_unit  P) :=
  ⟨mx_s_aload_n C d_L_unit_0 rfl,
  mx_s_get (T := T_L) (N := 6) (k := 0) C (fun w h => List.mem_cons_of_mem _ (in_L w h)) rfl (by decide) (List.mem_cons_of_mem _ fk_L_10) rfl d_L_unit_1,
  mx_s_iload_n C d_L_unit_4 rfl,
  mx_s_cv1 C (m_R_add l) rfl (cwV 1 C.2.2.2.2.1 (mx_gV (fun w h => List.mem_cons_of_mem _ h) mk_L_53 im_R_add se_R_add ic_R co_R_add) rfl rfl rfl (by decide +kernel) ⟨by decide, by decide⟩) d_L_unit_5 ⟨Nat.zero_le _, Nat.zero_le _⟩,
  mx_s_zret C hr hlk d_L_unit_8,
  trivial⟩
set_option maxRecDepth 20000 in
set_option maxHeartbeats 2000000 in
theorem m_L_unit (l : Launch) : mx_M l y_L_unit w_L_unit rm_L_unit sp_L_unit := by
  intro zD ztc ztb zad As F P sz0 h
  obtain ⟨n, f, u, rfl, h0, h1, h2, hn, hz, ho⟩ := h
  refine mx_run (cc := c_L_unit) (maxL := 2) (ret := (some .boolean)) (tab := t_L_unit  P) (by decide) rfl zD ztc ztb zad _ F P sz0 (Nat.le_of_ble_eq_true rfl) (fun p e s m args below meth c C hr hlk => a_L_unit  C hr hlk) ?_
  intro Rr go
  have hF := mx_as3 h0 h1 h2
  rw [hF]
  refine go rfl ⟨_, rfl, ?_⟩
  refine go rfl ⟨_, _, _, _, rfl, rfl, rfl, ?_⟩
  refine go rfl ⟨_, rfl, ?_⟩
  refine go rfl ⟨_, _, _, _, rfl, rfl, rfl, rfl, rfl, ⟨n, f, u, rfl, rfl, rfl, hn, fun c => ?_, fun c => ?_⟩⟩
  · refine go rfl ⟨_, rfl, rfl, rfl, (Or.inl rfl), ?_⟩
    rw [← hF]
    exact hz c
  · refine go rfl ⟨_, rfl, rfl, rfl, (Or.inr rfl), ?_⟩
    rw [← hF]
    exact ho c
-- LadderWords.word()I
def sp_L_word : mx_Sp := fun As F P => ∃ (rn n : Nat) (S : Nat → Nat) (rl lt st : Nat → Int32), As = [mx_r 0] ∧ F 0 = some e_L ∧ F 1 = some (e_R rn) ∧ F 2 = some (mx_ia 12 rl) ∧ F 3 = some (e_W n) ∧ F 4 = some (mx_ia 360 lt) ∧ F 5 = some (mx_ia 61 st) ∧ rn ≤ 12 ∧ wok n S st ∧ ((rn = 0 ∨ 6 < rn) → P (some (mx_i (-1))) (mx_put F 1 (e_R 0))) ∧ (∀ j, 1 ≤ rn → rn ≤ 6 → j < n → wsame S lt rl rn j → (∀ k, k < j → ¬ wsame S lt rl rn k) → P (some (mx_i (nI j))) (mx_put F 1 (e_R 0))) ∧ (1 ≤ rn → rn ≤ 6 → (∀ j, j < n → ¬ wsame S lt rl rn j) → 60 ≤ n → P (some (mx_i (-1))) (mx_put F 1 (e_R 0))) ∧ (1 ≤ rn → rn ≤ 6 → (∀ j, j < n → ¬ wsame S lt rl rn j) → n < 60 → ∀ lt', (∀ q, q < S n → lt' q = lt q) → (∀ i, i < rn → lt' (S n + i) = rl i) → P (some (mx_i (nI n))) (mx_put (mx_put (mx_put (mx_put F 4 (mx_ia 360 lt')) 3 (e_W (n + 1))) 5 (mx_ia 61 (upd st (n + 1) (nI (S n + rn))))) 1 (e_R 0)))
theorem d_L_word_0 : decode c_L_word 0 = .ok (.aload_n 0, 1) := by decide +kernel
theorem d_L_word_1 : decode c_L_word 1 = .ok (.getfield 19, 3) := by decide +kernel
theorem d_L_word_4 : decode c_L_word 4 = .ok (.aload_n 0, 1) := by decide +kernel
theorem d_L_word_5 : decode c_L_word 5 = .ok (.getfield 10, 3) := by decide +kernel
theorem d_L_word_8 : decode c_L_word 8 = .ok (.invokevirtual 57, 3) := by decide +kernel
theorem d_L_word_11 : decode c_L_word 11 = .ok (.istore_n 1, 1) := by decide +kernel
theorem d_L_word_12 : decode c_L_word 12 = .ok (.aload_n 0, 1) := by decide +kernel
theorem d_L_word_13 : decode c_L_word 13 = .ok (.getfield 10, 3) := by decide +kernel
theorem d_L_word_16 : decode c_L_word 16 = .ok (.invokevirtual 61, 3) := by decide +kernel
theorem d_L_word_19 : decode c_L_word 19 = .ok (.iload_n 1, 1) := by decide +kernel
theorem d_L_word_20 : decode c_L_word 20 = .ok (.ireturn, 1) := by decide +kernel
abbrev w_L_word : List Cond := mx_ws y_L_word c_L_word 2 (some .int)
abbrev rm_L_word : Room := { frames := 50, cells := 0, slots := 0, locals := 1000 }
def t_L_word  (P : Option mx_V → mx_F → Prop) : List (Nat × mx_O) := [
  (0, mx_aload 0 1),
  (1, mx_get 6 1 4),
  (4, mx_aload 0 5),
  (5, mx_get 6 0 8),
  (8, mx_cv1 5 sp_W_numberFor 0 0 11),
  (11, mx_istore 1 12),
  (12, mx_aload 0 13),
  (13, mx_get 6 0 16),
  (16, mx_cv0 3 sp_R_clear 0 0 19),
  (19, mx_iload 1 20),
  (20, mx_iret P)]
set_option maxRecDepth 20000 in
theorem a_L_word  {p : Program} {l : Launch} {e : Env} {s : State} {m : MethodId} {args : Array Value} {below : List Frame} {meth : Method} {c : Code} {D : va_G} {tc : Nat → ClassId} {tb : Nat → Nat} {sz : Nat} {a0 : Nat → Nat} {G : mx_F} {P : Option mx_V → mx_F → Prop}  (C : mx_C p s m args c c_L_word y_L_word.cls w_L_word D tc tb (mx_A a0 G sz) 2 (mx_Ok0 a0 G)) (hr : meth.sig.returnType = (some .int)) (hlk : meth.locks = false) : mx_all (mx_W p l e rm_L_word s m args below meth c (MQ below (mx_Q D tc tb a0 G sz P) args s 0 0 (mx_A a0 G sz)) D tc tb (mx_A a0 G sz) 2 (mx_Ok0 a0 G)) (t_L_word  P) :=
  ⟨mx_s_aload_n C d_L_word_0 rfl,
  mx_s_get (T := T_L) (N := 6) (k := 1) C (fun w h => List.mem_cons_of_mem _ (in_L w h)) rfl (by decide) (List.mem_cons_of_mem _ fk_L_19) rfl d_L_word_1,
  mx_s_aload_n C d_L_word_4 rfl,
  mx_s_get (T := T_L) (N := 6) (k := 0) C (fun w h => List.mem_cons_of_mem _ (in_L w h)) rfl (by decide) (List.mem_cons_of_mem _ fk_L_10) rfl d_L_word_5,
  mx_s_cv1 C (m_W_numberFor l) rfl (cwV 1 C.2.2.2.2.1 (mx_gV (fun w h => List.mem_cons_of_mem _ h) mk_L_57 im_W_numberFor se_W_numberFor ic_W co_W_numberFor) rfl rfl rfl (by decide +kernel) ⟨by decide, by decide⟩) d_L_word_8 ⟨Nat.zero_le _, Nat.zero_le _⟩,
  mx_s_istore_n C d_L_word_11 rfl (by decide),
  mx_s_aload_n C d_L_word_12 rfl,
  mx_s_get (T := T_L) (N := 6) (k := 0) C (fun w h => List.mem_cons_of_mem _ (in_L w h)) rfl (by decide) (List.mem_cons_of_mem _ fk_L_10) rfl d_L_word_13,
  mx_s_cv0 C (m_R_clear l) rfl (cwV 0 C.2.2.2.2.1 (mx_gV (fun w h => List.mem_cons_of_mem _ h) mk_L_61 im_R_clear se_R_clear ic_R co_R_clear) rfl rfl rfl (by decide +kernel) ⟨by decide, by decide⟩) d_L_word_16 ⟨Nat.zero_le _, Nat.zero_le _⟩,
  mx_s_iload_n C d_L_word_19 rfl,
  mx_s_iret C hr hlk d_L_word_20,
  trivial⟩
set_option maxRecDepth 20000 in
set_option maxHeartbeats 2000000 in
theorem m_L_word (l : Launch) : mx_M l y_L_word w_L_word rm_L_word sp_L_word := by
  intro zD ztc ztb zad As F P sz0 h
  obtain ⟨rn, n, S, rl, lt, st, rfl, h0, h1, h2, h3, h4, h5, hr, hw, hz, hk, hf, ha⟩ := h
  refine mx_run (cc := c_L_word) (maxL := 2) (ret := (some .int)) (tab := t_L_word  P) (by decide) rfl zD ztc ztb zad _ F P sz0 (Nat.le_of_ble_eq_true rfl) (fun p e s m args below meth c C hr hlk => a_L_word  C hr hlk) ?_
  intro Rr go
  have hF := mx_as6 h0 h1 h2 h3 h4 h5
  rw [hF]
  have fin : ∀ x : Int32, P (some (mx_i x)) (mx_put F 1 (e_R 0)) → Rr 11 (mx_en [mx_r 0] 2) [mx_i x] (mx_put (mx_put (mx_put (mx_put (mx_put (mx_put F 0 e_L) 1 (e_R rn)) 2 (mx_ia 12 rl)) 3 (e_W n)) 4 (mx_ia 360 lt)) 5 (mx_ia 61 st)) 0 0 := by
    intro x hx
    refine go rfl ⟨_, _, rfl, ?_⟩
    refine go rfl ⟨_, rfl, ?_⟩
    refine go rfl ⟨_, _, _, _, rfl, rfl, rfl, ?_⟩
    refine go rfl ⟨_, _, _, rfl, rfl, rfl, rfl, rfl, ⟨rn, rfl, rfl, ?_⟩⟩
    refine go rfl ⟨_, rfl, ?_⟩
    refine go rfl ⟨_, rfl, rfl, rfl, ?_⟩
    rw [← hF]
    exact hx
  refine go rfl ⟨_, rfl, ?_⟩
  refine go rfl ⟨_, _, _, _, rfl, rfl, rfl, ?_⟩
  refine go rfl ⟨_, rfl, ?_⟩
  refine go rfl ⟨_, _, _, _, rfl, rfl, rfl, ?_⟩
  refine go rfl ⟨_, _, _, _, rfl, rfl, rfl, rfl, rfl, ⟨rn, n, S, rl, lt, st, rfl, rfl, rfl, rfl, rfl, rfl, hr, hw, fun c => ?_, fun j q1 q2 q3 q4 q5 => ?_, fun q1 q2 q3 q4 => ?_, fun q1 q2 q3 q4 lt' q5 q6 => ?_⟩⟩
  · exact fin _ (hz c)
  · exact fin _ (hk j q1 q2 q3 q4 q5)
  · exact fin _ (hf q1 q2 q3 q4)
  · refine go rfl ⟨_, _, rfl, ?_⟩
    refine go rfl ⟨_, rfl, ?_⟩
    refine go rfl ⟨_, _, _, _, rfl, rfl, rfl, ?_⟩
    refine go rfl ⟨_, _, _, rfl, rfl, rfl, rfl, rfl, ⟨rn, rfl, rfl, ?_⟩⟩
    refine go rfl ⟨_, rfl, ?_⟩
    refine go rfl ⟨_, rfl, rfl, rfl, ?_⟩
    rw [← hF]
    exact ha q1 q2 q3 q4 lt' q5 q6
-- LadderWords.letter(II)I
def sp_L_letter : mx_Sp := fun As F P => ∃ (n : Nat) (S : Nat → Nat) (st lt : Nat → Int32) (w i : Int32), As = [mx_r 0, mx_i w, mx_i i] ∧ F 0 = some e_L ∧ F 3 = some (e_W n) ∧ F 4 = some (mx_ia 360 lt) ∧ F 5 = some (mx_ia 61 st) ∧ wok n S st ∧ (∀ j k, j < n → k < S (j + 1) - S j → w = nI j → i = nI k → P (some (mx_i (lt (S j + k)))) F) ∧ ((¬ ∃ j k, j < n ∧ k < S (j + 1) - S j ∧ w = nI j ∧ i = nI k) → P (some (mx_i (-1))) F)
theorem d_L_letter_0 : decode c_L_letter 0 = .ok (.aload_n 0, 1) := by decide +kernel
theorem d_L_letter_1 : decode c_L_letter 1 = .ok (.getfield 19, 3) := by decide +kernel
theorem d_L_letter_4 : decode c_L_letter 4 = .ok (.iload_n 1, 1) := by decide +kernel
theorem d_L_letter_5 : decode c_L_letter 5 = .ok (.iload_n 2, 1) := by decide +kernel
theorem d_L_letter_6 : decode c_L_letter 6 = .ok (.invokevirtual 64, 3) := by decide +kernel
theorem d_L_letter_9 : decode c_L_letter 9 = .ok (.ireturn, 1) := by decide +kernel
abbrev w_L_letter : List Cond := mx_ws y_L_letter c_L_letter 3 (some .int)
abbrev rm_L_letter : Room := { frames := 20, cells := 0, slots := 0, locals := 400 }
def t_L_letter  (P : Option mx_V → mx_F → Prop) : List (Nat × mx_O) := [
  (0, mx_aload 0 1),
  (1, mx_get 6 1 4),
  (4, mx_iload 1 5),
  (5, mx_iload 2 6),
  (6, mx_cv2 5 sp_W_letterOf 0 0 9),
  (9, mx_iret P)]
set_option maxRecDepth 20000 in
theorem a_L_letter  {p : Program} {l : Launch} {e : Env} {s : State} {m : MethodId} {args : Array Value} {below : List Frame} {meth : Method} {c : Code} {D : va_G} {tc : Nat → ClassId} {tb : Nat → Nat} {sz : Nat} {a0 : Nat → Nat} {G : mx_F} {P : Option mx_V → mx_F → Prop}  (C : mx_C p s m args c c_L_letter y_L_letter.cls w_L_letter D tc tb (mx_A a0 G sz) 3 (mx_Ok0 a0 G)) (hr : meth.sig.returnType = (some .int)) (hlk : meth.locks = false) : mx_all (mx_W p l e rm_L_letter s m args below meth c (MQ below (mx_Q D tc tb a0 G sz P) args s 0 0 (mx_A a0 G sz)) D tc tb (mx_A a0 G sz) 3 (mx_Ok0 a0 G)) (t_L_letter  P) :=
  ⟨mx_s_aload_n C d_L_letter_0 rfl,
  mx_s_get (T := T_L) (N := 6) (k := 1) C (fun w h => List.mem_cons_of_mem _ (in_L w h)) rfl (by decide) (List.mem_cons_of_mem _ fk_L_19) rfl d_L_letter_1,
  mx_s_iload_n C d_L_letter_4 rfl,
  mx_s_iload_n C d_L_letter_5 rfl,
  mx_s_cv2 C (m_W_letterOf l) rfl (cwV 2 C.2.2.2.2.1 (mx_gV (fun w h => List.mem_cons_of_mem _ h) mk_L_64 im_W_letterOf se_W_letterOf ic_W co_W_letterOf) rfl rfl rfl (by decide +kernel) ⟨by decide, by decide⟩) d_L_letter_6 ⟨Nat.zero_le _, Nat.zero_le _⟩,
  mx_s_iret C hr hlk d_L_letter_9,
  trivial⟩
set_option maxRecDepth 20000 in
set_option maxHeartbeats 2000000 in
theorem m_L_letter (l : Launch) : mx_M l y_L_letter w_L_letter rm_L_letter sp_L_letter := by
  intro zD ztc ztb zad As F P sz0 h
  obtain ⟨n, S, st, lt, w, i, rfl, h0, h1, h4, h2, hw, ho, hz⟩ := h
  refine mx_run (cc := c_L_letter) (maxL := 3) (ret := (some .int)) (tab := t_L_letter  P) (by decide) rfl zD ztc ztb zad _ F P sz0 (Nat.le_of_ble_eq_true rfl) (fun p e s m args below meth c C hr hlk => a_L_letter  C hr hlk) ?_
  intro Rr go
  have hF := mx_as4 h0 h1 h4 h2
  rw [hF]
  refine go rfl ⟨_, rfl, ?_⟩
  refine go rfl ⟨_, _, _, _, rfl, rfl, rfl, ?_⟩
  refine go rfl ⟨_, rfl, ?_⟩
  refine go rfl ⟨_, rfl, ?_⟩
  refine go rfl ⟨_, _, _, _, _, rfl, rfl, rfl, rfl, rfl, ⟨n, S, st, lt, w, i, rfl, rfl, rfl, rfl, hw, fun j k q1 q2 q3 q4 => ?_, fun c => ?_⟩⟩
  · refine go rfl ⟨_, rfl, rfl, rfl, ?_⟩
    rw [← hF]
    exact ho j k q1 q2 q3 q4
  · refine go rfl ⟨_, rfl, rfl, rfl, ?_⟩
    rw [← hF]
    exact hz c
-- LadderWords$Words.lengthOfAll()I
def sp_W_lengthOfAll : mx_Sp := fun As F P => ∃ (n : Nat) (S : Nat → Nat) (st : Nat → Int32), As = [mx_r 3] ∧ F 3 = some (e_W n) ∧ F 5 = some (mx_ia 61 st) ∧ wok n S st ∧ P (some (mx_i (nI (S n)))) F
theorem d_W_lengthOfAll_0 : decode c_W_lengthOfAll 0 = .ok (.aload_n 0, 1) := by decide +kernel
theorem d_W_lengthOfAll_1 : decode c_W_lengthOfAll 1 = .ok (.getfield 15, 3) := by decide +kernel
theorem d_W_lengthOfAll_4 : decode c_W_lengthOfAll 4 = .ok (.aload_n 0, 1) := by decide +kernel
theorem d_W_lengthOfAll_5 : decode c_W_lengthOfAll 5 = .ok (.getfield 18, 3) := by decide +kernel
theorem d_W_lengthOfAll_8 : decode c_W_lengthOfAll 8 = .ok (.iaload, 1) := by decide +kernel
theorem d_W_lengthOfAll_9 : decode c_W_lengthOfAll 9 = .ok (.ireturn, 1) := by decide +kernel
abbrev w_W_lengthOfAll : List Cond := mx_ws y_W_lengthOfAll c_W_lengthOfAll 1 (some .int)
abbrev rm_W_lengthOfAll : Room := { frames := 10, cells := 0, slots := 0, locals := 200 }
def t_W_lengthOfAll  (P : Option mx_V → mx_F → Prop) : List (Nat × mx_O) := [
  (0, mx_aload 0 1),
  (1, mx_get 5 1 4),
  (4, mx_aload 0 5),
  (5, mx_get 5 2 8),
  (8, mx_iald 9),
  (9, mx_iret P)]
set_option maxRecDepth 20000 in
theorem a_W_lengthOfAll  {p : Program} {l : Launch} {e : Env} {s : State} {m : MethodId} {args : Array Value} {below : List Frame} {meth : Method} {c : Code} {D : va_G} {tc : Nat → ClassId} {tb : Nat → Nat} {sz : Nat} {a0 : Nat → Nat} {G : mx_F} {P : Option mx_V → mx_F → Prop}  (C : mx_C p s m args c c_W_lengthOfAll y_W_lengthOfAll.cls w_W_lengthOfAll D tc tb (mx_A a0 G sz) 1 (mx_Ok0 a0 G)) (hr : meth.sig.returnType = (some .int)) (hlk : meth.locks = false) : mx_all (mx_W p l e rm_W_lengthOfAll s m args below meth c (MQ below (mx_Q D tc tb a0 G sz P) args s 0 0 (mx_A a0 G sz)) D tc tb (mx_A a0 G sz) 1 (mx_Ok0 a0 G)) (t_W_lengthOfAll  P) :=
  ⟨mx_s_aload_n C d_W_lengthOfAll_0 rfl,
  mx_s_get (T := T_W) (N := 3) (k := 1) C (fun w h => List.mem_cons_of_mem _ (in_W w h)) rfl (by decide) (List.mem_cons_of_mem _ fk_W_15) rfl d_W_lengthOfAll_1,
  mx_s_aload_n C d_W_lengthOfAll_4 rfl,
  mx_s_get (T := T_W) (N := 3) (k := 2) C (fun w h => List.mem_cons_of_mem _ (in_W w h)) rfl (by decide) (List.mem_cons_of_mem _ fk_W_18) rfl d_W_lengthOfAll_5,
  mx_s_iald C d_W_lengthOfAll_8,
  mx_s_iret C hr hlk d_W_lengthOfAll_9,
  trivial⟩
set_option maxRecDepth 20000 in
set_option maxHeartbeats 2000000 in
theorem m_W_lengthOfAll (l : Launch) : mx_M l y_W_lengthOfAll w_W_lengthOfAll rm_W_lengthOfAll sp_W_lengthOfAll := by
  intro zD ztc ztb zad As F P sz0 h
  obtain ⟨n, S, st, rfl, h3, h5, hw, hp⟩ := h
  refine mx_run (cc := c_W_lengthOfAll) (maxL := 1) (ret := (some .int)) (tab := t_W_lengthOfAll  P) (by decide) rfl zD ztc ztb zad _ F P sz0 (Nat.le_of_ble_eq_true rfl) (fun p e s m args below meth c C hr hlk => a_W_lengthOfAll  C hr hlk) ?_
  intro Rr go
  have hF := mx_as2 h3 h5
  rw [hF]
  have hn := hw.1
  refine go rfl ⟨_, rfl, ?_⟩
  refine go rfl ⟨_, _, _, _, rfl, rfl, rfl, ?_⟩
  refine go rfl ⟨_, rfl, ?_⟩
  refine go rfl ⟨_, _, _, _, rfl, rfl, rfl, ?_⟩
  refine go rfl ⟨_, _, _, _, _, rfl, rfl, (vp_in_nI (show n < 61 by omega) (by omega)), ?_⟩
  rw [nI_clamp (by omega), hw.2.2.2 n (Nat.le_refl n)]
  refine go rfl ⟨_, rfl, rfl, rfl, ?_⟩
  rw [← hF]
  exact hp
-- LadderWords$Words.letterOfAll(I)I
def sp_W_letterOfAll : mx_Sp := fun As F P => ∃ (n k : Nat) (S : Nat → Nat) (st lt : Nat → Int32), As = [mx_r 3, mx_i (nI k)] ∧ F 3 = some (e_W n) ∧ F 4 = some (mx_ia 360 lt) ∧ F 5 = some (mx_ia 61 st) ∧ wok n S st ∧ k < S n ∧ P (some (mx_i (lt k))) F
theorem d_W_letterOfAll_0 : decode c_W_letterOfAll 0 = .ok (.iload_n 1, 1) := by decide +kernel
theorem d_W_letterOfAll_1 : decode c_W_letterOfAll 1 = .ok (.ifCond .lt 20, 3) := by decide +kernel
theorem d_W_letterOfAll_4 : decode c_W_letterOfAll 4 = .ok (.iload_n 1, 1) := by decide +kernel
theorem d_W_letterOfAll_5 : decode c_W_letterOfAll 5 = .ok (.aload_n 0, 1) := by decide +kernel
theorem d_W_letterOfAll_6 : decode c_W_letterOfAll 6 = .ok (.invokevirtual 22, 3) := by decide +kernel
theorem d_W_letterOfAll_9 : decode c_W_letterOfAll 9 = .ok (.if_icmp .ge 12, 3) := by decide +kernel
theorem d_W_letterOfAll_12 : decode c_W_letterOfAll 12 = .ok (.aload_n 0, 1) := by decide +kernel
theorem d_W_letterOfAll_13 : decode c_W_letterOfAll 13 = .ok (.getfield 9, 3) := by decide +kernel
theorem d_W_letterOfAll_16 : decode c_W_letterOfAll 16 = .ok (.iload_n 1, 1) := by decide +kernel
theorem d_W_letterOfAll_17 : decode c_W_letterOfAll 17 = .ok (.iaload, 1) := by decide +kernel
theorem d_W_letterOfAll_18 : decode c_W_letterOfAll 18 = .ok (.goto 4, 3) := by decide +kernel
theorem d_W_letterOfAll_22 : decode c_W_letterOfAll 22 = .ok (.ireturn, 1) := by decide +kernel
abbrev w_W_letterOfAll : List Cond := mx_ws y_W_letterOfAll c_W_letterOfAll 2 (some .int)
abbrev rm_W_letterOfAll : Room := { frames := 20, cells := 0, slots := 0, locals := 400 }
def t_W_letterOfAll  (P : Option mx_V → mx_F → Prop) : List (Nat × mx_O) := [
  (0, mx_iload 1 1),
  (1, mx_if_lt 21 4),
  (4, mx_iload 1 5),
  (5, mx_aload 0 6),
  (6, mx_cv0 5 sp_W_lengthOfAll 0 0 9),
  (9, mx_ic_ge 21 12),
  (12, mx_aload 0 13),
  (13, mx_get 5 0 16),
  (16, mx_iload 1 17),
  (17, mx_iald 18),
  (18, mx_goto 22),
  (22, mx_iret P)]
set_option maxRecDepth 20000 in
theorem a_W_letterOfAll  {p : Program} {l : Launch} {e : Env} {s : State} {m : MethodId} {args : Array Value} {below : List Frame} {meth : Method} {c : Code} {D : va_G} {tc : Nat → ClassId} {tb : Nat → Nat} {sz : Nat} {a0 : Nat → Nat} {G : mx_F} {P : Option mx_V → mx_F → Prop}  (C : mx_C p s m args c c_W_letterOfAll y_W_letterOfAll.cls w_W_letterOfAll D tc tb (mx_A a0 G sz) 2 (mx_Ok0 a0 G)) (hr : meth.sig.returnType = (some .int)) (hlk : meth.locks = false) : mx_all (mx_W p l e rm_W_letterOfAll s m args below meth c (MQ below (mx_Q D tc tb a0 G sz P) args s 0 0 (mx_A a0 G sz)) D tc tb (mx_A a0 G sz) 2 (mx_Ok0 a0 G)) (t_W_letterOfAll  P) :=
  ⟨mx_s_iload_n C d_W_letterOfAll_0 rfl,
  mx_s_if_lt C d_W_letterOfAll_1 (by decide),
  mx_s_iload_n C d_W_letterOfAll_4 rfl,
  mx_s_aload_n C d_W_letterOfAll_5 rfl,
  mx_s_cv0 C (m_W_lengthOfAll l) rfl (cwV 0 C.2.2.2.2.1 (mx_gV (fun w h => List.mem_cons_of_mem _ h) mk_W_22 im_W_lengthOfAll se_W_lengthOfAll ic_W co_W_lengthOfAll) rfl rfl rfl (by decide +kernel) ⟨by decide, by decide⟩) d_W_letterOfAll_6 ⟨Nat.zero_le _, Nat.zero_le _⟩,
  mx_s_ic_ge C d_W_letterOfAll_9 (by decide),
  mx_s_aload_n C d_W_letterOfAll_12 rfl,
  mx_s_get (T := T_W) (N := 3) (k := 0) C (fun w h => List.mem_cons_of_mem _ (in_W w h)) rfl (by decide) (List.mem_cons_of_mem _ fk_W_9) rfl d_W_letterOfAll_13,
  mx_s_iload_n C d_W_letterOfAll_16 rfl,
  mx_s_iald C d_W_letterOfAll_17,
  mx_s_goto C d_W_letterOfAll_18 (by decide),
  mx_s_iret C hr hlk d_W_letterOfAll_22,
  trivial⟩
set_option maxRecDepth 20000 in
set_option maxHeartbeats 2000000 in
theorem m_W_letterOfAll (l : Launch) : mx_M l y_W_letterOfAll w_W_letterOfAll rm_W_letterOfAll sp_W_letterOfAll := by
  intro zD ztc ztb zad As F P sz0 h
  obtain ⟨n, k, S, st, lt, rfl, h3, h4, h5, hw, hk, hp⟩ := h
  refine mx_run (cc := c_W_letterOfAll) (maxL := 2) (ret := (some .int)) (tab := t_W_letterOfAll  P) (by decide) rfl zD ztc ztb zad _ F P sz0 (Nat.le_of_ble_eq_true rfl) (fun p e s m args below meth c C hr hlk => a_W_letterOfAll  C hr hlk) ?_
  intro Rr go
  have hF := mx_as3 h3 h4 h5
  rw [hF]
  have hS := wok_lt hw (Nat.le_refl n)
  refine go rfl ⟨_, rfl, ?_⟩
  refine go rfl ⟨_, _, rfl, fun c => ?_, fun c => ?_⟩
  · exact absurd c (nI_pos (by omega))
  refine go rfl ⟨_, rfl, ?_⟩
  refine go rfl ⟨_, rfl, ?_⟩
  refine go rfl ⟨_, _, _, rfl, rfl, rfl, rfl, rfl, ⟨n, S, st, rfl, rfl, rfl, hw, ?_⟩⟩
  refine go rfl ⟨_, _, _, rfl, fun c2 => ?_, fun c2 => ?_⟩
  · exact absurd ((nI_leI (by omega) (by omega)).mp c2) (by omega)
  refine go rfl ⟨_, rfl, ?_⟩
  refine go rfl ⟨_, _, _, _, rfl, rfl, rfl, ?_⟩
  refine go rfl ⟨_, rfl, ?_⟩
  refine go rfl ⟨_, _, _, _, _, rfl, rfl, (vp_in_nI (show k < 360 by omega) (by omega)), ?_⟩
  rw [nI_clamp (by omega)]
  refine go rfl ?_
  refine go rfl ⟨_, rfl, rfl, rfl, ?_⟩
  rw [← hF]
  exact hp
-- LadderWordsModel.word()I
def sp_M_word : mx_Sp := fun As F P => ∃ (th : Int32) (sp : Int32) (wy : Int64) (kp sd : Int32) (rn n : Nat) (N : Nat → Nat) (rl lt ml : Nat → Int32), As = [mx_r 40] ∧ F 40 = some (e_M th (nI rn) (nI n) sp wy kp sd) ∧ F 41 = some (mx_ia 12 rl) ∧ F 42 = some (mx_ia 360 lt) ∧ F 43 = some (mx_ia 60 ml) ∧ rn ≤ 12 ∧ mok n N ml ∧ ((rn = 0 ∨ 6 < rn) → P (some (mx_i (-1))) (mx_put F 40 (e_M (nI 0) (nI 0) (nI n) sp wy kp sd))) ∧ (∀ j, 1 ≤ rn → rn ≤ 6 → j < n → msame N lt rl rn j → (∀ k, k < j → ¬ msame N lt rl rn k) → P (some (mx_i (nI j))) (mx_put F 40 (e_M (nI 0) (nI 0) (nI n) sp wy kp sd))) ∧ (1 ≤ rn → rn ≤ 6 → (∀ j, j < n → ¬ msame N lt rl rn j) → 60 ≤ n → P (some (mx_i (-1))) (mx_put F 40 (e_M (nI 0) (nI 0) (nI n) sp wy kp sd))) ∧ (1 ≤ rn → rn ≤ 6 → (∀ j, j < n → ¬ msame N lt rl rn j) → n < 60 → ∀ lt', (∀ q, q < 6 * n → lt' q = lt q) → (∀ i, i < rn → lt' (6 * n + i) = rl i) → P (some (mx_i (nI n))) (mx_put (mx_put (mx_put F 42 (mx_ia 360 lt')) 43 (mx_ia 60 (upd ml n (nI rn)))) 40 (e_M (nI 0) (nI 0) (nI (n + 1)) (-1) wy (nI 0) (nI 0))))
theorem d_M_word_0 : decode c_M_word 0 = .ok (.aload_n 0, 1) := by decide +kernel
theorem d_M_word_1 : decode c_M_word 1 = .ok (.iconst 0, 1) := by decide +kernel
theorem d_M_word_2 : decode c_M_word 2 = .ok (.putfield 48, 3) := by decide +kernel
theorem d_M_word_5 : decode c_M_word 5 = .ok (.aload_n 0, 1) := by decide +kernel
theorem d_M_word_6 : decode c_M_word 6 = .ok (.invokevirtual 71, 3) := by decide +kernel
theorem d_M_word_9 : decode c_M_word 9 = .ok (.istore_n 1, 1) := by decide +kernel
theorem d_M_word_10 : decode c_M_word 10 = .ok (.aload_n 0, 1) := by decide +kernel
theorem d_M_word_11 : decode c_M_word 11 = .ok (.iconst 0, 1) := by decide +kernel
theorem d_M_word_12 : decode c_M_word 12 = .ok (.putfield 54, 3) := by decide +kernel
theorem d_M_word_15 : decode c_M_word 15 = .ok (.iload_n 1, 1) := by decide +kernel
theorem d_M_word_16 : decode c_M_word 16 = .ok (.ireturn, 1) := by decide +kernel
abbrev w_M_word : List Cond := mx_ws y_M_word c_M_word 2 (some .int)
abbrev rm_M_word : Room := { frames := 40, cells := 0, slots := 0, locals := 800 }
def t_M_word  (P : Option mx_V → mx_F → Prop) : List (Nat × mx_O) := [
  (0, mx_aload 0 1),
  (1, mx_push (.inl (nI 0)) 2),
  (2, mx_puti 7 0 5),
  (5, mx_aload 0 6),
  (6, mx_cv0 7 sp_M_enter 0 0 9),
  (9, mx_istore 1 10),
  (10, mx_aload 0 11),
  (11, mx_push (.inl (nI 0)) 12),
  (12, mx_puti 7 1 15),
  (15, mx_iload 1 16),
  (16, mx_iret P)]
set_option maxRecDepth 20000 in
theorem a_M_word  {p : Program} {l : Launch} {e : Env} {s : State} {m : MethodId} {args : Array Value} {below : List Frame} {meth : Method} {c : Code} {D : va_G} {tc : Nat → ClassId} {tb : Nat → Nat} {sz : Nat} {a0 : Nat → Nat} {G : mx_F} {P : Option mx_V → mx_F → Prop}  (C : mx_C p s m args c c_M_word y_M_word.cls w_M_word D tc tb (mx_A a0 G sz) 2 (mx_Ok0 a0 G)) (hr : meth.sig.returnType = (some .int)) (hlk : meth.locks = false) : mx_all (mx_W p l e rm_M_word s m args below meth c (MQ below (mx_Q D tc tb a0 G sz P) args s 0 0 (mx_A a0 G sz)) D tc tb (mx_A a0 G sz) 2 (mx_Ok0 a0 G)) (t_M_word  P) :=
  ⟨mx_s_aload_n C d_M_word_0 rfl,
  mx_s_iconst C d_M_word_1 (by decide),
  mx_s_puti (T := T_M) (N := 18) (k := 0) C (fun w h => List.mem_cons_of_mem _ (in_M w h)) rfl ty_M ok_M nm_M (by decide) (List.mem_cons_of_mem _ fk_M_48) rfl rfl (ok_M 0 (by decide)) d_M_word_2,
  mx_s_aload_n C d_M_word_5 rfl,
  mx_s_cv0 C (m_M_enter l) rfl (cwV 0 C.2.2.2.2.1 (mx_gV (fun w h => List.mem_cons_of_mem _ h) mk_M_71 im_M_enter se_M_enter ic_M co_M_enter) rfl rfl rfl (by decide +kernel) ⟨by decide, by decide⟩) d_M_word_6 ⟨Nat.zero_le _, Nat.zero_le _⟩,
  mx_s_istore_n C d_M_word_9 rfl (by decide),
  mx_s_aload_n C d_M_word_10 rfl,
  mx_s_iconst C d_M_word_11 (by decide),
  mx_s_puti (T := T_M) (N := 18) (k := 1) C (fun w h => List.mem_cons_of_mem _ (in_M w h)) rfl ty_M ok_M nm_M (by decide) (List.mem_cons_of_mem _ fk_M_54) rfl rfl (ok_M 1 (by decide)) d_M_word_12,
  mx_s_iload_n C d_M_word_15 rfl,
  mx_s_iret C hr hlk d_M_word_16,
  trivial⟩
set_option maxRecDepth 20000 in
set_option maxHeartbeats 2000000 in
theorem m_M_word (l : Launch) : mx_M l y_M_word w_M_word rm_M_word sp_M_word := by
  intro zD ztc ztb zad As F P sz0 h
  obtain ⟨th, sp, wy, kp, sd, rn, n, N, rl, lt, ml, rfl, h0, h1, h2, h3, hr, hw, hz, hk, hf, ha⟩ := h
  refine mx_run (cc := c_M_word) (maxL := 2) (ret := (some .int)) (tab := t_M_word  P) (by decide) rfl zD ztc ztb zad _ F P sz0 (Nat.le_of_ble_eq_true rfl) (fun p e s m args below meth c C hr hlk => a_M_word  C hr hlk) ?_
  intro Rr go
  have hF := mx_as4 h1 h2 h3 h0
  have hX := mx_as3 h1 h2 h3
  rw [hF]
  have fin : ∀ x : Int32, P (some (mx_i x)) (mx_put F 40 (e_M (nI 0) (nI 0) (nI n) sp wy kp sd)) → Rr 9 (mx_en [mx_r 40] 2) [mx_i x] (mx_put (mx_put (mx_put (mx_put F 41 (mx_ia 12 rl)) 42 (mx_ia 360 lt)) 43 (mx_ia 60 ml)) 40 (e_M (nI 0) (nI rn) (nI n) sp wy kp sd)) 0 0 := by
    intro x hx
    refine go rfl ⟨_, _, rfl, ?_⟩
    refine go rfl ⟨_, rfl, ?_⟩
    refine go rfl ?_
    refine go rfl ⟨_, _, _, _, rfl, rfl, (Nat.le_of_ble_eq_true rfl), ?_⟩
    refine go rfl ⟨_, rfl, ?_⟩
    refine go rfl ⟨_, rfl, rfl, rfl, ?_⟩
    rw [mx_pp, ← hX]
    exact hx
  refine go rfl ⟨_, rfl, ?_⟩
  refine go rfl ?_
  refine go rfl ⟨_, _, _, _, rfl, rfl, (Nat.le_of_ble_eq_true rfl), ?_⟩
  rw [mx_pp]
  refine go rfl ⟨_, rfl, ?_⟩
  refine go rfl ⟨_, _, _, rfl, rfl, rfl, rfl, rfl, ⟨_, _, _, _, _, rn, n, N, rl, lt, ml, rfl, rfl, rfl, rfl, rfl, hr, hw, fun c => ?_, fun j q1 q2 q3 q4 q5 => ?_, fun q1 q2 q3 q4 => ?_, fun q1 q2 q3 q4 lt' q5 q6 => ?_⟩⟩
  · exact fin _ (hz c)
  · exact fin _ (hk j q1 q2 q3 q4 q5)
  · exact fin _ (hf q1 q2 q3 q4)
  · refine go rfl ⟨_, _, rfl, ?_⟩
    refine go rfl ⟨_, rfl, ?_⟩
    refine go rfl ?_
    refine go rfl ⟨_, _, _, _, rfl, rfl, (Nat.le_of_ble_eq_true rfl), ?_⟩
    refine go rfl ⟨_, rfl, ?_⟩
    refine go rfl ⟨_, rfl, rfl, rfl, ?_⟩
    rw [← hX, mx_pp, mx_pc _ _ _ (show (42 : Nat) ≠ 40 by decide), mx_pc _ _ _ (show (43 : Nat) ≠ 40 by decide), mx_pp]
    exact ha q1 q2 q3 q4 lt' q5 q6
-- LadderWordsModel.letter(II)I
def sp_M_letter : mx_Sp := fun As F P => ∃ (th sz sp : Int32) (wy : Int64) (kp sd : Int32) (n : Nat) (N : Nat → Nat) (lt ml : Nat → Int32) (w i : Int32), As = [mx_r 40, mx_i w, mx_i i] ∧ F 40 = some (e_M th sz (nI n) sp wy kp sd) ∧ F 42 = some (mx_ia 360 lt) ∧ F 43 = some (mx_ia 60 ml) ∧ mok n N ml ∧ (∀ j k, j < n → k < N j → w = nI j → i = nI k → P (some (mx_i (lt (6 * j + k)))) (mx_put F 40 (e_M (nI 0) sz (nI n) sp wy kp sd))) ∧ ((¬ ∃ j k, j < n ∧ k < N j ∧ w = nI j ∧ i = nI k) → P (some (mx_i (-1))) (mx_put F 40 (e_M (nI 0) sz (nI n) sp wy kp sd)))
theorem d_M_letter_0 : decode c_M_letter 0 = .ok (.aload_n 0, 1) := by decide +kernel
theorem d_M_letter_1 : decode c_M_letter 1 = .ok (.iconst 0, 1) := by decide +kernel
theorem d_M_letter_2 : decode c_M_letter 2 = .ok (.putfield 48, 3) := by decide +kernel
theorem d_M_letter_5 : decode c_M_letter 5 = .ok (.aload_n 0, 1) := by decide +kernel
theorem d_M_letter_6 : decode c_M_letter 6 = .ok (.iload_n 1, 1) := by decide +kernel
theorem d_M_letter_7 : decode c_M_letter 7 = .ok (.invokevirtual 75, 3) := by decide +kernel
theorem d_M_letter_10 : decode c_M_letter 10 = .ok (.ifCond .eq 26, 3) := by decide +kernel
theorem d_M_letter_13 : decode c_M_letter 13 = .ok (.iload_n 2, 1) := by decide +kernel
theorem d_M_letter_14 : decode c_M_letter 14 = .ok (.ifCond .lt 22, 3) := by decide +kernel
theorem d_M_letter_17 : decode c_M_letter 17 = .ok (.iload_n 2, 1) := by decide +kernel
theorem d_M_letter_18 : decode c_M_letter 18 = .ok (.aload_n 0, 1) := by decide +kernel
theorem d_M_letter_19 : decode c_M_letter 19 = .ok (.getfield 16, 3) := by decide +kernel
theorem d_M_letter_22 : decode c_M_letter 22 = .ok (.iload_n 1, 1) := by decide +kernel
theorem d_M_letter_23 : decode c_M_letter 23 = .ok (.iaload, 1) := by decide +kernel
theorem d_M_letter_24 : decode c_M_letter 24 = .ok (.if_icmp .ge 12, 3) := by decide +kernel
theorem d_M_letter_27 : decode c_M_letter 27 = .ok (.aload_n 0, 1) := by decide +kernel
theorem d_M_letter_28 : decode c_M_letter 28 = .ok (.iload_n 1, 1) := by decide +kernel
theorem d_M_letter_29 : decode c_M_letter 29 = .ok (.iload_n 2, 1) := by decide +kernel
theorem d_M_letter_30 : decode c_M_letter 30 = .ok (.invokevirtual 57, 3) := by decide +kernel
theorem d_M_letter_33 : decode c_M_letter 33 = .ok (.goto 4, 3) := by decide +kernel
theorem d_M_letter_36 : decode c_M_letter 36 = .ok (.iconst (-1), 1) := by decide +kernel
theorem d_M_letter_37 : decode c_M_letter 37 = .ok (.ireturn, 1) := by decide +kernel
abbrev w_M_letter : List Cond := mx_ws y_M_letter c_M_letter 3 (some .int)
abbrev rm_M_letter : Room := { frames := 20, cells := 0, slots := 0, locals := 400 }
def t_M_letter  (P : Option mx_V → mx_F → Prop) : List (Nat × mx_O) := [
  (0, mx_aload 0 1),
  (1, mx_push (.inl (nI 0)) 2),
  (2, mx_puti 7 0 5),
  (5, mx_aload 0 6),
  (6, mx_iload 1 7),
  (7, mx_cv1 7 sp_M_isWord 0 0 10),
  (10, mx_if_eq 36 13),
  (13, mx_iload 2 14),
  (14, mx_if_lt 36 17),
  (17, mx_iload 2 18),
  (18, mx_aload 0 19),
  (19, mx_get 7 5 22),
  (22, mx_iload 1 23),
  (23, mx_iald 24),
  (24, mx_ic_ge 36 27),
  (27, mx_aload 0 28),
  (28, mx_iload 1 29),
  (29, mx_iload 2 30),
  (30, mx_cv2 7 sp_M_at 0 0 33),
  (33, mx_goto 37),
  (36, mx_push (.inl (-1)) 37),
  (37, mx_iret P)]
set_option maxRecDepth 20000 in
theorem a_M_letter  {p : Program} {l : Launch} {e : Env} {s : State} {m : MethodId} {args : Array Value} {below : List Frame} {meth : Method} {c : Code} {D : va_G} {tc : Nat → ClassId} {tb : Nat → Nat} {sz : Nat} {a0 : Nat → Nat} {G : mx_F} {P : Option mx_V → mx_F → Prop}  (C : mx_C p s m args c c_M_letter y_M_letter.cls w_M_letter D tc tb (mx_A a0 G sz) 3 (mx_Ok0 a0 G)) (hr : meth.sig.returnType = (some .int)) (hlk : meth.locks = false) : mx_all (mx_W p l e rm_M_letter s m args below meth c (MQ below (mx_Q D tc tb a0 G sz P) args s 0 0 (mx_A a0 G sz)) D tc tb (mx_A a0 G sz) 3 (mx_Ok0 a0 G)) (t_M_letter  P) :=
  ⟨mx_s_aload_n C d_M_letter_0 rfl,
  mx_s_iconst C d_M_letter_1 (by decide),
  mx_s_puti (T := T_M) (N := 18) (k := 0) C (fun w h => List.mem_cons_of_mem _ (in_M w h)) rfl ty_M ok_M nm_M (by decide) (List.mem_cons_of_mem _ fk_M_48) rfl rfl (ok_M 0 (by decide)) d_M_letter_2,
  mx_s_aload_n C d_M_letter_5 rfl,
  mx_s_iload_n C d_M_letter_6 rfl,
  mx_s_cv1 C (m_M_isWord l) rfl (cwV 1 C.2.2.2.2.1 (mx_gV (fun w h => List.mem_cons_of_mem _ h) mk_M_75 im_M_isWord se_M_isWord ic_M co_M_isWord) rfl rfl rfl (by decide +kernel) ⟨by decide, by decide⟩) d_M_letter_7 ⟨Nat.zero_le _, Nat.zero_le _⟩,
  mx_s_if_eq C d_M_letter_10 (by decide),
  mx_s_iload_n C d_M_letter_13 rfl,
  mx_s_if_lt C d_M_letter_14 (by decide),
  mx_s_iload_n C d_M_letter_17 rfl,
  mx_s_aload_n C d_M_letter_18 rfl,
  mx_s_get (T := T_M) (N := 18) (k := 5) C (fun w h => List.mem_cons_of_mem _ (in_M w h)) rfl (by decide) (List.mem_cons_of_mem _ fk_M_16) rfl d_M_letter_19,
  mx_s_iload_n C d_M_letter_22 rfl,
  mx_s_iald C d_M_letter_23,
  mx_s_ic_ge C d_M_letter_24 (by decide),
  mx_s_aload_n C d_M_letter_27 rfl,
  mx_s_iload_n C d_M_letter_28 rfl,
  mx_s_iload_n C d_M_letter_29 rfl,
  mx_s_cv2 C (m_M_at l) rfl (cwV 2 C.2.2.2.2.1 (mx_gV (fun w h => List.mem_cons_of_mem _ h) mk_M_57 im_M_at se_M_at ic_M co_M_at) rfl rfl rfl (by decide +kernel) ⟨by decide, by decide⟩) d_M_letter_30 ⟨Nat.zero_le _, Nat.zero_le _⟩,
  mx_s_goto C d_M_letter_33 (by decide),
  mx_s_iconst C d_M_letter_36 (by decide),
  mx_s_iret C hr hlk d_M_letter_37,
  trivial⟩
set_option maxRecDepth 20000 in
set_option maxHeartbeats 2000000 in
theorem m_M_letter (l : Launch) : mx_M l y_M_letter w_M_letter rm_M_letter sp_M_letter := by
  intro zD ztc ztb zad As F P sz0 h
  obtain ⟨th, sz, sp, wy, kp, sd, n, N, lt, ml, w, i, rfl, h0, h2, h3, hw, ho, hz⟩ := h
  refine mx_run (cc := c_M_letter) (maxL := 3) (ret := (some .int)) (tab := t_M_letter  P) (by decide) rfl zD ztc ztb zad _ F P sz0 (Nat.le_of_ble_eq_true rfl) (fun p e s m args below meth c C hr hlk => a_M_letter  C hr hlk) ?_
  intro Rr go
  have hF := mx_as3 h2 h3 h0
  have hX := mx_as2 h2 h3
  rw [hF]
  have hn := hw.1
  have z : (¬ ∃ j k, j < n ∧ k < N j ∧ w = nI j ∧ i = nI k) → Rr 36 (mx_en [mx_r 40, mx_i w, mx_i i] 3) [] (mx_put (mx_put (mx_put F 42 (mx_ia 360 lt)) 43 (mx_ia 60 ml)) 40 (e_M (nI 0) sz (nI n) sp wy kp sd)) 0 0 := by
    intro hc
    refine go rfl ?_
    refine go rfl ⟨_, rfl, rfl, rfl, ?_⟩
    rw [← hX]
    exact hz hc
  refine go rfl ⟨_, rfl, ?_⟩
  refine go rfl ?_
  refine go rfl ⟨_, _, _, _, rfl, rfl, (Nat.le_of_ble_eq_true rfl), ?_⟩
  rw [mx_pp]
  refine go rfl ⟨_, rfl, ?_⟩
  refine go rfl ⟨_, rfl, ?_⟩
  refine go rfl ⟨_, _, _, _, rfl, rfl, rfl, rfl, rfl, ⟨_, _, _, _, _, _, n, w, rfl, rfl, fun c => ?_, fun c => ?_⟩⟩
  · refine go rfl ⟨_, _, rfl, fun d => ?_, fun d => ?_⟩
    · refine z ?_
      rintro ⟨j, k, hj, hk, rfl, rfl⟩
      rcases c with c | c
      · exact nI_pos (by omega) c
      · exact absurd ((nI_leI (by omega) (by omega)).mp c) (by omega)
    · exact absurd rfl d
  rcases pk_ix w (n := n) (by omega) with q | q | ⟨j, hj, rfl⟩
  · exact absurd (Or.inl q) c
  · exact absurd (Or.inr q) c
  have hN := hw.2.1 j hj
  refine go rfl ⟨_, _, rfl, fun d => ?_, fun d => ?_⟩
  · exact absurd d (by decide)
  refine go rfl ⟨_, rfl, ?_⟩
  refine go rfl ⟨_, _, rfl, fun c3 => ?_, fun c3 => ?_⟩
  · refine z ?_
    rintro ⟨j2, k, hj2, hk, e1, rfl⟩
    have ej := (nI_eq (by omega) (by omega)).mp e1
    subst ej
    exact nI_pos (by omega) c3
  refine go rfl ⟨_, rfl, ?_⟩
  refine go rfl ⟨_, rfl, ?_⟩
  refine go rfl ⟨_, _, _, _, rfl, rfl, rfl, ?_⟩
  refine go rfl ⟨_, rfl, ?_⟩
  refine go rfl ⟨_, _, _, _, _, rfl, rfl, (vp_in_nI (show j < 60 by omega) (by omega)), ?_⟩
  rw [nI_clamp (by omega), hw.2.2 j hj]
  refine go rfl ⟨_, _, _, rfl, fun c4 => ?_, fun c4 => ?_⟩
  · refine z ?_
    rintro ⟨j2, k, hj2, hk, e1, rfl⟩
    have ej := (nI_eq (by omega) (by omega)).mp e1
    subst ej
    exact absurd ((nI_leI (by omega) (by omega)).mp c4) (by omega)
  obtain ⟨k, hk, rfl⟩ := nI_of c3
  have hlt : k < N j := by
    rcases Nat.lt_or_ge k (N j) with q | q
    · exact q
    · exact absurd (nI_le q (by omega)) c4
  refine go rfl ⟨_, rfl, ?_⟩
  refine go rfl ⟨_, rfl, ?_⟩
  refine go rfl ⟨_, rfl, ?_⟩
  refine go rfl ⟨_, _, _, _, _, rfl, rfl, rfl, rfl, rfl, ⟨_, _, _, _, _, _, _, lt, j, k, rfl, rfl, rfl, by omega, by omega, ?_⟩⟩
  refine go rfl ?_
  refine go rfl ⟨_, rfl, rfl, rfl, ?_⟩
  rw [← hX]
  exact ho j k hj hlt rfl rfl
