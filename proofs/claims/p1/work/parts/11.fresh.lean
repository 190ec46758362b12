-- LadderWords.unit(I)Z
def sp_L_unit : mx_Sp := fun As F P => ∃ (n : Nat) (f : Nat → Int32) (u : Int32), As = [mx_r 0, mx_i u] ∧ F 0 = some e_L ∧ F 1 = some (e_R n) ∧ F 2 = some (mx_ia 12 f) ∧ n ≤ 12 ∧ (uc n u → P (some (mx_i (nI 0))) F) ∧ (¬ uc n u → P (some (mx_i (nI 1))) (mx_put (mx_put F 2 (mx_ia 12 (upd f n u))) 1 (e_R (n + 1))))
theorem d_L_unit_0 : decode c_L_unit 0 = .ok (.aload_n 0, 1) := by decide +kernel
theorem d_L_unit_1 : decode c_L_unit 1 = .ok (.getfield 10, 3) := by decide +kernel
theorem d_L_unit_4 : decode c_L_unit 4 = .ok (.iload_n 1, 1) := by decide +kernel
theorem d_L_unit_5 : decode c_L_unit 5 = .ok (.invokevirtual 53, 3) := by decide +kernel
theorem d_L_unit_8 : decode c_L_unit 8 = .ok (.ireturn, 1) := by decide +kernel
abbrev w_L_unit : List Cond := mx_ws y_L_unit c_L_unit 2 (some .boolean)
abbrev rm_L_unit : Room := { frames := 20, cells := 0, slots := 0, locals := 400 }
def t_L_unit  (P : Option mx_V → mx_F → Prop) : List (Nat × mx_O) := [
  (0, mx_aload 0 1),
  (1, mx_get 6 0 4),
  (4, mx_iload 1 5),
  (5, mx_cv1 3 sp_R_add 0 0 8),
  (8, mx_zret P)]
set_option maxRecDepth 20000 in
theorem a_L_unit  {p : Program} {l : Launch} {e : Env} {s : State} {m : MethodId} {args : Array Value} {below : List Frame} {meth : Method} {c : Code} {D : va_G} {tc : Nat → ClassId} {tb : Nat → Nat} {sz : Nat} {a0 : Nat → Nat} {G : mx_F} {P : Option mx_V → mx_F → Prop}  (C : mx_C p s m args c c_L_unit y_L_unit.cls w_L_unit D tc tb (mx_A a0 G sz) 2 (mx_Ok0 a0 G)) (hr : meth.sig.returnType = (some .boolean)) (hlk : meth.locks = false) : mx_all (mx_W p l e rm_L_unit s m args below meth c (MQ below (mx_Q D tc tb a0 G sz P) args s 0 0 (mx_A a0 G sz)) D tc tb (mx_A a0 G sz) 2 (mx_Ok0 a0 G)) (t_L_unit  P) :=
  ⟨mx_s_aload_n C d_L_unit_0 rfl,
  mx_s_get (T := T_L) (N := 6) (k := 0) C (fun w h => List.mem_cons_of_mem _ (in_L w h)) rfl (by decide) (List.mem_cons_of_mem _ (mx_in0 (by decide +kernel) rfl)) rfl d_L_unit_1,
  mx_s_iload_n C d_L_unit_4 rfl,
  mx_s_cv1 C (m_R_add l) rfl (cwV 1 C.2.2.2.2.1 (mx_gV (fun w h => List.mem_cons_of_mem _ h) (mx_in0 (by decide +kernel) rfl) (mx_in0 (by decide +kernel) rfl) (mx_in0 (by decide +kernel) rfl) (mx_in0 (by decide +kernel) rfl) (mx_in0 (by decide +kernel) rfl)) rfl rfl rfl (by decide +kernel) ⟨by decide, by decide⟩) d_L_unit_5 ⟨Nat.zero_le _, Nat.zero_le _⟩,
  mx_s_zret C hr hlk d_L_unit_8,
  trivial⟩
set_option maxRecDepth 20000 in
set_option maxHeartbeats 2000000 in
theorem m_L_unit (l : Launch) : mx_M l y_L_unit w_L_unit rm_L_unit sp_L_unit := by
  intro D tc tb ad As F P sz0 h
  obtain ⟨n, f, u, rfl, h0, h1, h2, hn, hz, ho⟩ := h
  refine mx_run (cc := c_L_unit) (maxL := 2) (ret := (some .boolean)) (tab := t_L_unit  P) (by decide) rfl D tc tb ad _ F P sz0 (Nat.le_of_ble_eq_true rfl) (fun p e s m args below meth c C hr hlk => a_L_unit  C hr hlk) ?_
  intro Rr go
  have hF := mx_as3 h0 h1 h2
  rw [hF]
  refine go rfl ⟨_, rfl, ?_⟩
  refine go rfl ⟨_, _, _, _, rfl, rfl, rfl, ?_⟩
  refine go rfl ⟨_, rfl, ?_⟩
  refine go rfl ⟨_, _, _, _, rfl, rfl, rfl, rfl, rfl, ⟨n, f, u, rfl, rfl, rfl, hn, fun hc => ?_, fun hc => ?_⟩⟩
  · refine go rfl ⟨_, rfl, rfl, rfl, (Or.inl rfl), ?_⟩
    rw [← hF]
    exact hz hc
  · refine go rfl ⟨_, rfl, rfl, rfl, (Or.inr rfl), ?_⟩
    rw [← hF]
    exact ho hc
-- LadderWords$Words.count()I
def sp_W_count : mx_Sp := fun As F P => ∃ n : Nat, As = [mx_r 3] ∧ F 3 = some (e_W n) ∧ P (some (mx_i (nI n))) F
theorem d_W_count_0 : decode c_W_count 0 = .ok (.aload_n 0, 1) := by decide +kernel
theorem d_W_count_1 : decode c_W_count 1 = .ok (.getfield 18, 3) := by decide +kernel
theorem d_W_count_4 : decode c_W_count 4 = .ok (.ireturn, 1) := by decide +kernel
abbrev w_W_count : List Cond := mx_ws y_W_count c_W_count 1 (some .int)
abbrev rm_W_count : Room := { frames := 10, cells := 0, slots := 0, locals := 200 }
def t_W_count  (P : Option mx_V → mx_F → Prop) : List (Nat × mx_O) := [
  (0, mx_aload 0 1),
  (1, mx_get 5 2 4),
  (4, mx_iret P)]
set_option maxRecDepth 20000 in
theorem a_W_count  {p : Program} {l : Launch} {e : Env} {s : State} {m : MethodId} {args : Array Value} {below : List Frame} {meth : Method} {c : Code} {D : va_G} {tc : Nat → ClassId} {tb : Nat → Nat} {sz : Nat} {a0 : Nat → Nat} {G : mx_F} {P : Option mx_V → mx_F → Prop}  (C : mx_C p s m args c c_W_count y_W_count.cls w_W_count D tc tb (mx_A a0 G sz) 1 (mx_Ok0 a0 G)) (hr : meth.sig.returnType = (some .int)) (hlk : meth.locks = false) : mx_all (mx_W p l e rm_W_count s m args below meth c (MQ below (mx_Q D tc tb a0 G sz P) args s 0 0 (mx_A a0 G sz)) D tc tb (mx_A a0 G sz) 1 (mx_Ok0 a0 G)) (t_W_count  P) :=
  ⟨mx_s_aload_n C d_W_count_0 rfl,
  mx_s_get (T := T_W) (N := 3) (k := 2) C (fun w h => List.mem_cons_of_mem _ (in_W w h)) rfl (by decide) (List.mem_cons_of_mem _ (mx_in0 (by decide +kernel) rfl)) rfl d_W_count_1,
  mx_s_iret C hr hlk d_W_count_4,
  trivial⟩
set_option maxRecDepth 20000 in
set_option maxHeartbeats 2000000 in
theorem m_W_count (l : Launch) : mx_M l y_W_count w_W_count rm_W_count sp_W_count := by
  intro D tc tb ad As F P sz0 h
  obtain ⟨n, rfl, h1, hp⟩ := h
  refine mx_run (cc := c_W_count) (maxL := 1) (ret := (some .int)) (tab := t_W_count  P) (by decide) rfl D tc tb ad _ F P sz0 (Nat.le_of_ble_eq_true rfl) (fun p e s m args below meth c C hr hlk => a_W_count  C hr hlk) ?_
  intro Rr go
  have hF := mx_as1 h1
  rw [hF]
  refine go rfl ⟨_, rfl, ?_⟩
  refine go rfl ⟨_, _, _, _, rfl, rfl, rfl, ?_⟩
  refine go rfl ⟨_, rfl, rfl, rfl, ?_⟩
  rw [← hF]
  exact hp
-- LadderWords$Words.has(I)Z
def sp_W_has : mx_Sp := fun As F P => ∃ (n : Nat) (w : Int32), As = [mx_r 3, mx_i w] ∧ F 3 = some (e_W n) ∧ ((w < 0 ∨ nI n ≤ w) → P (some (mx_i (nI 0))) F) ∧ (¬ (w < 0 ∨ nI n ≤ w) → P (some (mx_i (nI 1))) F)
theorem d_W_has_0 : decode c_W_has 0 = .ok (.iload_n 1, 1) := by decide +kernel
theorem d_W_has_1 : decode c_W_has 1 = .ok (.ifCond .lt 15, 3) := by decide +kernel
theorem d_W_has_4 : decode c_W_has 4 = .ok (.iload_n 1, 1) := by decide +kernel
theorem d_W_has_5 : decode c_W_has 5 = .ok (.aload_n 0, 1) := by decide +kernel
theorem d_W_has_6 : decode c_W_has 6 = .ok (.getfield 18, 3) := by decide +kernel
theorem d_W_has_9 : decode c_W_has 9 = .ok (.if_icmp .ge 7, 3) := by decide +kernel
theorem d_W_has_12 : decode c_W_has 12 = .ok (.iconst 1, 1) := by decide +kernel
theorem d_W_has_13 : decode c_W_has 13 = .ok (.goto 4, 3) := by decide +kernel
theorem d_W_has_16 : decode c_W_has 16 = .ok (.iconst 0, 1) := by decide +kernel
theorem d_W_has_17 : decode c_W_has 17 = .ok (.ireturn, 1) := by decide +kernel
abbrev w_W_has : List Cond := mx_ws y_W_has c_W_has 2 (some .boolean)
abbrev rm_W_has : Room := { frames := 10, cells := 0, slots := 0, locals := 200 }
def t_W_has  (P : Option mx_V → mx_F → Prop) : List (Nat × mx_O) := [
  (0, mx_iload 1 1),
  (1, mx_if_lt 16 4),
  (4, mx_iload 1 5),
  (5, mx_aload 0 6),
  (6, mx_get 5 2 9),
  (9, mx_ic_ge 16 12),
  (12, mx_push (.inl (nI 1)) 13),
  (13, mx_goto 17),
  (16, mx_push (.inl (nI 0)) 17),
  (17, mx_zret P)]
set_option maxRecDepth 20000 in
theorem a_W_has  {p : Program} {l : Launch} {e : Env} {s : State} {m : MethodId} {args : Array Value} {below : List Frame} {meth : Method} {c : Code} {D : va_G} {tc : Nat → ClassId} {tb : Nat → Nat} {sz : Nat} {a0 : Nat → Nat} {G : mx_F} {P : Option mx_V → mx_F → Prop}  (C : mx_C p s m args c c_W_has y_W_has.cls w_W_has D tc tb (mx_A a0 G sz) 2 (mx_Ok0 a0 G)) (hr : meth.sig.returnType = (some .boolean)) (hlk : meth.locks = false) : mx_all (mx_W p l e rm_W_has s m args below meth c (MQ below (mx_Q D tc tb a0 G sz P) args s 0 0 (mx_A a0 G sz)) D tc tb (mx_A a0 G sz) 2 (mx_Ok0 a0 G)) (t_W_has  P) :=
  ⟨mx_s_iload_n C d_W_has_0 rfl,
  mx_s_if_lt C d_W_has_1 (by decide),
  mx_s_iload_n C d_W_has_4 rfl,
  mx_s_aload_n C d_W_has_5 rfl,
  mx_s_get (T := T_W) (N := 3) (k := 2) C (fun w h => List.mem_cons_of_mem _ (in_W w h)) rfl (by decide) (List.mem_cons_of_mem _ (mx_in0 (by decide +kernel) rfl)) rfl d_W_has_6,
  mx_s_ic_ge C d_W_has_9 (by decide),
  mx_s_iconst C d_W_has_12 (by decide),
  mx_s_goto C d_W_has_13 (by decide),
  mx_s_iconst C d_W_has_16 (by decide),
  mx_s_zret C hr hlk d_W_has_17,
  trivial⟩
set_option maxRecDepth 20000 in
set_option maxHeartbeats 2000000 in
theorem m_W_has (l : Launch) : mx_M l y_W_has w_W_has rm_W_has sp_W_has := by
  intro D tc tb ad As F P sz0 h
  obtain ⟨n, w, rfl, h1, hz, ho⟩ := h
  refine mx_run (cc := c_W_has) (maxL := 2) (ret := (some .boolean)) (tab := t_W_has  P) (by decide) rfl D tc tb ad _ F P sz0 (Nat.le_of_ble_eq_true rfl) (fun p e s m args below meth c C hr hlk => a_W_has  C hr hlk) ?_
  intro Rr go
  have hF := mx_as1 h1
  rw [hF]
  refine go rfl ⟨_, rfl, ?_⟩
  refine go rfl ⟨_, _, rfl, fun c1 => ?_, fun c1 => ?_⟩
  · refine go rfl ?_
    refine go rfl ⟨_, rfl, rfl, rfl, (Or.inl rfl), ?_⟩
    rw [← hF]
    exact hz (Or.inl c1)
  refine go rfl ⟨_, rfl, ?_⟩
  refine go rfl ⟨_, rfl, ?_⟩
  refine go rfl ⟨_, _, _, _, rfl, rfl, rfl, ?_⟩
  refine go rfl ⟨_, _, _, rfl, fun c2 => ?_, fun c2 => ?_⟩
  · refine go rfl ?_
    refine go rfl ⟨_, rfl, rfl, rfl, (Or.inl rfl), ?_⟩
    rw [← hF]
    exact hz (Or.inr c2)
  refine go rfl ?_
  refine go rfl ?_
  refine go rfl ⟨_, rfl, rfl, rfl, (Or.inr rfl), ?_⟩
  rw [← hF]
  exact ho (fun h => h.elim c1 c2)
-- LadderWords$Words.letterOf(II)I
/-- without words -/
def sp_W_letterOf : mx_Sp := fun As F P => ∃ (w i : Int32), As = [mx_r 3, mx_i w, mx_i i] ∧ F 3 = some (e_W 0) ∧ P (some (mx_i (-1))) F
theorem d_W_letterOf_0 : decode c_W_letterOf 0 = .ok (.iload_n 1, 1) := by decide +kernel
theorem d_W_letterOf_1 : decode c_W_letterOf 1 = .ok (.ifCond .lt 34, 3) := by decide +kernel
theorem d_W_letterOf_4 : decode c_W_letterOf 4 = .ok (.iload_n 1, 1) := by decide +kernel
theorem d_W_letterOf_5 : decode c_W_letterOf 5 = .ok (.aload_n 0, 1) := by decide +kernel
theorem d_W_letterOf_6 : decode c_W_letterOf 6 = .ok (.getfield 18, 3) := by decide +kernel
theorem d_W_letterOf_9 : decode c_W_letterOf 9 = .ok (.if_icmp .ge 26, 3) := by decide +kernel
theorem d_W_letterOf_35 : decode c_W_letterOf 35 = .ok (.iconst (-1), 1) := by decide +kernel
theorem d_W_letterOf_36 : decode c_W_letterOf 36 = .ok (.ireturn, 1) := by decide +kernel
abbrev w_W_letterOf : List Cond := mx_ws y_W_letterOf c_W_letterOf 3 (some .int)
abbrev rm_W_letterOf : Room := { frames := 10, cells := 0, slots := 0, locals := 200 }
def t_W_letterOf  (P : Option mx_V → mx_F → Prop) : List (Nat × mx_O) := [
  (0, mx_iload 1 1),
  (1, mx_if_lt 35 4),
  (4, mx_iload 1 5),
  (5, mx_aload 0 6),
  (6, mx_get 5 2 9),
  (9, mx_ic_ge 35 12),
  (35, mx_push (.inl (-1)) 36),
  (36, mx_iret P)]
set_option maxRecDepth 20000 in
theorem a_W_letterOf  {p : Program} {l : Launch} {e : Env} {s : State} {m : MethodId} {args : Array Value} {below : List Frame} {meth : Method} {c : Code} {D : va_G} {tc : Nat → ClassId} {tb : Nat → Nat} {sz : Nat} {a0 : Nat → Nat} {G : mx_F} {P : Option mx_V → mx_F → Prop}  (C : mx_C p s m args c c_W_letterOf y_W_letterOf.cls w_W_letterOf D tc tb (mx_A a0 G sz) 3 (mx_Ok0 a0 G)) (hr : meth.sig.returnType = (some .int)) (hlk : meth.locks = false) : mx_all (mx_W p l e rm_W_letterOf s m args below meth c (MQ below (mx_Q D tc tb a0 G sz P) args s 0 0 (mx_A a0 G sz)) D tc tb (mx_A a0 G sz) 3 (mx_Ok0 a0 G)) (t_W_letterOf  P) :=
  ⟨mx_s_iload_n C d_W_letterOf_0 rfl,
  mx_s_if_lt C d_W_letterOf_1 (by decide),
  mx_s_iload_n C d_W_letterOf_4 rfl,
  mx_s_aload_n C d_W_letterOf_5 rfl,
  mx_s_get (T := T_W) (N := 3) (k := 2) C (fun w h => List.mem_cons_of_mem _ (in_W w h)) rfl (by decide) (List.mem_cons_of_mem _ (mx_in0 (by decide +kernel) rfl)) rfl d_W_letterOf_6,
  mx_s_ic_ge C d_W_letterOf_9 (by decide),
  mx_s_iconst C d_W_letterOf_35 (by decide),
  mx_s_iret C hr hlk d_W_letterOf_36,
  trivial⟩
set_option maxRecDepth 20000 in
set_option maxHeartbeats 2000000 in
theorem m_W_letterOf (l : Launch) : mx_M l y_W_letterOf w_W_letterOf rm_W_letterOf sp_W_letterOf := by
  intro D tc tb ad As F P sz0 h
  obtain ⟨w, i, rfl, h1, hp⟩ := h
  refine mx_run (cc := c_W_letterOf) (maxL := 3) (ret := (some .int)) (tab := t_W_letterOf  P) (by decide) rfl D tc tb ad _ F P sz0 (Nat.le_of_ble_eq_true rfl) (fun p e s m args below meth c C hr hlk => a_W_letterOf  C hr hlk) ?_
  intro Rr go
  have hF := mx_as1 h1
  rw [hF]
  refine go rfl ⟨_, rfl, ?_⟩
  refine go rfl ⟨_, _, rfl, fun c1 => ?_, fun c1 => ?_⟩
  · refine go rfl ?_
    refine go rfl ⟨_, rfl, rfl, rfl, ?_⟩
    rw [← hF]
    exact hp
  refine go rfl ⟨_, rfl, ?_⟩
  refine go rfl ⟨_, rfl, ?_⟩
  refine go rfl ⟨_, _, _, _, rfl, rfl, rfl, ?_⟩
  refine go rfl ⟨_, _, _, rfl, fun c2 => ?_, fun c2 => ?_⟩
  · refine go rfl ?_
    refine go rfl ⟨_, rfl, rfl, rfl, ?_⟩
    rw [← hF]
    exact hp
  · exact absurd (Int32.not_lt.mp c1) c2
-- LadderWords.letter(II)I
def sp_L_letter : mx_Sp := fun As F P => ∃ (w i : Int32), As = [mx_r 0, mx_i w, mx_i i] ∧ F 0 = some e_L ∧ F 3 = some (e_W 0) ∧ P (some (mx_i (-1))) F
theorem d_L_letter_0 : decode c_L_letter 0 = .ok (.aload_n 0, 1) := by decide +kernel
theorem d_L_letter_1 : decode c_L_letter 1 = .ok (.getfield 19, 3) := by decide +kernel
theorem d_L_letter_4 : decode c_L_letter 4 = .ok (.iload_n 1, 1) := by decide +kernel
theorem d_L_letter_5 : decode c_L_letter 5 = .ok (.iload_n 2, 1) := by decide +kernel
theorem d_L_letter_6 : decode c_L_letter 6 = .ok (.invokevirtual 64, 3) := by decide +kernel
theorem d_L_letter_9 : decode c_L_letter 9 = .ok (.ireturn, 1) := by decide +kernel
abbrev w_L_letter : List Cond := mx_ws y_L_letter c_L_letter 3 (some .int)
abbrev rm_L_letter : Room := { frames := 20, cells := 0, slots := 0, locals := 400 }
def t_L_letter  (P : Option mx_V → mx_F → Prop) : List (Nat × mx_O) := [
  (0, mx_aload 0 1),
  (1, mx_get 6 1 4),
  (4, mx_iload 1 5),
  (5, mx_iload 2 6),
  (6, mx_cv2 5 sp_W_letterOf 0 0 9),
  (9, mx_iret P)]
set_option maxRecDepth 20000 in
theorem a_L_letter  {p : Program} {l : Launch} {e : Env} {s : State} {m : MethodId} {args : Array Value} {below : List Frame} {meth : Method} {c : Code} {D : va_G} {tc : Nat → ClassId} {tb : Nat → Nat} {sz : Nat} {a0 : Nat → Nat} {G : mx_F} {P : Option mx_V → mx_F → Prop}  (C : mx_C p s m args c c_L_letter y_L_letter.cls w_L_letter D tc tb (mx_A a0 G sz) 3 (mx_Ok0 a0 G)) (hr : meth.sig.returnType = (some .int)) (hlk : meth.locks = false) : mx_all (mx_W p l e rm_L_letter s m args below meth c (MQ below (mx_Q D tc tb a0 G sz P) args s 0 0 (mx_A a0 G sz)) D tc tb (mx_A a0 G sz) 3 (mx_Ok0 a0 G)) (t_L_letter  P) :=
  ⟨mx_s_aload_n C d_L_letter_0 rfl,
  mx_s_get (T := T_L) (N := 6) (k := 1) C (fun w h => List.mem_cons_of_mem _ (in_L w h)) rfl (by decide) (List.mem_cons_of_mem _ (mx_in0 (by decide +kernel) rfl)) rfl d_L_letter_1,
  mx_s_iload_n C d_L_letter_4 rfl,
  mx_s_iload_n C d_L_letter_5 rfl,
  mx_s_cv2 C (m_W_letterOf l) rfl (cwV 2 C.2.2.2.2.1 (mx_gV (fun w h => List.mem_cons_of_mem _ h) (mx_in0 (by decide +kernel) rfl) (mx_in0 (by decide +kernel) rfl) (mx_in0 (by decide +kernel) rfl) (mx_in0 (by decide +kernel) rfl) (mx_in0 (by decide +kernel) rfl)) rfl rfl rfl (by decide +kernel) ⟨by decide, by decide⟩) d_L_letter_6 ⟨Nat.zero_le _, Nat.zero_le _⟩,
  mx_s_iret C hr hlk d_L_letter_9,
  trivial⟩
set_option maxRecDepth 20000 in
set_option maxHeartbeats 2000000 in
theorem m_L_letter (l : Launch) : mx_M l y_L_letter w_L_letter rm_L_letter sp_L_letter := by
  intro D tc tb ad As F P sz0 h
  obtain ⟨w, i, rfl, h0, h1, hp⟩ := h
  refine mx_run (cc := c_L_letter) (maxL := 3) (ret := (some .int)) (tab := t_L_letter  P) (by decide) rfl D tc tb ad _ F P sz0 (Nat.le_of_ble_eq_true rfl) (fun p e s m args below meth c C hr hlk => a_L_letter  C hr hlk) ?_
  intro Rr go
  have hF := mx_as2 h0 h1
  rw [hF]
  refine go rfl ⟨_, rfl, ?_⟩
  refine go rfl ⟨_, _, _, _, rfl, rfl, rfl, ?_⟩
  refine go rfl ⟨_, rfl, ?_⟩
  refine go rfl ⟨_, rfl, ?_⟩
  refine go rfl ⟨_, _, _, _, _, rfl, rfl, rfl, rfl, rfl, ⟨w, i, rfl, rfl, ?_⟩⟩
  refine go rfl ⟨_, rfl, rfl, rfl, ?_⟩
  rw [← hF]
  exact hp
-- LadderWords$Words.numberFor(LLadderWords$Row;)I
/-- the row is empty -/
def sp_W_numberFor : mx_Sp := fun As F P => As = [mx_r 3, mx_r 1] ∧ F 1 = some (e_R 0) ∧ P (some (mx_i (-1))) F
theorem d_W_numberFor_0 : decode c_W_numberFor 0 = .ok (.aload_n 1, 1) := by decide +kernel
theorem d_W_numberFor_1 : decode c_W_numberFor 1 = .ok (.invokevirtual 26, 3) := by decide +kernel
theorem d_W_numberFor_4 : decode c_W_numberFor 4 = .ok (.ifCond .eq 12, 3) := by decide +kernel
theorem d_W_numberFor_16 : decode c_W_numberFor 16 = .ok (.iconst (-1), 1) := by decide +kernel
theorem d_W_numberFor_17 : decode c_W_numberFor 17 = .ok (.ireturn, 1) := by decide +kernel
abbrev w_W_numberFor : List Cond := mx_ws y_W_numberFor c_W_numberFor 3 (some .int)
abbrev rm_W_numberFor : Room := { frames := 40, cells := 0, slots := 0, locals := 800 }
def t_W_numberFor  (P : Option mx_V → mx_F → Prop) : List (Nat × mx_O) := [
  (0, mx_aload 1 1),
  (1, mx_cv0 3 sp_R_length 0 0 4),
  (4, mx_if_eq 16 7),
  (16, mx_push (.inl (-1)) 17),
  (17, mx_iret P)]
set_option maxRecDepth 20000 in
theorem a_W_numberFor  {p : Program} {l : Launch} {e : Env} {s : State} {m : MethodId} {args : Array Value} {below : List Frame} {meth : Method} {c : Code} {D : va_G} {tc : Nat → ClassId} {tb : Nat → Nat} {sz : Nat} {a0 : Nat → Nat} {G : mx_F} {P : Option mx_V → mx_F → Prop}  (C : mx_C p s m args c c_W_numberFor y_W_numberFor.cls w_W_numberFor D tc tb (mx_A a0 G sz) 3 (mx_Ok0 a0 G)) (hr : meth.sig.returnType = (some .int)) (hlk : meth.locks = false) : mx_all (mx_W p l e rm_W_numberFor s m args below meth c (MQ below (mx_Q D tc tb a0 G sz P) args s 0 0 (mx_A a0 G sz)) D tc tb (mx_A a0 G sz) 3 (mx_Ok0 a0 G)) (t_W_numberFor  P) :=
  ⟨mx_s_aload_n C d_W_numberFor_0 rfl,
  mx_s_cv0 C (m_R_length l) rfl (cwV 0 C.2.2.2.2.1 (mx_gV (fun w h => List.mem_cons_of_mem _ h) (mx_in0 (by decide +kernel) rfl) (mx_in0 (by decide +kernel) rfl) (mx_in0 (by decide +kernel) rfl) (mx_in0 (by decide +kernel) rfl) (mx_in0 (by decide +kernel) rfl)) rfl rfl rfl (by decide +kernel) ⟨by decide, by decide⟩) d_W_numberFor_1 ⟨Nat.zero_le _, Nat.zero_le _⟩,
  mx_s_if_eq C d_W_numberFor_4 (by decide),
  mx_s_iconst C d_W_numberFor_16 (by decide),
  mx_s_iret C hr hlk d_W_numberFor_17,
  trivial⟩
set_option maxRecDepth 20000 in
set_option maxHeartbeats 2000000 in
theorem m_W_numberFor (l : Launch) : mx_M l y_W_numberFor w_W_numberFor rm_W_numberFor sp_W_numberFor := by
  intro D tc tb ad As F P sz0 h
  obtain ⟨rfl, h1, hp⟩ := h
  refine mx_run (cc := c_W_numberFor) (maxL := 3) (ret := (some .int)) (tab := t_W_numberFor  P) (by decide) rfl D tc tb ad _ F P sz0 (Nat.le_of_ble_eq_true rfl) (fun p e s m args below meth c C hr hlk => a_W_numberFor  C hr hlk) ?_
  intro Rr go
  have hF := mx_as1 h1
  rw [hF]
  refine go rfl ⟨_, rfl, ?_⟩
  refine go rfl ⟨_, _, _, rfl, rfl, rfl, rfl, rfl, ⟨0, rfl, rfl, ?_⟩⟩
  refine go rfl ⟨_, _, rfl, fun c1 => ?_, fun c1 => ?_⟩
  · refine go rfl ?_
    refine go rfl ⟨_, rfl, rfl, rfl, ?_⟩
    rw [← hF]
    exact hp
  · exact absurd rfl c1
-- LadderWords.word()I
def sp_L_word : mx_Sp := fun As F P => As = [mx_r 0] ∧ F 0 = some e_L ∧ F 1 = some (e_R 0) ∧ (∃ n, F 3 = some (e_W n)) ∧ P (some (mx_i (-1))) (mx_put F 1 (e_R 0))
theorem d_L_word_0 : decode c_L_word 0 = .ok (.aload_n 0, 1) := by decide +kernel
theorem d_L_word_1 : decode c_L_word 1 = .ok (.getfield 19, 3) := by decide +kernel
theorem d_L_word_4 : decode c_L_word 4 = .ok (.aload_n 0, 1) := by decide +kernel
theorem d_L_word_5 : decode c_L_word 5 = .ok (.getfield 10, 3) := by decide +kernel
theorem d_L_word_8 : decode c_L_word 8 = .ok (.invokevirtual 57, 3) := by decide +kernel
theorem d_L_word_11 : decode c_L_word 11 = .ok (.istore_n 1, 1) := by decide +kernel
theorem d_L_word_12 : decode c_L_word 12 = .ok (.aload_n 0, 1) := by decide +kernel
theorem d_L_word_13 : decode c_L_word 13 = .ok (.getfield 10, 3) := by decide +kernel
theorem d_L_word_16 : decode c_L_word 16 = .ok (.invokevirtual 61, 3) := by decide +kernel
theorem d_L_word_19 : decode c_L_word 19 = .ok (.iload_n 1, 1) := by decide +kernel
theorem d_L_word_20 : decode c_L_word 20 = .ok (.ireturn, 1) := by decide +kernel
abbrev w_L_word : List Cond := mx_ws y_L_word c_L_word 2 (some .int)
abbrev rm_L_word : Room := { frames := 50, cells := 0, slots := 0, locals := 1000 }
def t_L_word  (P : Option mx_V → mx_F → Prop) : List (Nat × mx_O) := [
  (0, mx_aload 0 1),
  (1, mx_get 6 1 4),
  (4, mx_aload 0 5),
  (5, mx_get 6 0 8),
  (8, mx_cv1 5 sp_W_numberFor 0 0 11),
  (11, mx_istore 1 12),
  (12, mx_aload 0 13),
  (13, mx_get 6 0 16),
  (16, mx_cv0 3 sp_R_clear 0 0 19),
  (19, mx_iload 1 20),
  (20, mx_iret P)]
set_option maxRecDepth 20000 in
theorem a_L_word  {p : Program} {l : Launch} {e : Env} {s : State} {m : MethodId} {args : Array Value} {below : List Frame} {meth : Method} {c : Code} {D : va_G} {tc : Nat → ClassId} {tb : Nat → Nat} {sz : Nat} {a0 : Nat → Nat} {G : mx_F} {P : Option mx_V → mx_F → Prop}  (C : mx_C p s m args c c_L_word y_L_word.cls w_L_word D tc tb (mx_A a0 G sz) 2 (mx_Ok0 a0 G)) (hr : meth.sig.returnType = (some .int)) (hlk : meth.locks = false) : mx_all (mx_W p l e rm_L_word s m args below meth c (MQ below (mx_Q D tc tb a0 G sz P) args s 0 0 (mx_A a0 G sz)) D tc tb (mx_A a0 G sz) 2 (mx_Ok0 a0 G)) (t_L_word  P) :=
  ⟨mx_s_aload_n C d_L_word_0 rfl,
  mx_s_get (T := T_L) (N := 6) (k := 1) C (fun w h => List.mem_cons_of_mem _ (in_L w h)) rfl (by decide) (List.mem_cons_of_mem _ (mx_in0 (by decide +kernel) rfl)) rfl d_L_word_1,
  mx_s_aload_n C d_L_word_4 rfl,
  mx_s_get (T := T_L) (N := 6) (k := 0) C (fun w h => List.mem_cons_of_mem _ (in_L w h)) rfl (by decide) (List.mem_cons_of_mem _ (mx_in0 (by decide +kernel) rfl)) rfl d_L_word_5,
  mx_s_cv1 C (m_W_numberFor l) rfl (cwV 1 C.2.2.2.2.1 (mx_gV (fun w h => List.mem_cons_of_mem _ h) (mx_in0 (by decide +kernel) rfl) (mx_in0 (by decide +kernel) rfl) (mx_in0 (by decide +kernel) rfl) (mx_in0 (by decide +kernel) rfl) (mx_in0 (by decide +kernel) rfl)) rfl rfl rfl (by decide +kernel) ⟨by decide, by decide⟩) d_L_word_8 ⟨Nat.zero_le _, Nat.zero_le _⟩,
  mx_s_istore_n C d_L_word_11 rfl (by decide),
  mx_s_aload_n C d_L_word_12 rfl,
  mx_s_get (T := T_L) (N := 6) (k := 0) C (fun w h => List.mem_cons_of_mem _ (in_L w h)) rfl (by decide) (List.mem_cons_of_mem _ (mx_in0 (by decide +kernel) rfl)) rfl d_L_word_13,
  mx_s_cv0 C (m_R_clear l) rfl (cwV 0 C.2.2.2.2.1 (mx_gV (fun w h => List.mem_cons_of_mem _ h) (mx_in0 (by decide +kernel) rfl) (mx_in0 (by decide +kernel) rfl) (mx_in0 (by decide +kernel) rfl) (mx_in0 (by decide +kernel) rfl) (mx_in0 (by decide +kernel) rfl)) rfl rfl rfl (by decide +kernel) ⟨by decide, by decide⟩) d_L_word_16 ⟨Nat.zero_le _, Nat.zero_le _⟩,
  mx_s_iload_n C d_L_word_19 rfl,
  mx_s_iret C hr hlk d_L_word_20,
  trivial⟩
set_option maxRecDepth 20000 in
set_option maxHeartbeats 2000000 in
theorem m_L_word (l : Launch) : mx_M l y_L_word w_L_word rm_L_word sp_L_word := by
  intro D tc tb ad As F P sz0 h
  obtain ⟨rfl, h0, h1, ⟨n, h3⟩, hp⟩ := h
  refine mx_run (cc := c_L_word) (maxL := 2) (ret := (some .int)) (tab := t_L_word  P) (by decide) rfl D tc tb ad _ F P sz0 (Nat.le_of_ble_eq_true rfl) (fun p e s m args below meth c C hr hlk => a_L_word  C hr hlk) ?_
  intro Rr go
  have hF := mx_as3 h0 h1 h3
  rw [hF]
  refine go rfl ⟨_, rfl, ?_⟩
  refine go rfl ⟨_, _, _, _, rfl, rfl, rfl, ?_⟩
  refine go rfl ⟨_, rfl, ?_⟩
  refine go rfl ⟨_, _, _, _, rfl, rfl, rfl, ?_⟩
  refine go rfl ⟨_, _, _, _, rfl, rfl, rfl, rfl, rfl, ⟨rfl, rfl, ?_⟩⟩
  refine go rfl ⟨_, _, rfl, ?_⟩
  refine go rfl ⟨_, rfl, ?_⟩
  refine go rfl ⟨_, _, _, _, rfl, rfl, rfl, ?_⟩
  refine go rfl ⟨_, _, _, rfl, rfl, rfl, rfl, rfl, ⟨0, rfl, rfl, ?_⟩⟩
  refine go rfl ⟨_, rfl, ?_⟩
  refine go rfl ⟨_, rfl, rfl, rfl, ?_⟩
  rw [← hF]
  exact hp
-- LadderWords$Ladders.find(III)I
/-- without words -/
def sp_D_find : mx_Sp := fun As F P => ∃ (rc : Int32) (sh : Int64) (wt a b k : Int32), As = [mx_r 6, mx_i a, mx_i b, mx_i k] ∧ F 3 = some (e_W 0) ∧ F 6 = some (e_D rc sh wt) ∧ ∀ x, P (some (mx_i (-1))) (mx_put F 6 x)
theorem d_D_find_0 : decode c_D_find 0 = .ok (.aload_n 0, 1) := by decide +kernel
theorem d_D_find_1 : decode c_D_find 1 = .ok (.iconst 0, 1) := by decide +kernel
theorem d_D_find_2 : decode c_D_find 2 = .ok (.putfield 26, 3) := by decide +kernel
theorem d_D_find_5 : decode c_D_find 5 = .ok (.aload_n 0, 1) := by decide +kernel
theorem d_D_find_6 : decode c_D_find 6 = .ok (.lconst 0, 1) := by decide +kernel
theorem d_D_find_7 : decode c_D_find 7 = .ok (.putfield 30, 3) := by decide +kernel
theorem d_D_find_10 : decode c_D_find 10 = .ok (.aload_n 0, 1) := by decide +kernel
theorem d_D_find_11 : decode c_D_find 11 = .ok (.getfield 22, 3) := by decide +kernel
theorem d_D_find_14 : decode c_D_find 14 = .ok (.iload_n 1, 1) := by decide +kernel
theorem d_D_find_15 : decode c_D_find 15 = .ok (.invokevirtual 34, 3) := by decide +kernel
theorem d_D_find_18 : decode c_D_find 18 = .ok (.ifCond .eq 23, 3) := by decide +kernel
theorem d_D_find_41 : decode c_D_find 41 = .ok (.iconst (-1), 1) := by decide +kernel
theorem d_D_find_42 : decode c_D_find 42 = .ok (.ireturn, 1) := by decide +kernel
abbrev w_D_find : List Cond := mx_ws y_D_find c_D_find 4 (some .int)
abbrev rm_D_find : Room := { frames := 60, cells := 0, slots := 0, locals := 1200 }
def t_D_find  (P : Option mx_V → mx_F → Prop) : List (Nat × mx_O) := [
  (0, mx_aload 0 1),
  (1, mx_push (.inl (nI 0)) 2),
  (2, mx_puti 2 4 5),
  (5, mx_aload 0 6),
  (6, mx_push (.inr (.inl 0)) 7),
  (7, mx_putl 2 5 10),
  (10, mx_aload 0 11),
  (11, mx_get 2 0 14),
  (14, mx_iload 1 15),
  (15, mx_cv1 5 sp_W_has 0 0 18),
  (18, mx_if_eq 41 21),
  (41, mx_push (.inl (-1)) 42),
  (42, mx_iret P)]
set_option maxRecDepth 20000 in
theorem a_D_find  {p : Program} {l : Launch} {e : Env} {s : State} {m : MethodId} {args : Array Value} {below : List Frame} {meth : Method} {c : Code} {D : va_G} {tc : Nat → ClassId} {tb : Nat → Nat} {sz : Nat} {a0 : Nat → Nat} {G : mx_F} {P : Option mx_V → mx_F → Prop}  (C : mx_C p s m args c c_D_find y_D_find.cls w_D_find D tc tb (mx_A a0 G sz) 4 (mx_Ok0 a0 G)) (hr : meth.sig.returnType = (some .int)) (hlk : meth.locks = false) : mx_all (mx_W p l e rm_D_find s m args below meth c (MQ below (mx_Q D tc tb a0 G sz P) args s 0 0 (mx_A a0 G sz)) D tc tb (mx_A a0 G sz) 4 (mx_Ok0 a0 G)) (t_D_find  P) :=
  ⟨mx_s_aload_n C d_D_find_0 rfl,
  mx_s_iconst C d_D_find_1 (by decide),
  mx_s_puti (T := T_D) (N := 7) (k := 4) C (fun w h => List.mem_cons_of_mem _ (in_D w h)) rfl ty_D ok_D nm_D (by decide) (List.mem_cons_of_mem _ (mx_in0 (by decide +kernel) rfl)) rfl rfl (ok_D 4 (by decide)) d_D_find_2,
  mx_s_aload_n C d_D_find_5 rfl,
  mx_s_lconst C d_D_find_6 (by decide),
  mx_s_putl (T := T_D) (N := 7) (k := 5) C (fun w h => List.mem_cons_of_mem _ (in_D w h)) rfl ty_D ok_D nm_D (by decide) (List.mem_cons_of_mem _ (mx_in0 (by decide +kernel) rfl)) rfl rfl (ok_D 5 (by decide)) d_D_find_7,
  mx_s_aload_n C d_D_find_10 rfl,
  mx_s_get (T := T_D) (N := 7) (k := 0) C (fun w h => List.mem_cons_of_mem _ (in_D w h)) rfl (by decide) (List.mem_cons_of_mem _ (mx_in0 (by decide +kernel) rfl)) rfl d_D_find_11,
  mx_s_iload_n C d_D_find_14 rfl,
  mx_s_cv1 C (m_W_has l) rfl (cwV 1 C.2.2.2.2.1 (mx_gV (fun w h => List.mem_cons_of_mem _ h) (mx_in0 (by decide +kernel) rfl) (mx_in0 (by decide +kernel) rfl) (mx_in0 (by decide +kernel) rfl) (mx_in0 (by decide +kernel) rfl) (mx_in0 (by decide +kernel) rfl)) rfl rfl rfl (by decide +kernel) ⟨by decide, by decide⟩) d_D_find_15 ⟨Nat.zero_le _, Nat.zero_le _⟩,
  mx_s_if_eq C d_D_find_18 (by decide),
  mx_s_iconst C d_D_find_41 (by decide),
  mx_s_iret C hr hlk d_D_find_42,
  trivial⟩
set_option maxRecDepth 20000 in
set_option maxHeartbeats 2000000 in
theorem m_D_find (l : Launch) : mx_M l y_D_find w_D_find rm_D_find sp_D_find := by
  intro D tc tb ad As F P sz0 h
  obtain ⟨rc, sh, wt, a, b, k, rfl, h3, h6, hp⟩ := h
  refine mx_run (cc := c_D_find) (maxL := 4) (ret := (some .int)) (tab := t_D_find  P) (by decide) rfl D tc tb ad _ F P sz0 (Nat.le_of_ble_eq_true rfl) (fun p e s m args below meth c C hr hlk => a_D_find  C hr hlk) ?_
  intro Rr go
  have hF := mx_as2 h3 h6
  rw [hF]
  refine go rfl ⟨_, rfl, ?_⟩
  refine go rfl ?_
  refine go rfl ⟨_, _, _, _, rfl, rfl, (Nat.le_of_ble_eq_true rfl), ?_⟩
  refine go rfl ⟨_, rfl, ?_⟩
  refine go rfl ?_
  refine go rfl ⟨_, _, _, _, rfl, rfl, (Nat.le_of_ble_eq_true rfl), ?_⟩
  refine go rfl ⟨_, rfl, ?_⟩
  refine go rfl ⟨_, _, _, _, rfl, rfl, rfl, ?_⟩
  refine go rfl ⟨_, rfl, ?_⟩
  refine go rfl ⟨_, _, _, _, rfl, rfl, rfl, rfl, rfl, ⟨0, a, rfl, rfl, fun hc => ?_, fun hc => ?_⟩⟩
  · refine go rfl ⟨_, _, rfl, fun c1 => ?_, fun c1 => ?_⟩
    · refine go rfl ?_
      refine go rfl ⟨_, rfl, rfl, rfl, ?_⟩
      rw [← hF, mx_pp]
      exact hp _
    · exact absurd rfl c1
  · exact absurd (Int32.not_lt.mp (fun h => hc (Or.inl h))) (fun h => hc (Or.inr h))
-- LadderWords.ladder(III)I
def sp_L_ladder : mx_Sp := fun As F P => ∃ (rc : Int32) (sh : Int64) (wt a b k : Int32), As = [mx_r 0, mx_i a, mx_i b, mx_i k] ∧ F 0 = some e_L ∧ F 3 = some (e_W 0) ∧ F 6 = some (e_D rc sh wt) ∧ ∀ x, P (some (mx_i (-1))) (mx_put F 6 x)
theorem d_L_ladder_0 : decode c_L_ladder 0 = .ok (.aload_n 0, 1) := by decide +kernel
theorem d_L_ladder_1 : decode c_L_ladder 1 = .ok (.getfield 28, 3) := by decide +kernel
theorem d_L_ladder_4 : decode c_L_ladder 4 = .ok (.iload_n 1, 1) := by decide +kernel
theorem d_L_ladder_5 : decode c_L_ladder 5 = .ok (.iload_n 2, 1) := by decide +kernel
theorem d_L_ladder_6 : decode c_L_ladder 6 = .ok (.iload_n 3, 1) := by decide +kernel
theorem d_L_ladder_7 : decode c_L_ladder 7 = .ok (.invokevirtual 68, 3) := by decide +kernel
theorem d_L_ladder_10 : decode c_L_ladder 10 = .ok (.ireturn, 1) := by decide +kernel
abbrev w_L_ladder : List Cond := mx_ws y_L_ladder c_L_ladder 4 (some .int)
abbrev rm_L_ladder : Room := { frames := 70, cells := 0, slots := 0, locals := 1400 }
def t_L_ladder  (P : Option mx_V → mx_F → Prop) : List (Nat × mx_O) := [
  (0, mx_aload 0 1),
  (1, mx_get 6 2 4),
  (4, mx_iload 1 5),
  (5, mx_iload 2 6),
  (6, mx_iload 3 7),
  (7, mx_cv3 2 sp_D_find 0 0 10),
  (10, mx_iret P)]
set_option maxRecDepth 20000 in
theorem a_L_ladder  {p : Program} {l : Launch} {e : Env} {s : State} {m : MethodId} {args : Array Value} {below : List Frame} {meth : Method} {c : Code} {D : va_G} {tc : Nat → ClassId} {tb : Nat → Nat} {sz : Nat} {a0 : Nat → Nat} {G : mx_F} {P : Option mx_V → mx_F → Prop}  (C : mx_C p s m args c c_L_ladder y_L_ladder.cls w_L_ladder D tc tb (mx_A a0 G sz) 4 (mx_Ok0 a0 G)) (hr : meth.sig.returnType = (some .int)) (hlk : meth.locks = false) : mx_all (mx_W p l e rm_L_ladder s m args below meth c (MQ below (mx_Q D tc tb a0 G sz P) args s 0 0 (mx_A a0 G sz)) D tc tb (mx_A a0 G sz) 4 (mx_Ok0 a0 G)) (t_L_ladder  P) :=
  ⟨mx_s_aload_n C d_L_ladder_0 rfl,
  mx_s_get (T := T_L) (N := 6) (k := 2) C (fun w h => List.mem_cons_of_mem _ (in_L w h)) rfl (by decide) (List.mem_cons_of_mem _ (mx_in0 (by decide +kernel) rfl)) rfl d_L_ladder_1,
  mx_s_iload_n C d_L_ladder_4 rfl,
  mx_s_iload_n C d_L_ladder_5 rfl,
  mx_s_iload_n C d_L_ladder_6 rfl,
  mx_s_cv3 C (m_D_find l) rfl (cwV 3 C.2.2.2.2.1 (mx_gV (fun w h => List.mem_cons_of_mem _ h) (mx_in0 (by decide +kernel) rfl) (mx_in0 (by decide +kernel) rfl) (mx_in0 (by decide +kernel) rfl) (mx_in0 (by decide +kernel) rfl) (mx_in0 (by decide +kernel) rfl)) rfl rfl rfl (by decide +kernel) ⟨by decide, by decide⟩) d_L_ladder_7 ⟨Nat.zero_le _, Nat.zero_le _⟩,
  mx_s_iret C hr hlk d_L_ladder_10,
  trivial⟩
set_option maxRecDepth 20000 in
set_option maxHeartbeats 2000000 in
theorem m_L_ladder (l : Launch) : mx_M l y_L_ladder w_L_ladder rm_L_ladder sp_L_ladder := by
  intro D tc tb ad As F P sz0 h
  obtain ⟨rc, sh, wt, a, b, k, rfl, h0, h3, h6, hp⟩ := h
  refine mx_run (cc := c_L_ladder) (maxL := 4) (ret := (some .int)) (tab := t_L_ladder  P) (by decide) rfl D tc tb ad _ F P sz0 (Nat.le_of_ble_eq_true rfl) (fun p e s m args below meth c C hr hlk => a_L_ladder  C hr hlk) ?_
  intro Rr go
  have hF := mx_as3 h0 h3 h6
  rw [hF]
  refine go rfl ⟨_, rfl, ?_⟩
  refine go rfl ⟨_, _, _, _, rfl, rfl, rfl, ?_⟩
  refine go rfl ⟨_, rfl, ?_⟩
  refine go rfl ⟨_, rfl, ?_⟩
  refine go rfl ⟨_, rfl, ?_⟩
  refine go rfl ⟨_, _, _, _, _, _, rfl, rfl, rfl, rfl, rfl, ⟨rc, sh, wt, a, b, k, rfl, rfl, rfl, fun x => ?_⟩⟩
  refine go rfl ⟨_, rfl, rfl, rfl, ?_⟩
  rw [← hF]
  exact hp x
-- LadderWords$Ladders.rungAt(I)I
/-- nothing has been found -/
def sp_D_rungAt : mx_Sp := fun As F P => ∃ (sh : Int64) (wt k : Int32), As = [mx_r 6, mx_i k] ∧ F 6 = some (e_D 0 sh wt) ∧ P (some (mx_i (-1))) F
theorem d_D_rungAt_0 : decode c_D_rungAt 0 = .ok (.iload_n 1, 1) := by decide +kernel
theorem d_D_rungAt_1 : decode c_D_rungAt 1 = .ok (.ifCond .lt 29, 3) := by decide +kernel
theorem d_D_rungAt_4 : decode c_D_rungAt 4 = .ok (.iload_n 1, 1) := by decide +kernel
theorem d_D_rungAt_5 : decode c_D_rungAt 5 = .ok (.aload_n 0, 1) := by decide +kernel
theorem d_D_rungAt_6 : decode c_D_rungAt 6 = .ok (.getfield 26, 3) := by decide +kernel
theorem d_D_rungAt_9 : decode c_D_rungAt 9 = .ok (.if_icmp .ge 21, 3) := by decide +kernel
theorem d_D_rungAt_30 : decode c_D_rungAt 30 = .ok (.iconst 0, 1) := by decide +kernel
theorem d_D_rungAt_31 : decode c_D_rungAt 31 = .ok (.istore_n 2, 1) := by decide +kernel
theorem d_D_rungAt_32 : decode c_D_rungAt 32 = .ok (.iload_n 2, 1) := by decide +kernel
theorem d_D_rungAt_33 : decode c_D_rungAt 33 = .ok (.ifCond .eq 12, 3) := by decide +kernel
theorem d_D_rungAt_45 : decode c_D_rungAt 45 = .ok (.iconst (-1), 1) := by decide +kernel
theorem d_D_rungAt_46 : decode c_D_rungAt 46 = .ok (.ireturn, 1) := by decide +kernel
abbrev w_D_rungAt : List Cond := mx_ws y_D_rungAt c_D_rungAt 3 (some .int)
abbrev rm_D_rungAt : Room := { frames := 20, cells := 0, slots := 0, locals := 400 }
def t_D_rungAt  (P : Option mx_V → mx_F → Prop) : List (Nat × mx_O) := [
  (0, mx_iload 1 1),
  (1, mx_if_lt 30 4),
  (4, mx_iload 1 5),
  (5, mx_aload 0 6),
  (6, mx_get 2 4 9),
  (9, mx_ic_ge 30 12),
  (30, mx_push (.inl (nI 0)) 31),
  (31, mx_istore 2 32),
  (32, mx_iload 2 33),
  (33, mx_if_eq 45 36),
  (45, mx_push (.inl (-1)) 46),
  (46, mx_iret P)]
set_option maxRecDepth 20000 in
theorem a_D_rungAt  {p : Program} {l : Launch} {e : Env} {s : State} {m : MethodId} {args : Array Value} {below : List Frame} {meth : Method} {c : Code} {D : va_G} {tc : Nat → ClassId} {tb : Nat → Nat} {sz : Nat} {a0 : Nat → Nat} {G : mx_F} {P : Option mx_V → mx_F → Prop}  (C : mx_C p s m args c c_D_rungAt y_D_rungAt.cls w_D_rungAt D tc tb (mx_A a0 G sz) 3 (mx_Ok0 a0 G)) (hr : meth.sig.returnType = (some .int)) (hlk : meth.locks = false) : mx_all (mx_W p l e rm_D_rungAt s m args below meth c (MQ below (mx_Q D tc tb a0 G sz P) args s 0 0 (mx_A a0 G sz)) D tc tb (mx_A a0 G sz) 3 (mx_Ok0 a0 G)) (t_D_rungAt  P) :=
  ⟨mx_s_iload_n C d_D_rungAt_0 rfl,
  mx_s_if_lt C d_D_rungAt_1 (by decide),
  mx_s_iload_n C d_D_rungAt_4 rfl,
  mx_s_aload_n C d_D_rungAt_5 rfl,
  mx_s_get (T := T_D) (N := 7) (k := 4) C (fun w h => List.mem_cons_of_mem _ (in_D w h)) rfl (by decide) (List.mem_cons_of_mem _ (mx_in0 (by decide +kernel) rfl)) rfl d_D_rungAt_6,
  mx_s_ic_ge C d_D_rungAt_9 (by decide),
  mx_s_iconst C d_D_rungAt_30 (by decide),
  mx_s_istore_n C d_D_rungAt_31 rfl (by decide),
  mx_s_iload_n C d_D_rungAt_32 rfl,
  mx_s_if_eq C d_D_rungAt_33 (by decide),
  mx_s_iconst C d_D_rungAt_45 (by decide),
  mx_s_iret C hr hlk d_D_rungAt_46,
  trivial⟩
set_option maxRecDepth 20000 in
set_option maxHeartbeats 2000000 in
theorem m_D_rungAt (l : Launch) : mx_M l y_D_rungAt w_D_rungAt rm_D_rungAt sp_D_rungAt := by
  intro D tc tb ad As F P sz0 h
  obtain ⟨sh, wt, k, rfl, h1, hp⟩ := h
  refine mx_run (cc := c_D_rungAt) (maxL := 3) (ret := (some .int)) (tab := t_D_rungAt  P) (by decide) rfl D tc tb ad _ F P sz0 (Nat.le_of_ble_eq_true rfl) (fun p e s m args below meth c C hr hlk => a_D_rungAt  C hr hlk) ?_
  intro Rr go
  have hF := mx_as1 h1
  rw [hF]
  refine go rfl ⟨_, rfl, ?_⟩
  refine go rfl ⟨_, _, rfl, fun c1 => ?_, fun c1 => ?_⟩
  · refine go rfl ?_
    refine go rfl ⟨_, _, rfl, ?_⟩
    refine go rfl ⟨_, rfl, ?_⟩
    refine go rfl ⟨_, _, rfl, fun c3 => ?_, fun c3 => ?_⟩
    · refine go rfl ?_
      refine go rfl ⟨_, rfl, rfl, rfl, ?_⟩
      rw [← hF]
      exact hp
    · exact absurd rfl c3
  refine go rfl ⟨_, rfl, ?_⟩
  refine go rfl ⟨_, rfl, ?_⟩
  refine go rfl ⟨_, _, _, _, rfl, rfl, rfl, ?_⟩
  refine go rfl ⟨_, _, _, rfl, fun c2 => ?_, fun c2 => ?_⟩
  · refine go rfl ?_
    refine go rfl ⟨_, _, rfl, ?_⟩
    refine go rfl ⟨_, rfl, ?_⟩
    refine go rfl ⟨_, _, rfl, fun c3 => ?_, fun c3 => ?_⟩
    · refine go rfl ?_
      refine go rfl ⟨_, rfl, rfl, rfl, ?_⟩
      rw [← hF]
      exact hp
    · exact absurd rfl c3
  · exact absurd (Int32.not_lt.mp c1) c2
-- LadderWords.step(I)I
def sp_L_step : mx_Sp := fun As F P => ∃ (sh : Int64) (wt k : Int32), As = [mx_r 0, mx_i k] ∧ F 0 = some e_L ∧ F 6 = some (e_D 0 sh wt) ∧ P (some (mx_i (-1))) F
theorem d_L_step_0 : decode c_L_step 0 = .ok (.aload_n 0, 1) := by decide +kernel
theorem d_L_step_1 : decode c_L_step 1 = .ok (.getfield 28, 3) := by decide +kernel
theorem d_L_step_4 : decode c_L_step 4 = .ok (.iload_n 1, 1) := by decide +kernel
theorem d_L_step_5 : decode c_L_step 5 = .ok (.invokevirtual 72, 3) := by decide +kernel
theorem d_L_step_8 : decode c_L_step 8 = .ok (.ireturn, 1) := by decide +kernel
abbrev w_L_step : List Cond := mx_ws y_L_step c_L_step 2 (some .int)
abbrev rm_L_step : Room := { frames := 30, cells := 0, slots := 0, locals := 600 }
def t_L_step  (P : Option mx_V → mx_F → Prop) : List (Nat × mx_O) := [
  (0, mx_aload 0 1),
  (1, mx_get 6 2 4),
  (4, mx_iload 1 5),
  (5, mx_cv1 2 sp_D_rungAt 0 0 8),
  (8, mx_iret P)]
set_option maxRecDepth 20000 in
theorem a_L_step  {p : Program} {l : Launch} {e : Env} {s : State} {m : MethodId} {args : Array Value} {below : List Frame} {meth : Method} {c : Code} {D : va_G} {tc : Nat → ClassId} {tb : Nat → Nat} {sz : Nat} {a0 : Nat → Nat} {G : mx_F} {P : Option mx_V → mx_F → Prop}  (C : mx_C p s m args c c_L_step y_L_step.cls w_L_step D tc tb (mx_A a0 G sz) 2 (mx_Ok0 a0 G)) (hr : meth.sig.returnType = (some .int)) (hlk : meth.locks = false) : mx_all (mx_W p l e rm_L_step s m args below meth c (MQ below (mx_Q D tc tb a0 G sz P) args s 0 0 (mx_A a0 G sz)) D tc tb (mx_A a0 G sz) 2 (mx_Ok0 a0 G)) (t_L_step  P) :=
  ⟨mx_s_aload_n C d_L_step_0 rfl,
  mx_s_get (T := T_L) (N := 6) (k := 2) C (fun w h => List.mem_cons_of_mem _ (in_L w h)) rfl (by decide) (List.mem_cons_of_mem _ (mx_in0 (by decide +kernel) rfl)) rfl d_L_step_1,
  mx_s_iload_n C d_L_step_4 rfl,
  mx_s_cv1 C (m_D_rungAt l) rfl (cwV 1 C.2.2.2.2.1 (mx_gV (fun w h => List.mem_cons_of_mem _ h) (mx_in0 (by decide +kernel) rfl) (mx_in0 (by decide +kernel) rfl) (mx_in0 (by decide +kernel) rfl) (mx_in0 (by decide +kernel) rfl) (mx_in0 (by decide +kernel) rfl)) rfl rfl rfl (by decide +kernel) ⟨by decide, by decide⟩) d_L_step_5 ⟨Nat.zero_le _, Nat.zero_le _⟩,
  mx_s_iret C hr hlk d_L_step_8,
  trivial⟩
set_option maxRecDepth 20000 in
set_option maxHeartbeats 2000000 in
theorem m_L_step (l : Launch) : mx_M l y_L_step w_L_step rm_L_step sp_L_step := by
  intro D tc tb ad As F P sz0 h
  obtain ⟨sh, wt, k, rfl, h0, h1, hp⟩ := h
  refine mx_run (cc := c_L_step) (maxL := 2) (ret := (some .int)) (tab := t_L_step  P) (by decide) rfl D tc tb ad _ F P sz0 (Nat.le_of_ble_eq_true rfl) (fun p e s m args below meth c C hr hlk => a_L_step  C hr hlk) ?_
  intro Rr go
  have hF := mx_as2 h0 h1
  rw [hF]
  refine go rfl ⟨_, rfl, ?_⟩
  refine go rfl ⟨_, _, _, _, rfl, rfl, rfl, ?_⟩
  refine go rfl ⟨_, rfl, ?_⟩
  refine go rfl ⟨_, _, _, _, rfl, rfl, rfl, rfl, rfl, ⟨sh, wt, k, rfl, rfl, ?_⟩⟩
  refine go rfl ⟨_, rfl, rfl, rfl, ?_⟩
  rw [← hF]
  exact hp
-- LadderWords$Squares.wordAt(I)I
/-- nothing has been found -/
def sp_Q_wordAt : mx_Sp := fun As F P => ∃ (wt k : Int32), As = [mx_r 15, mx_i k] ∧ F 15 = some (e_Q 0 wt) ∧ P (some (mx_i (-1))) F
theorem d_Q_wordAt_0 : decode c_Q_wordAt 0 = .ok (.iload_n 1, 1) := by decide +kernel
theorem d_Q_wordAt_1 : decode c_Q_wordAt 1 = .ok (.ifCond .lt 29, 3) := by decide +kernel
theorem d_Q_wordAt_4 : decode c_Q_wordAt 4 = .ok (.iload_n 1, 1) := by decide +kernel
theorem d_Q_wordAt_5 : decode c_Q_wordAt 5 = .ok (.aload_n 0, 1) := by decide +kernel
theorem d_Q_wordAt_6 : decode c_Q_wordAt 6 = .ok (.getfield 27, 3) := by decide +kernel
theorem d_Q_wordAt_9 : decode c_Q_wordAt 9 = .ok (.if_icmp .ge 21, 3) := by decide +kernel
theorem d_Q_wordAt_30 : decode c_Q_wordAt 30 = .ok (.iconst 0, 1) := by decide +kernel
theorem d_Q_wordAt_31 : decode c_Q_wordAt 31 = .ok (.istore_n 2, 1) := by decide +kernel
theorem d_Q_wordAt_32 : decode c_Q_wordAt 32 = .ok (.iload_n 2, 1) := by decide +kernel
theorem d_Q_wordAt_33 : decode c_Q_wordAt 33 = .ok (.ifCond .eq 12, 3) := by decide +kernel
theorem d_Q_wordAt_45 : decode c_Q_wordAt 45 = .ok (.iconst (-1), 1) := by decide +kernel
theorem d_Q_wordAt_46 : decode c_Q_wordAt 46 = .ok (.ireturn, 1) := by decide +kernel
abbrev w_Q_wordAt : List Cond := mx_ws y_Q_wordAt c_Q_wordAt 3 (some .int)
abbrev rm_Q_wordAt : Room := { frames := 20, cells := 0, slots := 0, locals := 400 }
def t_Q_wordAt  (P : Option mx_V → mx_F → Prop) : List (Nat × mx_O) := [
  (0, mx_iload 1 1),
  (1, mx_if_lt 30 4),
  (4, mx_iload 1 5),
  (5, mx_aload 0 6),
  (6, mx_get 4 4 9),
  (9, mx_ic_ge 30 12),
  (30, mx_push (.inl (nI 0)) 31),
  (31, mx_istore 2 32),
  (32, mx_iload 2 33),
  (33, mx_if_eq 45 36),
  (45, mx_push (.inl (-1)) 46),
  (46, mx_iret P)]
set_option maxRecDepth 20000 in
theorem a_Q_wordAt  {p : Program} {l : Launch} {e : Env} {s : State} {m : MethodId} {args : Array Value} {below : List Frame} {meth : Method} {c : Code} {D : va_G} {tc : Nat → ClassId} {tb : Nat → Nat} {sz : Nat} {a0 : Nat → Nat} {G : mx_F} {P : Option mx_V → mx_F → Prop}  (C : mx_C p s m args c c_Q_wordAt y_Q_wordAt.cls w_Q_wordAt D tc tb (mx_A a0 G sz) 3 (mx_Ok0 a0 G)) (hr : meth.sig.returnType = (some .int)) (hlk : meth.locks = false) : mx_all (mx_W p l e rm_Q_wordAt s m args below meth c (MQ below (mx_Q D tc tb a0 G sz P) args s 0 0 (mx_A a0 G sz)) D tc tb (mx_A a0 G sz) 3 (mx_Ok0 a0 G)) (t_Q_wordAt  P) :=
  ⟨mx_s_iload_n C d_Q_wordAt_0 rfl,
  mx_s_if_lt C d_Q_wordAt_1 (by decide),
  mx_s_iload_n C d_Q_wordAt_4 rfl,
  mx_s_aload_n C d_Q_wordAt_5 rfl,
  mx_s_get (T := T_Q) (N := 6) (k := 4) C (fun w h => List.mem_cons_of_mem _ (in_Q w h)) rfl (by decide) (List.mem_cons_of_mem _ (mx_in0 (by decide +kernel) rfl)) rfl d_Q_wordAt_6,
  mx_s_ic_ge C d_Q_wordAt_9 (by decide),
  mx_s_iconst C d_Q_wordAt_30 (by decide),
  mx_s_istore_n C d_Q_wordAt_31 rfl (by decide),
  mx_s_iload_n C d_Q_wordAt_32 rfl,
  mx_s_if_eq C d_Q_wordAt_33 (by decide),
  mx_s_iconst C d_Q_wordAt_45 (by decide),
  mx_s_iret C hr hlk d_Q_wordAt_46,
  trivial⟩
set_option maxRecDepth 20000 in
set_option maxHeartbeats 2000000 in
theorem m_Q_wordAt (l : Launch) : mx_M l y_Q_wordAt w_Q_wordAt rm_Q_wordAt sp_Q_wordAt := by
  intro D tc tb ad As F P sz0 h
  obtain ⟨wt, k, rfl, h1, hp⟩ := h
  refine mx_run (cc := c_Q_wordAt) (maxL := 3) (ret := (some .int)) (tab := t_Q_wordAt  P) (by decide) rfl D tc tb ad _ F P sz0 (Nat.le_of_ble_eq_true rfl) (fun p e s m args below meth c C hr hlk => a_Q_wordAt  C hr hlk) ?_
  intro Rr go
  have hF := mx_as1 h1
  rw [hF]
  refine go rfl ⟨_, rfl, ?_⟩
  refine go rfl ⟨_, _, rfl, fun c1 => ?_, fun c1 => ?_⟩
  · refine go rfl ?_
    refine go rfl ⟨_, _, rfl, ?_⟩
    refine go rfl ⟨_, rfl, ?_⟩
    refine go rfl ⟨_, _, rfl, fun c3 => ?_, fun c3 => ?_⟩
    · refine go rfl ?_
      refine go rfl ⟨_, rfl, rfl, rfl, ?_⟩
      rw [← hF]
      exact hp
    · exact absurd rfl c3
  refine go rfl ⟨_, rfl, ?_⟩
  refine go rfl ⟨_, rfl, ?_⟩
  refine go rfl ⟨_, _, _, _, rfl, rfl, rfl, ?_⟩
  refine go rfl ⟨_, _, _, rfl, fun c2 => ?_, fun c2 => ?_⟩
  · refine go rfl ?_
    refine go rfl ⟨_, _, rfl, ?_⟩
    refine go rfl ⟨_, rfl, ?_⟩
    refine go rfl ⟨_, _, rfl, fun c3 => ?_, fun c3 => ?_⟩
    · refine go rfl ?_
      refine go rfl ⟨_, rfl, rfl, rfl, ?_⟩
      rw [← hF]
      exact hp
    · exact absurd rfl c3
  · exact absurd (Int32.not_lt.mp c1) c2
-- LadderWords.line(I)I
def sp_L_line : mx_Sp := fun As F P => ∃ (wt k : Int32), As = [mx_r 0, mx_i k] ∧ F 0 = some e_L ∧ F 15 = some (e_Q 0 wt) ∧ P (some (mx_i (-1))) F
theorem d_L_line_0 : decode c_L_line 0 = .ok (.aload_n 0, 1) := by decide +kernel
theorem d_L_line_1 : decode c_L_line 1 = .ok (.getfield 42, 3) := by decide +kernel
theorem d_L_line_4 : decode c_L_line 4 = .ok (.iload_n 1, 1) := by decide +kernel
theorem d_L_line_5 : decode c_L_line 5 = .ok (.invokevirtual 88, 3) := by decide +kernel
theorem d_L_line_8 : decode c_L_line 8 = .ok (.ireturn, 1) := by decide +kernel
abbrev w_L_line : List Cond := mx_ws y_L_line c_L_line 2 (some .int)
abbrev rm_L_line : Room := { frames := 30, cells := 0, slots := 0, locals := 600 }
def t_L_line  (P : Option mx_V → mx_F → Prop) : List (Nat × mx_O) := [
  (0, mx_aload 0 1),
  (1, mx_get 6 4 4),
  (4, mx_iload 1 5),
  (5, mx_cv1 4 sp_Q_wordAt 0 0 8),
  (8, mx_iret P)]
set_option maxRecDepth 20000 in
theorem a_L_line  {p : Program} {l : Launch} {e : Env} {s : State} {m : MethodId} {args : Array Value} {below : List Frame} {meth : Method} {c : Code} {D : va_G} {tc : Nat → ClassId} {tb : Nat → Nat} {sz : Nat} {a0 : Nat → Nat} {G : mx_F} {P : Option mx_V → mx_F → Prop}  (C : mx_C p s m args c c_L_line y_L_line.cls w_L_line D tc tb (mx_A a0 G sz) 2 (mx_Ok0 a0 G)) (hr : meth.sig.returnType = (some .int)) (hlk : meth.locks = false) : mx_all (mx_W p l e rm_L_line s m args below meth c (MQ below (mx_Q D tc tb a0 G sz P) args s 0 0 (mx_A a0 G sz)) D tc tb (mx_A a0 G sz) 2 (mx_Ok0 a0 G)) (t_L_line  P) :=
  ⟨mx_s_aload_n C d_L_line_0 rfl,
  mx_s_get (T := T_L) (N := 6) (k := 4) C (fun w h => List.mem_cons_of_mem _ (in_L w h)) rfl (by decide) (List.mem_cons_of_mem _ (mx_in0 (by decide +kernel) rfl)) rfl d_L_line_1,
  mx_s_iload_n C d_L_line_4 rfl,
  mx_s_cv1 C (m_Q_wordAt l) rfl (cwV 1 C.2.2.2.2.1 (mx_gV (fun w h => List.mem_cons_of_mem _ h) (mx_in0 (by decide +kernel) rfl) (mx_in0 (by decide +kernel) rfl) (mx_in0 (by decide +kernel) rfl) (mx_in0 (by decide +kernel) rfl) (mx_in0 (by decide +kernel) rfl)) rfl rfl rfl (by decide +kernel) ⟨by decide, by decide⟩) d_L_line_5 ⟨Nat.zero_le _, Nat.zero_le _⟩,
  mx_s_iret C hr hlk d_L_line_8,
  trivial⟩
set_option maxRecDepth 20000 in
set_option maxHeartbeats 2000000 in
theorem m_L_line (l : Launch) : mx_M l y_L_line w_L_line rm_L_line sp_L_line := by
  intro D tc tb ad As F P sz0 h
  obtain ⟨wt, k, rfl, h0, h1, hp⟩ := h
  refine mx_run (cc := c_L_line) (maxL := 2) (ret := (some .int)) (tab := t_L_line  P) (by decide) rfl D tc tb ad _ F P sz0 (Nat.le_of_ble_eq_true rfl) (fun p e s m args below meth c C hr hlk => a_L_line  C hr hlk) ?_
  intro Rr go
  have hF := mx_as2 h0 h1
  rw [hF]
  refine go rfl ⟨_, rfl, ?_⟩
  refine go rfl ⟨_, _, _, _, rfl, rfl, rfl, ?_⟩
  refine go rfl ⟨_, rfl, ?_⟩
  refine go rfl ⟨_, _, _, _, rfl, rfl, rfl, rfl, rfl, ⟨wt, k, rfl, rfl, ?_⟩⟩
  refine go rfl ⟨_, rfl, rfl, rfl, ?_⟩
  rw [← hF]
  exact hp
-- LadderWords$Ladders.shortestCount()J
def sp_D_shortestCount : mx_Sp := fun As F P => ∃ (rc : Int32) (sh : Int64) (wt : Int32), As = [mx_r 6] ∧ F 6 = some (e_D rc sh wt) ∧ P (some (mx_l sh)) F
theorem d_D_shortestCount_0 : decode c_D_shortestCount 0 = .ok (.aload_n 0, 1) := by decide +kernel
theorem d_D_shortestCount_1 : decode c_D_shortestCount 1 = .ok (.getfield 30, 3) := by decide +kernel
theorem d_D_shortestCount_4 : decode c_D_shortestCount 4 = .ok (.lreturn, 1) := by decide +kernel
abbrev w_D_shortestCount : List Cond := mx_ws y_D_shortestCount c_D_shortestCount 1 (some .long)
abbrev rm_D_shortestCount : Room := { frames := 10, cells := 0, slots := 0, locals := 200 }
def t_D_shortestCount  (P : Option mx_V → mx_F → Prop) : List (Nat × mx_O) := [
  (0, mx_aload 0 1),
  (1, mx_get 2 5 4),
  (4, mx_lret P)]
set_option maxRecDepth 20000 in
theorem a_D_shortestCount  {p : Program} {l : Launch} {e : Env} {s : State} {m : MethodId} {args : Array Value} {below : List Frame} {meth : Method} {c : Code} {D : va_G} {tc : Nat → ClassId} {tb : Nat → Nat} {sz : Nat} {a0 : Nat → Nat} {G : mx_F} {P : Option mx_V → mx_F → Prop}  (C : mx_C p s m args c c_D_shortestCount y_D_shortestCount.cls w_D_shortestCount D tc tb (mx_A a0 G sz) 1 (mx_Ok0 a0 G)) (hr : meth.sig.returnType = (some .long)) (hlk : meth.locks = false) : mx_all (mx_W p l e rm_D_shortestCount s m args below meth c (MQ below (mx_Q D tc tb a0 G sz P) args s 0 0 (mx_A a0 G sz)) D tc tb (mx_A a0 G sz) 1 (mx_Ok0 a0 G)) (t_D_shortestCount  P) :=
  ⟨mx_s_aload_n C d_D_shortestCount_0 rfl,
  mx_s_get (T := T_D) (N := 7) (k := 5) C (fun w h => List.mem_cons_of_mem _ (in_D w h)) rfl (by decide) (List.mem_cons_of_mem _ (mx_in0 (by decide +kernel) rfl)) rfl d_D_shortestCount_1,
  mx_s_lret C hr hlk d_D_shortestCount_4,
  trivial⟩
set_option maxRecDepth 20000 in
set_option maxHeartbeats 2000000 in
theorem m_D_shortestCount (l : Launch) : mx_M l y_D_shortestCount w_D_shortestCount rm_D_shortestCount sp_D_shortestCount := by
  intro D tc tb ad As F P sz0 h
  obtain ⟨rc, sh, wt, rfl, h1, hp⟩ := h
  refine mx_run (cc := c_D_shortestCount) (maxL := 1) (ret := (some .long)) (tab := t_D_shortestCount  P) (by decide) rfl D tc tb ad _ F P sz0 (Nat.le_of_ble_eq_true rfl) (fun p e s m args below meth c C hr hlk => a_D_shortestCount  C hr hlk) ?_
  intro Rr go
  have hF := mx_as1 h1
  rw [hF]
  refine go rfl ⟨_, rfl, ?_⟩
  refine go rfl ⟨_, _, _, _, rfl, rfl, rfl, ?_⟩
  refine go rfl ⟨_, rfl, rfl, rfl, ?_⟩
  rw [← hF]
  exact hp
-- LadderWords.ways()J
def sp_L_ways : mx_Sp := fun As F P => ∃ (rc : Int32) (sh : Int64) (wt : Int32), As = [mx_r 0] ∧ F 0 = some e_L ∧ F 6 = some (e_D rc sh wt) ∧ P (some (mx_l sh)) F
theorem d_L_ways_0 : decode c_L_ways 0 = .ok (.aload_n 0, 1) := by decide +kernel
theorem d_L_ways_1 : decode c_L_ways 1 = .ok (.getfield 28, 3) := by decide +kernel
theorem d_L_ways_4 : decode c_L_ways 4 = .ok (.invokevirtual 76, 3) := by decide +kernel
theorem d_L_ways_7 : decode c_L_ways 7 = .ok (.lreturn, 1) := by decide +kernel
abbrev w_L_ways : List Cond := mx_ws y_L_ways c_L_ways 1 (some .long)
abbrev rm_L_ways : Room := { frames := 20, cells := 0, slots := 0, locals := 400 }
def t_L_ways  (P : Option mx_V → mx_F → Prop) : List (Nat × mx_O) := [
  (0, mx_aload 0 1),
  (1, mx_get 6 2 4),
  (4, mx_cv0 2 sp_D_shortestCount 0 0 7),
  (7, mx_lret P)]
set_option maxRecDepth 20000 in
theorem a_L_ways  {p : Program} {l : Launch} {e : Env} {s : State} {m : MethodId} {args : Array Value} {below : List Frame} {meth : Method} {c : Code} {D : va_G} {tc : Nat → ClassId} {tb : Nat → Nat} {sz : Nat} {a0 : Nat → Nat} {G : mx_F} {P : Option mx_V → mx_F → Prop}  (C : mx_C p s m args c c_L_ways y_L_ways.cls w_L_ways D tc tb (mx_A a0 G sz) 1 (mx_Ok0 a0 G)) (hr : meth.sig.returnType = (some .long)) (hlk : meth.locks = false) : mx_all (mx_W p l e rm_L_ways s m args below meth c (MQ below (mx_Q D tc tb a0 G sz P) args s 0 0 (mx_A a0 G sz)) D tc tb (mx_A a0 G sz) 1 (mx_Ok0 a0 G)) (t_L_ways  P) :=
  ⟨mx_s_aload_n C d_L_ways_0 rfl,
  mx_s_get (T := T_L) (N := 6) (k := 2) C (fun w h => List.mem_cons_of_mem _ (in_L w h)) rfl (by decide) (List.mem_cons_of_mem _ (mx_in0 (by decide +kernel) rfl)) rfl d_L_ways_1,
  mx_s_cv0 C (m_D_shortestCount l) rfl (cwV 0 C.2.2.2.2.1 (mx_gV (fun w h => List.mem_cons_of_mem _ h) (mx_in0 (by decide +kernel) rfl) (mx_in0 (by decide +kernel) rfl) (mx_in0 (by decide +kernel) rfl) (mx_in0 (by decide +kernel) rfl) (mx_in0 (by decide +kernel) rfl)) rfl rfl rfl (by decide +kernel) ⟨by decide, by decide⟩) d_L_ways_4 ⟨Nat.zero_le _, Nat.zero_le _⟩,
  mx_s_lret C hr hlk d_L_ways_7,
  trivial⟩
set_option maxRecDepth 20000 in
set_option maxHeartbeats 2000000 in
theorem m_L_ways (l : Launch) : mx_M l y_L_ways w_L_ways rm_L_ways sp_L_ways := by
  intro D tc tb ad As F P sz0 h
  obtain ⟨rc, sh, wt, rfl, h0, h1, hp⟩ := h
  refine mx_run (cc := c_L_ways) (maxL := 1) (ret := (some .long)) (tab := t_L_ways  P) (by decide) rfl D tc tb ad _ F P sz0 (Nat.le_of_ble_eq_true rfl) (fun p e s m args below meth c C hr hlk => a_L_ways  C hr hlk) ?_
  intro Rr go
  have hF := mx_as2 h0 h1
  rw [hF]
  refine go rfl ⟨_, rfl, ?_⟩
  refine go rfl ⟨_, _, _, _, rfl, rfl, rfl, ?_⟩
  refine go rfl ⟨_, _, _, rfl, rfl, rfl, rfl, rfl, ⟨rc, sh, wt, rfl, rfl, ?_⟩⟩
  refine go rfl ⟨_, rfl, rfl, rfl, ?_⟩
  rw [← hF]
  exact hp
-- LadderWords$Gatherings.wordAt(II)I
/-- nothing is kept -/
def sp_G_wordAt : mx_Sp := fun As F P => ∃ (fc tot wt k i : Int32), As = [mx_r 10, mx_i k, mx_i i] ∧ F 10 = some (e_G fc 0 tot wt) ∧ P (some (mx_i (-1))) F
theorem d_G_wordAt_0 : decode c_G_wordAt 0 = .ok (.iload_n 1, 1) := by decide +kernel
theorem d_G_wordAt_1 : decode c_G_wordAt 1 = .ok (.ifCond .lt 38, 3) := by decide +kernel
theorem d_G_wordAt_4 : decode c_G_wordAt 4 = .ok (.iload_n 1, 1) := by decide +kernel
theorem d_G_wordAt_5 : decode c_G_wordAt 5 = .ok (.aload_n 0, 1) := by decide +kernel
theorem d_G_wordAt_6 : decode c_G_wordAt 6 = .ok (.getfield 29, 3) := by decide +kernel
theorem d_G_wordAt_9 : decode c_G_wordAt 9 = .ok (.if_icmp .ge 30, 3) := by decide +kernel
theorem d_G_wordAt_39 : decode c_G_wordAt 39 = .ok (.iconst 0, 1) := by decide +kernel
theorem d_G_wordAt_40 : decode c_G_wordAt 40 = .ok (.istore_n 3, 1) := by decide +kernel
theorem d_G_wordAt_41 : decode c_G_wordAt 41 = .ok (.iload_n 3, 1) := by decide +kernel
theorem d_G_wordAt_42 : decode c_G_wordAt 42 = .ok (.ifCond .eq 16, 3) := by decide +kernel
theorem d_G_wordAt_58 : decode c_G_wordAt 58 = .ok (.iconst (-1), 1) := by decide +kernel
theorem d_G_wordAt_59 : decode c_G_wordAt 59 = .ok (.ireturn, 1) := by decide +kernel
abbrev w_G_wordAt : List Cond := mx_ws y_G_wordAt c_G_wordAt 4 (some .int)
abbrev rm_G_wordAt : Room := { frames := 20, cells := 0, slots := 0, locals := 400 }
def t_G_wordAt  (P : Option mx_V → mx_F → Prop) : List (Nat × mx_O) := [
  (0, mx_iload 1 1),
  (1, mx_if_lt 39 4),
  (4, mx_iload 1 5),
  (5, mx_aload 0 6),
  (6, mx_get 0 6 9),
  (9, mx_ic_ge 39 12),
  (39, mx_push (.inl (nI 0)) 40),
  (40, mx_istore 3 41),
  (41, mx_iload 3 42),
  (42, mx_if_eq 58 45),
  (58, mx_push (.inl (-1)) 59),
  (59, mx_iret P)]
set_option maxRecDepth 20000 in
theorem a_G_wordAt  {p : Program} {l : Launch} {e : Env} {s : State} {m : MethodId} {args : Array Value} {below : List Frame} {meth : Method} {c : Code} {D : va_G} {tc : Nat → ClassId} {tb : Nat → Nat} {sz : Nat} {a0 : Nat → Nat} {G : mx_F} {P : Option mx_V → mx_F → Prop}  (C : mx_C p s m args c c_G_wordAt y_G_wordAt.cls w_G_wordAt D tc tb (mx_A a0 G sz) 4 (mx_Ok0 a0 G)) (hr : meth.sig.returnType = (some .int)) (hlk : meth.locks = false) : mx_all (mx_W p l e rm_G_wordAt s m args below meth c (MQ below (mx_Q D tc tb a0 G sz P) args s 0 0 (mx_A a0 G sz)) D tc tb (mx_A a0 G sz) 4 (mx_Ok0 a0 G)) (t_G_wordAt  P) :=
  ⟨mx_s_iload_n C d_G_wordAt_0 rfl,
  mx_s_if_lt C d_G_wordAt_1 (by decide),
  mx_s_iload_n C d_G_wordAt_4 rfl,
  mx_s_aload_n C d_G_wordAt_5 rfl,
  mx_s_get (T := T_G) (N := 9) (k := 6) C (fun w h => List.mem_cons_of_mem _ (in_G w h)) rfl (by decide) (List.mem_cons_of_mem _ (mx_in0 (by decide +kernel) rfl)) rfl d_G_wordAt_6,
  mx_s_ic_ge C d_G_wordAt_9 (by decide),
  mx_s_iconst C d_G_wordAt_39 (by decide),
  mx_s_istore_n C d_G_wordAt_40 rfl (by decide),
  mx_s_iload_n C d_G_wordAt_41 rfl,
  mx_s_if_eq C d_G_wordAt_42 (by decide),
  mx_s_iconst C d_G_wordAt_58 (by decide),
  mx_s_iret C hr hlk d_G_wordAt_59,
  trivial⟩
set_option maxRecDepth 20000 in
set_option maxHeartbeats 2000000 in
theorem m_G_wordAt (l : Launch) : mx_M l y_G_wordAt w_G_wordAt rm_G_wordAt sp_G_wordAt := by
  intro D tc tb ad As F P sz0 h
  obtain ⟨fc, tot, wt, k, i, rfl, h1, hp⟩ := h
  refine mx_run (cc := c_G_wordAt) (maxL := 4) (ret := (some .int)) (tab := t_G_wordAt  P) (by decide) rfl D tc tb ad _ F P sz0 (Nat.le_of_ble_eq_true rfl) (fun p e s m args below meth c C hr hlk => a_G_wordAt  C hr hlk) ?_
  intro Rr go
  have hF := mx_as1 h1
  rw [hF]
  refine go rfl ⟨_, rfl, ?_⟩
  refine go rfl ⟨_, _, rfl, fun c1 => ?_, fun c1 => ?_⟩
  · refine go rfl ?_
    refine go rfl ⟨_, _, rfl, ?_⟩
    refine go rfl ⟨_, rfl, ?_⟩
    refine go rfl ⟨_, _, rfl, fun c3 => ?_, fun c3 => ?_⟩
    · refine go rfl ?_
      refine go rfl ⟨_, rfl, rfl, rfl, ?_⟩
      rw [← hF]
      exact hp
    · exact absurd rfl c3
  refine go rfl ⟨_, rfl, ?_⟩
  refine go rfl ⟨_, rfl, ?_⟩
  refine go rfl ⟨_, _, _, _, rfl, rfl, rfl, ?_⟩
  refine go rfl ⟨_, _, _, rfl, fun c2 => ?_, fun c2 => ?_⟩
  · refine go rfl ?_
    refine go rfl ⟨_, _, rfl, ?_⟩
    refine go rfl ⟨_, rfl, ?_⟩
    refine go rfl ⟨_, _, rfl, fun c3 => ?_, fun c3 => ?_⟩
    · refine go rfl ?_
      refine go rfl ⟨_, rfl, rfl, rfl, ?_⟩
      rw [← hF]
      exact hp
    · exact absurd rfl c3
  · exact absurd (Int32.not_lt.mp c1) c2
-- LadderWords.gathered(II)I
def sp_L_gathered : mx_Sp := fun As F P => ∃ (fc tot wt k i : Int32), As = [mx_r 0, mx_i k, mx_i i] ∧ F 0 = some e_L ∧ F 10 = some (e_G fc 0 tot wt) ∧ P (some (mx_i (-1))) F
theorem d_L_gathered_0 : decode c_L_gathered 0 = .ok (.aload_n 0, 1) := by decide +kernel
theorem d_L_gathered_1 : decode c_L_gathered 1 = .ok (.getfield 35, 3) := by decide +kernel
theorem d_L_gathered_4 : decode c_L_gathered 4 = .ok (.iload_n 1, 1) := by decide +kernel
theorem d_L_gathered_5 : decode c_L_gathered 5 = .ok (.iload_n 2, 1) := by decide +kernel
theorem d_L_gathered_6 : decode c_L_gathered 6 = .ok (.invokevirtual 83, 3) := by decide +kernel
theorem d_L_gathered_9 : decode c_L_gathered 9 = .ok (.ireturn, 1) := by decide +kernel
abbrev w_L_gathered : List Cond := mx_ws y_L_gathered c_L_gathered 3 (some .int)
abbrev rm_L_gathered : Room := { frames := 30, cells := 0, slots := 0, locals := 600 }
def t_L_gathered  (P : Option mx_V → mx_F → Prop) : List (Nat × mx_O) := [
  (0, mx_aload 0 1),
  (1, mx_get 6 3 4),
  (4, mx_iload 1 5),
  (5, mx_iload 2 6),
  (6, mx_cv2 0 sp_G_wordAt 0 0 9),
  (9, mx_iret P)]
set_option maxRecDepth 20000 in
theorem a_L_gathered  {p : Program} {l : Launch} {e : Env} {s : State} {m : MethodId} {args : Array Value} {below : List Frame} {meth : Method} {c : Code} {D : va_G} {tc : Nat → ClassId} {tb : Nat → Nat} {sz : Nat} {a0 : Nat → Nat} {G : mx_F} {P : Option mx_V → mx_F → Prop}  (C : mx_C p s m args c c_L_gathered y_L_gathered.cls w_L_gathered D tc tb (mx_A a0 G sz) 3 (mx_Ok0 a0 G)) (hr : meth.sig.returnType = (some .int)) (hlk : meth.locks = false) : mx_all (mx_W p l e rm_L_gathered s m args below meth c (MQ below (mx_Q D tc tb a0 G sz P) args s 0 0 (mx_A a0 G sz)) D tc tb (mx_A a0 G sz) 3 (mx_Ok0 a0 G)) (t_L_gathered  P) :=
  ⟨mx_s_aload_n C d_L_gathered_0 rfl,
  mx_s_get (T := T_L) (N := 6) (k := 3) C (fun w h => List.mem_cons_of_mem _ (in_L w h)) rfl (by decide) (List.mem_cons_of_mem _ (mx_in0 (by decide +kernel) rfl)) rfl d_L_gathered_1,
  mx_s_iload_n C d_L_gathered_4 rfl,
  mx_s_iload_n C d_L_gathered_5 rfl,
  mx_s_cv2 C (m_G_wordAt l) rfl (cwV 2 C.2.2.2.2.1 (mx_gV (fun w h => List.mem_cons_of_mem _ h) (mx_in0 (by decide +kernel) rfl) (mx_in0 (by decide +kernel) rfl) (mx_in0 (by decide +kernel) rfl) (mx_in0 (by decide +kernel) rfl) (mx_in0 (by decide +kernel) rfl)) rfl rfl rfl (by decide +kernel) ⟨by decide, by decide⟩) d_L_gathered_6 ⟨Nat.zero_le _, Nat.zero_le _⟩,
  mx_s_iret C hr hlk d_L_gathered_9,
  trivial⟩
set_option maxRecDepth 20000 in
set_option maxHeartbeats 2000000 in
theorem m_L_gathered (l : Launch) : mx_M l y_L_gathered w_L_gathered rm_L_gathered sp_L_gathered := by
  intro D tc tb ad As F P sz0 h
  obtain ⟨fc, tot, wt, k, i, rfl, h0, h1, hp⟩ := h
  refine mx_run (cc := c_L_gathered) (maxL := 3) (ret := (some .int)) (tab := t_L_gathered  P) (by decide) rfl D tc tb ad _ F P sz0 (Nat.le_of_ble_eq_true rfl) (fun p e s m args below meth c C hr hlk => a_L_gathered  C hr hlk) ?_
  intro Rr go
  have hF := mx_as2 h0 h1
  rw [hF]
  refine go rfl ⟨_, rfl, ?_⟩
  refine go rfl ⟨_, _, _, _, rfl, rfl, rfl, ?_⟩
  refine go rfl ⟨_, rfl, ?_⟩
  refine go rfl ⟨_, rfl, ?_⟩
  refine go rfl ⟨_, _, _, _, _, rfl, rfl, rfl, rfl, rfl, ⟨fc, tot, wt, k, i, rfl, rfl, ?_⟩⟩
  refine go rfl ⟨_, rfl, rfl, rfl, ?_⟩
  rw [← hF]
  exact hp
-- LadderWords$Grid.isInside(II)Z
abbrev ins (x y : Int32) : Prop := ¬ (x < 0 ∨ nI 8 ≤ x ∨ y < 0 ∨ nI 8 ≤ y)
def sp_C_isInside : mx_Sp := fun As F P => ∃ x y : Int32, As = [mx_i x, mx_i y] ∧ (ins x y → P (some (mx_i (nI 1))) F) ∧ (¬ ins x y → P (some (mx_i (nI 0))) F)
theorem d_C_isInside_0 : decode c_C_isInside 0 = .ok (.iload_n 0, 1) := by decide +kernel
theorem d_C_isInside_1 : decode c_C_isInside 1 = .ok (.ifCond .lt 23, 3) := by decide +kernel
theorem d_C_isInside_4 : decode c_C_isInside 4 = .ok (.iload_n 0, 1) := by decide +kernel
theorem d_C_isInside_5 : decode c_C_isInside 5 = .ok (.bipush 8, 2) := by decide +kernel
theorem d_C_isInside_7 : decode c_C_isInside 7 = .ok (.if_icmp .ge 17, 3) := by decide +kernel
theorem d_C_isInside_10 : decode c_C_isInside 10 = .ok (.iload_n 1, 1) := by decide +kernel
theorem d_C_isInside_11 : decode c_C_isInside 11 = .ok (.ifCond .lt 13, 3) := by decide +kernel
theorem d_C_isInside_14 : decode c_C_isInside 14 = .ok (.iload_n 1, 1) := by decide +kernel
theorem d_C_isInside_15 : decode c_C_isInside 15 = .ok (.bipush 8, 2) := by decide +kernel
theorem d_C_isInside_17 : decode c_C_isInside 17 = .ok (.if_icmp .ge 7, 3) := by decide +kernel
theorem d_C_isInside_20 : decode c_C_isInside 20 = .ok (.iconst 1, 1) := by decide +kernel
theorem d_C_isInside_21 : decode c_C_isInside 21 = .ok (.goto 4, 3) := by decide +kernel
theorem d_C_isInside_24 : decode c_C_isInside 24 = .ok (.iconst 0, 1) := by decide +kernel
theorem d_C_isInside_25 : decode c_C_isInside 25 = .ok (.ireturn, 1) := by decide +kernel
abbrev w_C_isInside : List Cond := mx_ws y_C_isInside c_C_isInside 2 (some .boolean)
abbrev rm_C_isInside : Room := { frames := 10, cells := 0, slots := 0, locals := 200 }
def t_C_isInside  (P : Option mx_V → mx_F → Prop) : List (Nat × mx_O) := [
  (0, mx_iload 0 1),
  (1, mx_if_lt 24 4),
  (4, mx_iload 0 5),
  (5, mx_push (.inl (nI 8)) 7),
  (7, mx_ic_ge 24 10),
  (10, mx_iload 1 11),
  (11, mx_if_lt 24 14),
  (14, mx_iload 1 15),
  (15, mx_push (.inl (nI 8)) 17),
  (17, mx_ic_ge 24 20),
  (20, mx_push (.inl (nI 1)) 21),
  (21, mx_goto 25),
  (24, mx_push (.inl (nI 0)) 25),
  (25, mx_zret P)]
set_option maxRecDepth 20000 in
theorem a_C_isInside  {p : Program} {l : Launch} {e : Env} {s : State} {m : MethodId} {args : Array Value} {below : List Frame} {meth : Method} {c : Code} {D : va_G} {tc : Nat → ClassId} {tb : Nat → Nat} {sz : Nat} {a0 : Nat → Nat} {G : mx_F} {P : Option mx_V → mx_F → Prop}  (C : mx_C p s m args c c_C_isInside y_C_isInside.cls w_C_isInside D tc tb (mx_A a0 G sz) 2 (mx_Ok0 a0 G)) (hr : meth.sig.returnType = (some .boolean)) (hlk : meth.locks = false) : mx_all (mx_W p l e rm_C_isInside s m args below meth c (MQ below (mx_Q D tc tb a0 G sz P) args s 0 0 (mx_A a0 G sz)) D tc tb (mx_A a0 G sz) 2 (mx_Ok0 a0 G)) (t_C_isInside  P) :=
  ⟨mx_s_iload_n C d_C_isInside_0 rfl,
  mx_s_if_lt C d_C_isInside_1 (by decide),
  mx_s_iload_n C d_C_isInside_4 rfl,
  mx_s_bipush C d_C_isInside_5 (by decide),
  mx_s_ic_ge C d_C_isInside_7 (by decide),
  mx_s_iload_n C d_C_isInside_10 rfl,
  mx_s_if_lt C d_C_isInside_11 (by decide),
  mx_s_iload_n C d_C_isInside_14 rfl,
  mx_s_bipush C d_C_isInside_15 (by decide),
  mx_s_ic_ge C d_C_isInside_17 (by decide),
  mx_s_iconst C d_C_isInside_20 (by decide),
  mx_s_goto C d_C_isInside_21 (by decide),
  mx_s_iconst C d_C_isInside_24 (by decide),
  mx_s_zret C hr hlk d_C_isInside_25,
  trivial⟩
set_option maxRecDepth 20000 in
set_option maxHeartbeats 2000000 in
theorem m_C_isInside (l : Launch) : mx_M l y_C_isInside w_C_isInside rm_C_isInside sp_C_isInside := by
  intro D tc tb ad As F P sz0 h
  obtain ⟨x, y, rfl, ho, hz⟩ := h
  refine mx_run (cc := c_C_isInside) (maxL := 2) (ret := (some .boolean)) (tab := t_C_isInside  P) (by decide) rfl D tc tb ad _ F P sz0 (Nat.le_of_ble_eq_true rfl) (fun p e s m args below meth c C hr hlk => a_C_isInside  C hr hlk) ?_
  intro Rr go
  have z : ¬ ins x y → Rr 24 [some (mx_i x), some (mx_i y)] [] F 0 0 := by
    intro hc
    refine go rfl ?_
    refine go rfl ⟨_, rfl, rfl, rfl, (Or.inl rfl), ?_⟩
    exact hz hc
  refine go rfl ⟨_, rfl, ?_⟩
  refine go rfl ⟨_, _, rfl, fun c1 => ?_, fun c1 => ?_⟩
  · exact z (fun h => h (Or.inl c1))
  refine go rfl ⟨_, rfl, ?_⟩
  refine go rfl ?_
  refine go rfl ⟨_, _, _, rfl, fun c2 => ?_, fun c2 => ?_⟩
  · exact z (fun h => h (Or.inr (Or.inl c2)))
  refine go rfl ⟨_, rfl, ?_⟩
  refine go rfl ⟨_, _, rfl, fun c3 => ?_, fun c3 => ?_⟩
  · exact z (fun h => h (Or.inr (Or.inr (Or.inl c3))))
  refine go rfl ⟨_, rfl, ?_⟩
  refine go rfl ?_
  refine go rfl ⟨_, _, _, rfl, fun c4 => ?_, fun c4 => ?_⟩
  · exact z (fun h => h (Or.inr (Or.inr (Or.inr c4))))
  refine go rfl ?_
  refine go rfl ?_
  refine go rfl ⟨_, rfl, rfl, rfl, (Or.inr rfl), ?_⟩
  refine ho (fun h => ?_)
  rcases h with h | h | h | h
  · exact c1 h
  · exact c2 h
  · exact c3 h
  · exact c4 h
-- LadderWords$Grid.letterAt(II)I
theorem ins_at {x y : Int32} (h : ins x y) : ∃ i j : Nat, i < 8 ∧ j < 8 ∧ x = nI i ∧ y = nI j := by
  have hx : ¬ x < 0 := fun q => h (Or.inl q)
  have hy : ¬ y < 0 := fun q => h (Or.inr (Or.inr (Or.inl q)))
  rcases pk_ix x (n := 8) (by decide) with q | q | ⟨i, hi, ei⟩
  · exact absurd q hx
  · exact absurd (Or.inr (Or.inl q)) h
  rcases pk_ix y (n := 8) (by decide) with q | q | ⟨j, hj, ej⟩
  · exact absurd q hy
  · exact absurd (Or.inr (Or.inr (Or.inr q))) h
  exact ⟨i, j, hi, hj, ei, ej⟩
def sp_C_letterAt : mx_Sp := fun As F P => ∃ (f : Nat → Int32) (x y : Int32), As = [mx_r 29, mx_i x, mx_i y] ∧ F 29 = some e_C ∧ F 30 = some (mx_ia 64 f) ∧ (∀ i j : Nat, i < 8 → j < 8 → x = nI i → y = nI j → P (some (mx_i (f (i + 8 * j)))) F) ∧ (¬ ins x y → P (some (mx_i (-1))) F)
theorem d_C_letterAt_0 : decode c_C_letterAt 0 = .ok (.iload_n 1, 1) := by decide +kernel
theorem d_C_letterAt_1 : decode c_C_letterAt 1 = .ok (.iload_n 2, 1) := by decide +kernel
theorem d_C_letterAt_2 : decode c_C_letterAt 2 = .ok (.invokestatic 19, 3) := by decide +kernel
theorem d_C_letterAt_5 : decode c_C_letterAt 5 = .ok (.ifCond .eq 17, 3) := by decide +kernel
theorem d_C_letterAt_8 : decode c_C_letterAt 8 = .ok (.aload_n 0, 1) := by decide +kernel
theorem d_C_letterAt_9 : decode c_C_letterAt 9 = .ok (.getfield 11, 3) := by decide +kernel
theorem d_C_letterAt_12 : decode c_C_letterAt 12 = .ok (.iload_n 1, 1) := by decide +kernel
theorem d_C_letterAt_13 : decode c_C_letterAt 13 = .ok (.bipush 8, 2) := by decide +kernel
theorem d_C_letterAt_15 : decode c_C_letterAt 15 = .ok (.iload_n 2, 1) := by decide +kernel
theorem d_C_letterAt_16 : decode c_C_letterAt 16 = .ok (.imul, 1) := by decide +kernel
theorem d_C_letterAt_17 : decode c_C_letterAt 17 = .ok (.iadd, 1) := by decide +kernel
theorem d_C_letterAt_18 : decode c_C_letterAt 18 = .ok (.iaload, 1) := by decide +kernel
theorem d_C_letterAt_19 : decode c_C_letterAt 19 = .ok (.goto 4, 3) := by decide +kernel
theorem d_C_letterAt_22 : decode c_C_letterAt 22 = .ok (.iconst (-1), 1) := by decide +kernel
theorem d_C_letterAt_23 : decode c_C_letterAt 23 = .ok (.ireturn, 1) := by decide +kernel
abbrev w_C_letterAt : List Cond := mx_ws y_C_letterAt c_C_letterAt 3 (some .int)
abbrev rm_C_letterAt : Room := { frames := 20, cells := 0, slots := 0, locals := 400 }
def t_C_letterAt  (P : Option mx_V → mx_F → Prop) : List (Nat × mx_O) := [
  (0, mx_iload 1 1),
  (1, mx_iload 2 2),
  (2, mx_cs2 sp_C_isInside 0 0 5),
  (5, mx_if_eq 22 8),
  (8, mx_aload 0 9),
  (9, mx_get 1 1 12),
  (12, mx_iload 1 13),
  (13, mx_push (.inl (nI 8)) 15),
  (15, mx_iload 2 16),
  (16, mx_imul 17),
  (17, mx_iadd 18),
  (18, mx_iald 19),
  (19, mx_goto 23),
  (22, mx_push (.inl (-1)) 23),
  (23, mx_iret P)]
set_option maxRecDepth 20000 in
theorem a_C_letterAt  {p : Program} {l : Launch} {e : Env} {s : State} {m : MethodId} {args : Array Value} {below : List Frame} {meth : Method} {c : Code} {D : va_G} {tc : Nat → ClassId} {tb : Nat → Nat} {sz : Nat} {a0 : Nat → Nat} {G : mx_F} {P : Option mx_V → mx_F → Prop}  (C : mx_C p s m args c c_C_letterAt y_C_letterAt.cls w_C_letterAt D tc tb (mx_A a0 G sz) 3 (mx_Ok0 a0 G)) (hr : meth.sig.returnType = (some .int)) (hlk : meth.locks = false) : mx_all (mx_W p l e rm_C_letterAt s m args below meth c (MQ below (mx_Q D tc tb a0 G sz P) args s 0 0 (mx_A a0 G sz)) D tc tb (mx_A a0 G sz) 3 (mx_Ok0 a0 G)) (t_C_letterAt  P) :=
  ⟨mx_s_iload_n C d_C_letterAt_0 rfl,
  mx_s_iload_n C d_C_letterAt_1 rfl,
  mx_s_cs2 C (m_C_isInside l) (cwS 2 C.2.2.2.2.1 (mx_gS (fun w h => List.mem_cons_of_mem _ h) (mx_in0 (by decide +kernel) rfl) (mx_in0 (by decide +kernel) rfl) (mx_in0 (by decide +kernel) rfl) (mx_in0 (by decide +kernel) rfl)) rfl rfl rfl (by decide +kernel) ⟨by decide, by decide⟩) d_C_letterAt_2 ⟨Nat.zero_le _, Nat.zero_le _⟩,
  mx_s_if_eq C d_C_letterAt_5 (by decide),
  mx_s_aload_n C d_C_letterAt_8 rfl,
  mx_s_get (T := T_C) (N := 2) (k := 1) C (fun w h => List.mem_cons_of_mem _ (in_C w h)) rfl (by decide) (List.mem_cons_of_mem _ (mx_in0 (by decide +kernel) rfl)) rfl d_C_letterAt_9,
  mx_s_iload_n C d_C_letterAt_12 rfl,
  mx_s_bipush C d_C_letterAt_13 (by decide),
  mx_s_iload_n C d_C_letterAt_15 rfl,
  mx_s_imul C d_C_letterAt_16,
  mx_s_iadd C d_C_letterAt_17,
  mx_s_iald C d_C_letterAt_18,
  mx_s_goto C d_C_letterAt_19 (by decide),
  mx_s_iconst C d_C_letterAt_22 (by decide),
  mx_s_iret C hr hlk d_C_letterAt_23,
  trivial⟩
set_option maxRecDepth 20000 in
set_option maxHeartbeats 2000000 in
theorem m_C_letterAt (l : Launch) : mx_M l y_C_letterAt w_C_letterAt rm_C_letterAt sp_C_letterAt := by
  intro D tc tb ad As F P sz0 h
  obtain ⟨f, x, y, rfl, h1, h2, ho, hz⟩ := h
  refine mx_run (cc := c_C_letterAt) (maxL := 3) (ret := (some .int)) (tab := t_C_letterAt  P) (by decide) rfl D tc tb ad _ F P sz0 (Nat.le_of_ble_eq_true rfl) (fun p e s m args below meth c C hr hlk => a_C_letterAt  C hr hlk) ?_
  intro Rr go
  have hF := mx_as2 h1 h2
  rw [hF]
  refine go rfl ⟨_, rfl, ?_⟩
  refine go rfl ⟨_, rfl, ?_⟩
  refine go rfl ⟨_, _, _, rfl, rfl, rfl, rfl, ⟨x, y, rfl, fun hc => ?_, fun hc => ?_⟩⟩
  · obtain ⟨i, j, hi, hj, rfl, rfl⟩ := ins_at hc
    refine go rfl ⟨_, _, rfl, fun c1 => ?_, fun c1 => ?_⟩
    · exact absurd c1 (by decide)
    refine go rfl ⟨_, rfl, ?_⟩
    refine go rfl ⟨_, _, _, _, rfl, rfl, rfl, ?_⟩
    refine go rfl ⟨_, rfl, ?_⟩
    refine go rfl ?_
    refine go rfl ⟨_, rfl, ?_⟩
    refine go rfl ⟨_, _, _, rfl, ?_⟩
    rw [pk_mul]
    refine go rfl ⟨_, _, _, rfl, ?_⟩
    rw [nI_add]
    refine go rfl ⟨_, _, _, _, _, rfl, rfl, (vp_in_nI (show i + 8 * j < 64 by omega) (by omega)), ?_⟩
    rw [nI_clamp (by omega)]
    refine go rfl ?_
    refine go rfl ⟨_, rfl, rfl, rfl, ?_⟩
    rw [← hF]
    exact ho i j hi hj rfl rfl
  · refine go rfl ⟨_, _, rfl, fun c1 => ?_, fun c1 => ?_⟩
    · refine go rfl ?_
      refine go rfl ⟨_, rfl, rfl, rfl, ?_⟩
      rw [← hF]
      exact hz hc
    · exact absurd rfl c1
-- LadderWords.cell(II)I
def sp_L_cell : mx_Sp := fun As F P => ∃ (f : Nat → Int32) (x y : Int32), As = [mx_r 0, mx_i x, mx_i y] ∧ F 0 = some e_L ∧ F 29 = some e_C ∧ F 30 = some (mx_ia 64 f) ∧ (∀ i j : Nat, i < 8 → j < 8 → x = nI i → y = nI j → P (some (mx_i (f (i + 8 * j)))) F) ∧ (¬ ins x y → P (some (mx_i (-1))) F)
theorem d_L_cell_0 : decode c_L_cell 0 = .ok (.aload_n 0, 1) := by decide +kernel
theorem d_L_cell_1 : decode c_L_cell 1 = .ok (.getfield 49, 3) := by decide +kernel
theorem d_L_cell_4 : decode c_L_cell 4 = .ok (.iload_n 1, 1) := by decide +kernel
theorem d_L_cell_5 : decode c_L_cell 5 = .ok (.iload_n 2, 1) := by decide +kernel
theorem d_L_cell_6 : decode c_L_cell 6 = .ok (.invokevirtual 98, 3) := by decide +kernel
theorem d_L_cell_9 : decode c_L_cell 9 = .ok (.ireturn, 1) := by decide +kernel
abbrev w_L_cell : List Cond := mx_ws y_L_cell c_L_cell 3 (some .int)
abbrev rm_L_cell : Room := { frames := 30, cells := 0, slots := 0, locals := 600 }
def t_L_cell  (P : Option mx_V → mx_F → Prop) : List (Nat × mx_O) := [
  (0, mx_aload 0 1),
  (1, mx_get 6 5 4),
  (4, mx_iload 1 5),
  (5, mx_iload 2 6),
  (6, mx_cv2 1 sp_C_letterAt 0 0 9),
  (9, mx_iret P)]
set_option maxRecDepth 20000 in
theorem a_L_cell  {p : Program} {l : Launch} {e : Env} {s : State} {m : MethodId} {args : Array Value} {below : List Frame} {meth : Method} {c : Code} {D : va_G} {tc : Nat → ClassId} {tb : Nat → Nat} {sz : Nat} {a0 : Nat → Nat} {G : mx_F} {P : Option mx_V → mx_F → Prop}  (C : mx_C p s m args c c_L_cell y_L_cell.cls w_L_cell D tc tb (mx_A a0 G sz) 3 (mx_Ok0 a0 G)) (hr : meth.sig.returnType = (some .int)) (hlk : meth.locks = false) : mx_all (mx_W p l e rm_L_cell s m args below meth c (MQ below (mx_Q D tc tb a0 G sz P) args s 0 0 (mx_A a0 G sz)) D tc tb (mx_A a0 G sz) 3 (mx_Ok0 a0 G)) (t_L_cell  P) :=
  ⟨mx_s_aload_n C d_L_cell_0 rfl,
  mx_s_get (T := T_L) (N := 6) (k := 5) C (fun w h => List.mem_cons_of_mem _ (in_L w h)) rfl (by decide) (List.mem_cons_of_mem _ (mx_in0 (by decide +kernel) rfl)) rfl d_L_cell_1,
  mx_s_iload_n C d_L_cell_4 rfl,
  mx_s_iload_n C d_L_cell_5 rfl,
  mx_s_cv2 C (m_C_letterAt l) rfl (cwV 2 C.2.2.2.2.1 (mx_gV (fun w h => List.mem_cons_of_mem _ h) (mx_in0 (by decide +kernel) rfl) (mx_in0 (by decide +kernel) rfl) (mx_in0 (by decide +kernel) rfl) (mx_in0 (by decide +kernel) rfl) (mx_in0 (by decide +kernel) rfl)) rfl rfl rfl (by decide +kernel) ⟨by decide, by decide⟩) d_L_cell_6 ⟨Nat.zero_le _, Nat.zero_le _⟩,
  mx_s_iret C hr hlk d_L_cell_9,
  trivial⟩
set_option maxRecDepth 20000 in
set_option maxHeartbeats 2000000 in
theorem m_L_cell (l : Launch) : mx_M l y_L_cell w_L_cell rm_L_cell sp_L_cell := by
  intro D tc tb ad As F P sz0 h
  obtain ⟨f, x, y, rfl, h0, h1, h2, ho, hz⟩ := h
  refine mx_run (cc := c_L_cell) (maxL := 3) (ret := (some .int)) (tab := t_L_cell  P) (by decide) rfl D tc tb ad _ F P sz0 (Nat.le_of_ble_eq_true rfl) (fun p e s m args below meth c C hr hlk => a_L_cell  C hr hlk) ?_
  intro Rr go
  have hF := mx_as3 h0 h1 h2
  rw [hF]
  refine go rfl ⟨_, rfl, ?_⟩
  refine go rfl ⟨_, _, _, _, rfl, rfl, rfl, ?_⟩
  refine go rfl ⟨_, rfl, ?_⟩
  refine go rfl ⟨_, rfl, ?_⟩
  refine go rfl ⟨_, _, _, _, _, rfl, rfl, rfl, rfl, rfl, ⟨f, x, y, rfl, rfl, rfl, fun i j hi hj ei ej => ?_, fun hc => ?_⟩⟩
  · refine go rfl ⟨_, rfl, rfl, rfl, ?_⟩
    rw [← hF]
    exact ho i j hi hj ei ej
  · refine go rfl ⟨_, rfl, rfl, rfl, ?_⟩
    rw [← hF]
    exact hz hc
-- LadderWords$Grid.put(IIII)Z
/-- without words -/
def sp_C_put : mx_Sp := fun As F P => ∃ a b c d : Int32, As = [mx_r 29, mx_i a, mx_i b, mx_i c, mx_i d] ∧ F 3 = some (e_W 0) ∧ F 29 = some e_C ∧ P (some (mx_i (nI 0))) F
theorem d_C_put_0 : decode c_C_put 0 = .ok (.aload_n 0, 1) := by decide +kernel
theorem d_C_put_1 : decode c_C_put 1 = .ok (.getfield 15, 3) := by decide +kernel
theorem d_C_put_4 : decode c_C_put 4 = .ok (.iload_n 1, 1) := by decide +kernel
theorem d_C_put_5 : decode c_C_put 5 = .ok (.invokevirtual 23, 3) := by decide +kernel
theorem d_C_put_8 : decode c_C_put 8 = .ok (.ifCond .eq 23, 3) := by decide +kernel
theorem d_C_put_31 : decode c_C_put 31 = .ok (.iconst 0, 1) := by decide +kernel
theorem d_C_put_32 : decode c_C_put 32 = .ok (.ireturn, 1) := by decide +kernel
abbrev w_C_put : List Cond := mx_ws y_C_put c_C_put 6 (some .boolean)
abbrev rm_C_put : Room := { frames := 40, cells := 0, slots := 0, locals := 800 }
def t_C_put  (P : Option mx_V → mx_F → Prop) : List (Nat × mx_O) := [
  (0, mx_aload 0 1),
  (1, mx_get 1 0 4),
  (4, mx_iload 1 5),
  (5, mx_cv1 5 sp_W_has 0 0 8),
  (8, mx_if_eq 31 11),
  (31, mx_push (.inl (nI 0)) 32),
  (32, mx_zret P)]
set_option maxRecDepth 20000 in
theorem a_C_put  {p : Program} {l : Launch} {e : Env} {s : State} {m : MethodId} {args : Array Value} {below : List Frame} {meth : Method} {c : Code} {D : va_G} {tc : Nat → ClassId} {tb : Nat → Nat} {sz : Nat} {a0 : Nat → Nat} {G : mx_F} {P : Option mx_V → mx_F → Prop}  (C : mx_C p s m args c c_C_put y_C_put.cls w_C_put D tc tb (mx_A a0 G sz) 6 (mx_Ok0 a0 G)) (hr : meth.sig.returnType = (some .boolean)) (hlk : meth.locks = false) : mx_all (mx_W p l e rm_C_put s m args below meth c (MQ below (mx_Q D tc tb a0 G sz P) args s 0 0 (mx_A a0 G sz)) D tc tb (mx_A a0 G sz) 6 (mx_Ok0 a0 G)) (t_C_put  P) :=
  ⟨mx_s_aload_n C d_C_put_0 rfl,
  mx_s_get (T := T_C) (N := 2) (k := 0) C (fun w h => List.mem_cons_of_mem _ (in_C w h)) rfl (by decide) (List.mem_cons_of_mem _ (mx_in0 (by decide +kernel) rfl)) rfl d_C_put_1,
  mx_s_iload_n C d_C_put_4 rfl,
  mx_s_cv1 C (m_W_has l) rfl (cwV 1 C.2.2.2.2.1 (mx_gV (fun w h => List.mem_cons_of_mem _ h) (mx_in0 (by decide +kernel) rfl) (mx_in0 (by decide +kernel) rfl) (mx_in0 (by decide +kernel) rfl) (mx_in0 (by decide +kernel) rfl) (mx_in0 (by decide +kernel) rfl)) rfl rfl rfl (by decide +kernel) ⟨by decide, by decide⟩) d_C_put_5 ⟨Nat.zero_le _, Nat.zero_le _⟩,
  mx_s_if_eq C d_C_put_8 (by decide),
  mx_s_iconst C d_C_put_31 (by decide),
  mx_s_zret C hr hlk d_C_put_32,
  trivial⟩
set_option maxRecDepth 20000 in
set_option maxHeartbeats 2000000 in
theorem m_C_put (l : Launch) : mx_M l y_C_put w_C_put rm_C_put sp_C_put := by
  intro D tc tb ad As F P sz0 h
  obtain ⟨a, b, c, d, rfl, h3, h1, hp⟩ := h
  refine mx_run (cc := c_C_put) (maxL := 6) (ret := (some .boolean)) (tab := t_C_put  P) (by decide) rfl D tc tb ad _ F P sz0 (Nat.le_of_ble_eq_true rfl) (fun p e s m args below meth c C hr hlk => a_C_put  C hr hlk) ?_
  intro Rr go
  have hF := mx_as2 h3 h1
  rw [hF]
  refine go rfl ⟨_, rfl, ?_⟩
  refine go rfl ⟨_, _, _, _, rfl, rfl, rfl, ?_⟩
  refine go rfl ⟨_, rfl, ?_⟩
  refine go rfl ⟨_, _, _, _, rfl, rfl, rfl, rfl, rfl, ⟨0, a, rfl, rfl, fun hc => ?_, fun hc => ?_⟩⟩
  · refine go rfl ⟨_, _, rfl, fun c1 => ?_, fun c1 => ?_⟩
    · refine go rfl ?_
      refine go rfl ⟨_, rfl, rfl, rfl, (Or.inl rfl), ?_⟩
      rw [← hF]
      exact hp
    · exact absurd rfl c1
  · exact absurd (Int32.not_lt.mp (fun h => hc (Or.inl h))) (fun h => hc (Or.inr h))
-- LadderWords.hide(IIII)Z
def sp_L_hide : mx_Sp := fun As F P => ∃ a b c d : Int32, As = [mx_r 0, mx_i a, mx_i b, mx_i c, mx_i d] ∧ F 0 = some e_L ∧ F 3 = some (e_W 0) ∧ F 29 = some e_C ∧ P (some (mx_i (nI 0))) F
theorem d_L_hide_0 : decode c_L_hide 0 = .ok (.aload_n 0, 1) := by decide +kernel
theorem d_L_hide_1 : decode c_L_hide 1 = .ok (.getfield 49, 3) := by decide +kernel
theorem d_L_hide_4 : decode c_L_hide 4 = .ok (.iload_n 1, 1) := by decide +kernel
theorem d_L_hide_5 : decode c_L_hide 5 = .ok (.iload_n 2, 1) := by decide +kernel
theorem d_L_hide_6 : decode c_L_hide 6 = .ok (.iload_n 3, 1) := by decide +kernel
theorem d_L_hide_7 : decode c_L_hide 7 = .ok (.iload 4, 2) := by decide +kernel
theorem d_L_hide_9 : decode c_L_hide 9 = .ok (.invokevirtual 90, 3) := by decide +kernel
theorem d_L_hide_12 : decode c_L_hide 12 = .ok (.ireturn, 1) := by decide +kernel
abbrev w_L_hide : List Cond := mx_ws y_L_hide c_L_hide 5 (some .boolean)
abbrev rm_L_hide : Room := { frames := 50, cells := 0, slots := 0, locals := 1000 }
def t_L_hide  (P : Option mx_V → mx_F → Prop) : List (Nat × mx_O) := [
  (0, mx_aload 0 1),
  (1, mx_get 6 5 4),
  (4, mx_iload 1 5),
  (5, mx_iload 2 6),
  (6, mx_iload 3 7),
  (7, mx_iload 4 9),
  (9, mx_cv4 1 sp_C_put 0 0 12),
  (12, mx_zret P)]
set_option maxRecDepth 20000 in
theorem a_L_hide  {p : Program} {l : Launch} {e : Env} {s : State} {m : MethodId} {args : Array Value} {below : List Frame} {meth : Method} {c : Code} {D : va_G} {tc : Nat → ClassId} {tb : Nat → Nat} {sz : Nat} {a0 : Nat → Nat} {G : mx_F} {P : Option mx_V → mx_F → Prop}  (C : mx_C p s m args c c_L_hide y_L_hide.cls w_L_hide D tc tb (mx_A a0 G sz) 5 (mx_Ok0 a0 G)) (hr : meth.sig.returnType = (some .boolean)) (hlk : meth.locks = false) : mx_all (mx_W p l e rm_L_hide s m args below meth c (MQ below (mx_Q D tc tb a0 G sz P) args s 0 0 (mx_A a0 G sz)) D tc tb (mx_A a0 G sz) 5 (mx_Ok0 a0 G)) (t_L_hide  P) :=
  ⟨mx_s_aload_n C d_L_hide_0 rfl,
  mx_s_get (T := T_L) (N := 6) (k := 5) C (fun w h => List.mem_cons_of_mem _ (in_L w h)) rfl (by decide) (List.mem_cons_of_mem _ (mx_in0 (by decide +kernel) rfl)) rfl d_L_hide_1,
  mx_s_iload_n C d_L_hide_4 rfl,
  mx_s_iload_n C d_L_hide_5 rfl,
  mx_s_iload_n C d_L_hide_6 rfl,
  mx_s_iload C d_L_hide_7,
  mx_s_cv4 C (m_C_put l) rfl (cwV 4 C.2.2.2.2.1 (mx_gV (fun w h => List.mem_cons_of_mem _ h) (mx_in0 (by decide +kernel) rfl) (mx_in0 (by decide +kernel) rfl) (mx_in0 (by decide +kernel) rfl) (mx_in0 (by decide +kernel) rfl) (mx_in0 (by decide +kernel) rfl)) rfl rfl rfl (by decide +kernel) ⟨by decide, by decide⟩) d_L_hide_9 ⟨Nat.zero_le _, Nat.zero_le _⟩,
  mx_s_zret C hr hlk d_L_hide_12,
  trivial⟩
set_option maxRecDepth 20000 in
set_option maxHeartbeats 2000000 in
theorem m_L_hide (l : Launch) : mx_M l y_L_hide w_L_hide rm_L_hide sp_L_hide := by
  intro D tc tb ad As F P sz0 h
  obtain ⟨a, b, c, d, rfl, h0, h3, h1, hp⟩ := h
  refine mx_run (cc := c_L_hide) (maxL := 5) (ret := (some .boolean)) (tab := t_L_hide  P) (by decide) rfl D tc tb ad _ F P sz0 (Nat.le_of_ble_eq_true rfl) (fun p e s m args below meth c C hr hlk => a_L_hide  C hr hlk) ?_
  intro Rr go
  have hF := mx_as3 h0 h3 h1
  rw [hF]
  refine go rfl ⟨_, rfl, ?_⟩
  refine go rfl ⟨_, _, _, _, rfl, rfl, rfl, ?_⟩
  refine go rfl ⟨_, rfl, ?_⟩
  refine go rfl ⟨_, rfl, ?_⟩
  refine go rfl ⟨_, rfl, ?_⟩
  refine go rfl ⟨_, rfl, ?_⟩
  refine go rfl ⟨_, _, _, _, _, _, _, rfl, rfl, rfl, rfl, rfl, ⟨a, b, c, d, rfl, rfl, rfl, ?_⟩⟩
  refine go rfl ⟨_, rfl, rfl, rfl, (Or.inl rfl), ?_⟩
  rw [← hF]
  exact hp
-- LadderWords$Grid.countOf(I)I
/-- without words -/
def sp_C_countOf : mx_Sp := fun As F P => ∃ a : Int32, As = [mx_r 29, mx_i a] ∧ F 3 = some (e_W 0) ∧ F 29 = some e_C ∧ P (some (mx_i (-1))) F
theorem d_C_countOf_0 : decode c_C_countOf 0 = .ok (.aload_n 0, 1) := by decide +kernel
theorem d_C_countOf_1 : decode c_C_countOf 1 = .ok (.getfield 15, 3) := by decide +kernel
theorem d_C_countOf_4 : decode c_C_countOf 4 = .ok (.iload_n 1, 1) := by decide +kernel
theorem d_C_countOf_5 : decode c_C_countOf 5 = .ok (.invokevirtual 23, 3) := by decide +kernel
theorem d_C_countOf_8 : decode c_C_countOf 8 = .ok (.ifCond .ne 5, 3) := by decide +kernel
theorem d_C_countOf_11 : decode c_C_countOf 11 = .ok (.iconst (-1), 1) := by decide +kernel
theorem d_C_countOf_12 : decode c_C_countOf 12 = .ok (.ireturn, 1) := by decide +kernel
abbrev w_C_countOf : List Cond := mx_ws y_C_countOf c_C_countOf 4 (some .int)
abbrev rm_C_countOf : Room := { frames := 40, cells := 0, slots := 0, locals := 800 }
def t_C_countOf  (P : Option mx_V → mx_F → Prop) : List (Nat × mx_O) := [
  (0, mx_aload 0 1),
  (1, mx_get 1 0 4),
  (4, mx_iload 1 5),
  (5, mx_cv1 5 sp_W_has 0 0 8),
  (8, mx_if_ne 13 11),
  (11, mx_push (.inl (-1)) 12),
  (12, mx_iret P)]
set_option maxRecDepth 20000 in
theorem a_C_countOf  {p : Program} {l : Launch} {e : Env} {s : State} {m : MethodId} {args : Array Value} {below : List Frame} {meth : Method} {c : Code} {D : va_G} {tc : Nat → ClassId} {tb : Nat → Nat} {sz : Nat} {a0 : Nat → Nat} {G : mx_F} {P : Option mx_V → mx_F → Prop}  (C : mx_C p s m args c c_C_countOf y_C_countOf.cls w_C_countOf D tc tb (mx_A a0 G sz) 4 (mx_Ok0 a0 G)) (hr : meth.sig.returnType = (some .int)) (hlk : meth.locks = false) : mx_all (mx_W p l e rm_C_countOf s m args below meth c (MQ below (mx_Q D tc tb a0 G sz P) args s 0 0 (mx_A a0 G sz)) D tc tb (mx_A a0 G sz) 4 (mx_Ok0 a0 G)) (t_C_countOf  P) :=
  ⟨mx_s_aload_n C d_C_countOf_0 rfl,
  mx_s_get (T := T_C) (N := 2) (k := 0) C (fun w h => List.mem_cons_of_mem _ (in_C w h)) rfl (by decide) (List.mem_cons_of_mem _ (mx_in0 (by decide +kernel) rfl)) rfl d_C_countOf_1,
  mx_s_iload_n C d_C_countOf_4 rfl,
  mx_s_cv1 C (m_W_has l) rfl (cwV 1 C.2.2.2.2.1 (mx_gV (fun w h => List.mem_cons_of_mem _ h) (mx_in0 (by decide +kernel) rfl) (mx_in0 (by decide +kernel) rfl) (mx_in0 (by decide +kernel) rfl) (mx_in0 (by decide +kernel) rfl) (mx_in0 (by decide +kernel) rfl)) rfl rfl rfl (by decide +kernel) ⟨by decide, by decide⟩) d_C_countOf_5 ⟨Nat.zero_le _, Nat.zero_le _⟩,
  mx_s_if_ne C d_C_countOf_8 (by decide),
  mx_s_iconst C d_C_countOf_11 (by decide),
  mx_s_iret C hr hlk d_C_countOf_12,
  trivial⟩
set_option maxRecDepth 20000 in
set_option maxHeartbeats 2000000 in
theorem m_C_countOf (l : Launch) : mx_M l y_C_countOf w_C_countOf rm_C_countOf sp_C_countOf := by
  intro D tc tb ad As F P sz0 h
  obtain ⟨a, rfl, h3, h1, hp⟩ := h
  refine mx_run (cc := c_C_countOf) (maxL := 4) (ret := (some .int)) (tab := t_C_countOf  P) (by decide) rfl D tc tb ad _ F P sz0 (Nat.le_of_ble_eq_true rfl) (fun p e s m args below meth c C hr hlk => a_C_countOf  C hr hlk) ?_
  intro Rr go
  have hF := mx_as2 h3 h1
  rw [hF]
  refine go rfl ⟨_, rfl, ?_⟩
  refine go rfl ⟨_, _, _, _, rfl, rfl, rfl, ?_⟩
  refine go rfl ⟨_, rfl, ?_⟩
  refine go rfl ⟨_, _, _, _, rfl, rfl, rfl, rfl, rfl, ⟨0, a, rfl, rfl, fun hc => ?_, fun hc => ?_⟩⟩
  · refine go rfl ⟨_, _, rfl, fun c1 => ?_, fun c1 => ?_⟩
    · exact absurd rfl c1
    · refine go rfl ?_
      refine go rfl ⟨_, rfl, rfl, rfl, ?_⟩
      rw [← hF]
      exact hp
  · exact absurd (Int32.not_lt.mp (fun h => hc (Or.inl h))) (fun h => hc (Or.inr h))
-- LadderWords.found(I)I
def sp_L_found : mx_Sp := fun As F P => ∃ a : Int32, As = [mx_r 0, mx_i a] ∧ F 0 = some e_L ∧ F 3 = some (e_W 0) ∧ F 29 = some e_C ∧ P (some (mx_i (-1))) F
theorem d_L_found_0 : decode c_L_found 0 = .ok (.aload_n 0, 1) := by decide +kernel
theorem d_L_found_1 : decode c_L_found 1 = .ok (.getfield 49, 3) := by decide +kernel
theorem d_L_found_4 : decode c_L_found 4 = .ok (.iload_n 1, 1) := by decide +kernel
theorem d_L_found_5 : decode c_L_found 5 = .ok (.invokevirtual 101, 3) := by decide +kernel
theorem d_L_found_8 : decode c_L_found 8 = .ok (.ireturn, 1) := by decide +kernel
abbrev w_L_found : List Cond := mx_ws y_L_found c_L_found 2 (some .int)
abbrev rm_L_found : Room := { frames := 50, cells := 0, slots := 0, locals := 1000 }
def t_L_found  (P : Option mx_V → mx_F → Prop) : List (Nat × mx_O) := [
  (0, mx_aload 0 1),
  (1, mx_get 6 5 4),
  (4, mx_iload 1 5),
  (5, mx_cv1 1 sp_C_countOf 0 0 8),
  (8, mx_iret P)]
set_option maxRecDepth 20000 in
theorem a_L_found  {p : Program} {l : Launch} {e : Env} {s : State} {m : MethodId} {args : Array Value} {below : List Frame} {meth : Method} {c : Code} {D : va_G} {tc : Nat → ClassId} {tb : Nat → Nat} {sz : Nat} {a0 : Nat → Nat} {G : mx_F} {P : Option mx_V → mx_F → Prop}  (C : mx_C p s m args c c_L_found y_L_found.cls w_L_found D tc tb (mx_A a0 G sz) 2 (mx_Ok0 a0 G)) (hr : meth.sig.returnType = (some .int)) (hlk : meth.locks = false) : mx_all (mx_W p l e rm_L_found s m args below meth c (MQ below (mx_Q D tc tb a0 G sz P) args s 0 0 (mx_A a0 G sz)) D tc tb (mx_A a0 G sz) 2 (mx_Ok0 a0 G)) (t_L_found  P) :=
  ⟨mx_s_aload_n C d_L_found_0 rfl,
  mx_s_get (T := T_L) (N := 6) (k := 5) C (fun w h => List.mem_cons_of_mem _ (in_L w h)) rfl (by decide) (List.mem_cons_of_mem _ (mx_in0 (by decide +kernel) rfl)) rfl d_L_found_1,
  mx_s_iload_n C d_L_found_4 rfl,
  mx_s_cv1 C (m_C_countOf l) rfl (cwV 1 C.2.2.2.2.1 (mx_gV (fun w h => List.mem_cons_of_mem _ h) (mx_in0 (by decide +kernel) rfl) (mx_in0 (by decide +kernel) rfl) (mx_in0 (by decide +kernel) rfl) (mx_in0 (by decide +kernel) rfl) (mx_in0 (by decide +kernel) rfl)) rfl rfl rfl (by decide +kernel) ⟨by decide, by decide⟩) d_L_found_5 ⟨Nat.zero_le _, Nat.zero_le _⟩,
  mx_s_iret C hr hlk d_L_found_8,
  trivial⟩
set_option maxRecDepth 20000 in
set_option maxHeartbeats 2000000 in
theorem m_L_found (l : Launch) : mx_M l y_L_found w_L_found rm_L_found sp_L_found := by
  intro D tc tb ad As F P sz0 h
  obtain ⟨a, rfl, h0, h3, h1, hp⟩ := h
  refine mx_run (cc := c_L_found) (maxL := 2) (ret := (some .int)) (tab := t_L_found  P) (by decide) rfl D tc tb ad _ F P sz0 (Nat.le_of_ble_eq_true rfl) (fun p e s m args below meth c C hr hlk => a_L_found  C hr hlk) ?_
  intro Rr go
  have hF := mx_as3 h0 h3 h1
  rw [hF]
  refine go rfl ⟨_, rfl, ?_⟩
  refine go rfl ⟨_, _, _, _, rfl, rfl, rfl, ?_⟩
  refine go rfl ⟨_, rfl, ?_⟩
  refine go rfl ⟨_, _, _, _, rfl, rfl, rfl, rfl, rfl, ⟨a, rfl, rfl, rfl, ?_⟩⟩
  refine go rfl ⟨_, rfl, rfl, rfl, ?_⟩
  rw [← hF]
  exact hp
-- LadderWords$Grid.placeOf(II)I
/-- without words -/
def sp_C_placeOf : mx_Sp := fun As F P => ∃ a b : Int32, As = [mx_r 29, mx_i a, mx_i b] ∧ F 3 = some (e_W 0) ∧ F 29 = some e_C ∧ P (some (mx_i (-1))) F
theorem d_C_placeOf_0 : decode c_C_placeOf 0 = .ok (.aload_n 0, 1) := by decide +kernel
theorem d_C_placeOf_1 : decode c_C_placeOf 1 = .ok (.getfield 15, 3) := by decide +kernel
theorem d_C_placeOf_4 : decode c_C_placeOf 4 = .ok (.iload_n 1, 1) := by decide +kernel
theorem d_C_placeOf_5 : decode c_C_placeOf 5 = .ok (.invokevirtual 23, 3) := by decide +kernel
theorem d_C_placeOf_8 : decode c_C_placeOf 8 = .ok (.ifCond .eq 7, 3) := by decide +kernel
theorem d_C_placeOf_15 : decode c_C_placeOf 15 = .ok (.iconst (-1), 1) := by decide +kernel
theorem d_C_placeOf_16 : decode c_C_placeOf 16 = .ok (.ireturn, 1) := by decide +kernel
abbrev w_C_placeOf : List Cond := mx_ws y_C_placeOf c_C_placeOf 5 (some .int)
abbrev rm_C_placeOf : Room := { frames := 40, cells := 0, slots := 0, locals := 800 }
def t_C_placeOf  (P : Option mx_V → mx_F → Prop) : List (Nat × mx_O) := [
  (0, mx_aload 0 1),
  (1, mx_get 1 0 4),
  (4, mx_iload 1 5),
  (5, mx_cv1 5 sp_W_has 0 0 8),
  (8, mx_if_eq 15 11),
  (15, mx_push (.inl (-1)) 16),
  (16, mx_iret P)]
set_option maxRecDepth 20000 in
theorem a_C_placeOf  {p : Program} {l : Launch} {e : Env} {s : State} {m : MethodId} {args : Array Value} {below : List Frame} {meth : Method} {c : Code} {D : va_G} {tc : Nat → ClassId} {tb : Nat → Nat} {sz : Nat} {a0 : Nat → Nat} {G : mx_F} {P : Option mx_V → mx_F → Prop}  (C : mx_C p s m args c c_C_placeOf y_C_placeOf.cls w_C_placeOf D tc tb (mx_A a0 G sz) 5 (mx_Ok0 a0 G)) (hr : meth.sig.returnType = (some .int)) (hlk : meth.locks = false) : mx_all (mx_W p l e rm_C_placeOf s m args below meth c (MQ below (mx_Q D tc tb a0 G sz P) args s 0 0 (mx_A a0 G sz)) D tc tb (mx_A a0 G sz) 5 (mx_Ok0 a0 G)) (t_C_placeOf  P) :=
  ⟨mx_s_aload_n C d_C_placeOf_0 rfl,
  mx_s_get (T := T_C) (N := 2) (k := 0) C (fun w h => List.mem_cons_of_mem _ (in_C w h)) rfl (by decide) (List.mem_cons_of_mem _ (mx_in0 (by decide +kernel) rfl)) rfl d_C_placeOf_1,
  mx_s_iload_n C d_C_placeOf_4 rfl,
  mx_s_cv1 C (m_W_has l) rfl (cwV 1 C.2.2.2.2.1 (mx_gV (fun w h => List.mem_cons_of_mem _ h) (mx_in0 (by decide +kernel) rfl) (mx_in0 (by decide +kernel) rfl) (mx_in0 (by decide +kernel) rfl) (mx_in0 (by decide +kernel) rfl) (mx_in0 (by decide +kernel) rfl)) rfl rfl rfl (by decide +kernel) ⟨by decide, by decide⟩) d_C_placeOf_5 ⟨Nat.zero_le _, Nat.zero_le _⟩,
  mx_s_if_eq C d_C_placeOf_8 (by decide),
  mx_s_iconst C d_C_placeOf_15 (by decide),
  mx_s_iret C hr hlk d_C_placeOf_16,
  trivial⟩
set_option maxRecDepth 20000 in
set_option maxHeartbeats 2000000 in
theorem m_C_placeOf (l : Launch) : mx_M l y_C_placeOf w_C_placeOf rm_C_placeOf sp_C_placeOf := by
  intro D tc tb ad As F P sz0 h
  obtain ⟨a, b, rfl, h3, h1, hp⟩ := h
  refine mx_run (cc := c_C_placeOf) (maxL := 5) (ret := (some .int)) (tab := t_C_placeOf  P) (by decide) rfl D tc tb ad _ F P sz0 (Nat.le_of_ble_eq_true rfl) (fun p e s m args below meth c C hr hlk => a_C_placeOf  C hr hlk) ?_
  intro Rr go
  have hF := mx_as2 h3 h1
  rw [hF]
  refine go rfl ⟨_, rfl, ?_⟩
  refine go rfl ⟨_, _, _, _, rfl, rfl, rfl, ?_⟩
  refine go rfl ⟨_, rfl, ?_⟩
  refine go rfl ⟨_, _, _, _, rfl, rfl, rfl, rfl, rfl, ⟨0, a, rfl, rfl, fun hc => ?_, fun hc => ?_⟩⟩
  · refine go rfl ⟨_, _, rfl, fun c1 => ?_, fun c1 => ?_⟩
    · refine go rfl ?_
      refine go rfl ⟨_, rfl, rfl, rfl, ?_⟩
      rw [← hF]
      exact hp
    · exact absurd rfl c1
  · exact absurd (Int32.not_lt.mp (fun h => hc (Or.inl h))) (fun h => hc (Or.inr h))
-- LadderWords.where(II)I
def sp_L_where : mx_Sp := fun As F P => ∃ a b : Int32, As = [mx_r 0, mx_i a, mx_i b] ∧ F 0 = some e_L ∧ F 3 = some (e_W 0) ∧ F 29 = some e_C ∧ P (some (mx_i (-1))) F
theorem d_L_where_0 : decode c_L_where 0 = .ok (.aload_n 0, 1) := by decide +kernel
theorem d_L_where_1 : decode c_L_where 1 = .ok (.getfield 49, 3) := by decide +kernel
theorem d_L_where_4 : decode c_L_where 4 = .ok (.iload_n 1, 1) := by decide +kernel
theorem d_L_where_5 : decode c_L_where 5 = .ok (.iload_n 2, 1) := by decide +kernel
theorem d_L_where_6 : decode c_L_where 6 = .ok (.invokevirtual 104, 3) := by decide +kernel
theorem d_L_where_9 : decode c_L_where 9 = .ok (.ireturn, 1) := by decide +kernel
abbrev w_L_where : List Cond := mx_ws y_L_where c_L_where 3 (some .int)
abbrev rm_L_where : Room := { frames := 50, cells := 0, slots := 0, locals := 1000 }
def t_L_where  (P : Option mx_V → mx_F → Prop) : List (Nat × mx_O) := [
  (0, mx_aload 0 1),
  (1, mx_get 6 5 4),
  (4, mx_iload 1 5),
  (5, mx_iload 2 6),
  (6, mx_cv2 1 sp_C_placeOf 0 0 9),
  (9, mx_iret P)]
set_option maxRecDepth 20000 in
theorem a_L_where  {p : Program} {l : Launch} {e : Env} {s : State} {m : MethodId} {args : Array Value} {below : List Frame} {meth : Method} {c : Code} {D : va_G} {tc : Nat → ClassId} {tb : Nat → Nat} {sz : Nat} {a0 : Nat → Nat} {G : mx_F} {P : Option mx_V → mx_F → Prop}  (C : mx_C p s m args c c_L_where y_L_where.cls w_L_where D tc tb (mx_A a0 G sz) 3 (mx_Ok0 a0 G)) (hr : meth.sig.returnType = (some .int)) (hlk : meth.locks = false) : mx_all (mx_W p l e rm_L_where s m args below meth c (MQ below (mx_Q D tc tb a0 G sz P) args s 0 0 (mx_A a0 G sz)) D tc tb (mx_A a0 G sz) 3 (mx_Ok0 a0 G)) (t_L_where  P) :=
  ⟨mx_s_aload_n C d_L_where_0 rfl,
  mx_s_get (T := T_L) (N := 6) (k := 5) C (fun w h => List.mem_cons_of_mem _ (in_L w h)) rfl (by decide) (List.mem_cons_of_mem _ (mx_in0 (by decide +kernel) rfl)) rfl d_L_where_1,
  mx_s_iload_n C d_L_where_4 rfl,
  mx_s_iload_n C d_L_where_5 rfl,
  mx_s_cv2 C (m_C_placeOf l) rfl (cwV 2 C.2.2.2.2.1 (mx_gV (fun w h => List.mem_cons_of_mem _ h) (mx_in0 (by decide +kernel) rfl) (mx_in0 (by decide +kernel) rfl) (mx_in0 (by decide +kernel) rfl) (mx_in0 (by decide +kernel) rfl) (mx_in0 (by decide +kernel) rfl)) rfl rfl rfl (by decide +kernel) ⟨by decide, by decide⟩) d_L_where_6 ⟨Nat.zero_le _, Nat.zero_le _⟩,
  mx_s_iret C hr hlk d_L_where_9,
  trivial⟩
set_option maxRecDepth 20000 in
set_option maxHeartbeats 2000000 in
theorem m_L_where (l : Launch) : mx_M l y_L_where w_L_where rm_L_where sp_L_where := by
  intro D tc tb ad As F P sz0 h
  obtain ⟨a, b, rfl, h0, h3, h1, hp⟩ := h
  refine mx_run (cc := c_L_where) (maxL := 3) (ret := (some .int)) (tab := t_L_where  P) (by decide) rfl D tc tb ad _ F P sz0 (Nat.le_of_ble_eq_true rfl) (fun p e s m args below meth c C hr hlk => a_L_where  C hr hlk) ?_
  intro Rr go
  have hF := mx_as3 h0 h3 h1
  rw [hF]
  refine go rfl ⟨_, rfl, ?_⟩
  refine go rfl ⟨_, _, _, _, rfl, rfl, rfl, ?_⟩
  refine go rfl ⟨_, rfl, ?_⟩
  refine go rfl ⟨_, rfl, ?_⟩
  refine go rfl ⟨_, _, _, _, _, rfl, rfl, rfl, rfl, rfl, ⟨a, b, rfl, rfl, rfl, ?_⟩⟩
  refine go rfl ⟨_, rfl, rfl, rfl, ?_⟩
  rw [← hF]
  exact hp
-- LadderWords$Words.lengthOfAll()I
/-- without words -/
def sp_W_lengthOfAll : mx_Sp := fun As F P => ∃ f : Nat → Int32, As = [mx_r 3] ∧ F 3 = some (e_W 0) ∧ F 5 = some (mx_ia 61 f) ∧ P (some (mx_i (f 0))) F
theorem d_W_lengthOfAll_0 : decode c_W_lengthOfAll 0 = .ok (.aload_n 0, 1) := by decide +kernel
theorem d_W_lengthOfAll_1 : decode c_W_lengthOfAll 1 = .ok (.getfield 15, 3) := by decide +kernel
theorem d_W_lengthOfAll_4 : decode c_W_lengthOfAll 4 = .ok (.aload_n 0, 1) := by decide +kernel
theorem d_W_lengthOfAll_5 : decode c_W_lengthOfAll 5 = .ok (.getfield 18, 3) := by decide +kernel
theorem d_W_lengthOfAll_8 : decode c_W_lengthOfAll 8 = .ok (.iaload, 1) := by decide +kernel
theorem d_W_lengthOfAll_9 : decode c_W_lengthOfAll 9 = .ok (.ireturn, 1) := by decide +kernel
abbrev w_W_lengthOfAll : List Cond := mx_ws y_W_lengthOfAll c_W_lengthOfAll 1 (some .int)
abbrev rm_W_lengthOfAll : Room := { frames := 10, cells := 0, slots := 0, locals := 200 }
def t_W_lengthOfAll  (P : Option mx_V → mx_F → Prop) : List (Nat × mx_O) := [
  (0, mx_aload 0 1),
  (1, mx_get 5 1 4),
  (4, mx_aload 0 5),
  (5, mx_get 5 2 8),
  (8, mx_iald 9),
  (9, mx_iret P)]
set_option maxRecDepth 20000 in
theorem a_W_lengthOfAll  {p : Program} {l : Launch} {e : Env} {s : State} {m : MethodId} {args : Array Value} {below : List Frame} {meth : Method} {c : Code} {D : va_G} {tc : Nat → ClassId} {tb : Nat → Nat} {sz : Nat} {a0 : Nat → Nat} {G : mx_F} {P : Option mx_V → mx_F → Prop}  (C : mx_C p s m args c c_W_lengthOfAll y_W_lengthOfAll.cls w_W_lengthOfAll D tc tb (mx_A a0 G sz) 1 (mx_Ok0 a0 G)) (hr : meth.sig.returnType = (some .int)) (hlk : meth.locks = false) : mx_all (mx_W p l e rm_W_lengthOfAll s m args below meth c (MQ below (mx_Q D tc tb a0 G sz P) args s 0 0 (mx_A a0 G sz)) D tc tb (mx_A a0 G sz) 1 (mx_Ok0 a0 G)) (t_W_lengthOfAll  P) :=
  ⟨mx_s_aload_n C d_W_lengthOfAll_0 rfl,
  mx_s_get (T := T_W) (N := 3) (k := 1) C (fun w h => List.mem_cons_of_mem _ (in_W w h)) rfl (by decide) (List.mem_cons_of_mem _ (mx_in0 (by decide +kernel) rfl)) rfl d_W_lengthOfAll_1,
  mx_s_aload_n C d_W_lengthOfAll_4 rfl,
  mx_s_get (T := T_W) (N := 3) (k := 2) C (fun w h => List.mem_cons_of_mem _ (in_W w h)) rfl (by decide) (List.mem_cons_of_mem _ (mx_in0 (by decide +kernel) rfl)) rfl d_W_lengthOfAll_5,
  mx_s_iald C d_W_lengthOfAll_8,
  mx_s_iret C hr hlk d_W_lengthOfAll_9,
  trivial⟩
set_option maxRecDepth 20000 in
set_option maxHeartbeats 2000000 in
theorem m_W_lengthOfAll (l : Launch) : mx_M l y_W_lengthOfAll w_W_lengthOfAll rm_W_lengthOfAll sp_W_lengthOfAll := by
  intro D tc tb ad As F P sz0 h
  obtain ⟨f, rfl, h1, h2, hp⟩ := h
  refine mx_run (cc := c_W_lengthOfAll) (maxL := 1) (ret := (some .int)) (tab := t_W_lengthOfAll  P) (by decide) rfl D tc tb ad _ F P sz0 (Nat.le_of_ble_eq_true rfl) (fun p e s m args below meth c C hr hlk => a_W_lengthOfAll  C hr hlk) ?_
  intro Rr go
  have hF := mx_as2 h1 h2
  rw [hF]
  refine go rfl ⟨_, rfl, ?_⟩
  refine go rfl ⟨_, _, _, _, rfl, rfl, rfl, ?_⟩
  refine go rfl ⟨_, rfl, ?_⟩
  refine go rfl ⟨_, _, _, _, rfl, rfl, rfl, ?_⟩
  refine go rfl ⟨_, _, _, _, _, rfl, rfl, (vp_in_nI (by decide) (by decide)), ?_⟩
  refine go rfl ⟨_, rfl, rfl, rfl, ?_⟩
  rw [← hF]
  exact hp
-- LadderWords$Grid.fillEmpty(J)I
def sp_C_fillEmpty : mx_Sp := fun As F P => ∃ (f : Nat → Int32) (x : Int64), As = [mx_r 29, mx_l x] ∧ F 3 = some (e_W 0) ∧ F 5 = some (mx_ia 61 f) ∧ F 29 = some e_C ∧ f 0 = 0 ∧ P (some (mx_i (-1))) F
theorem d_C_fillEmpty_0 : decode c_C_fillEmpty 0 = .ok (.aload_n 0, 1) := by decide +kernel
theorem d_C_fillEmpty_1 : decode c_C_fillEmpty 1 = .ok (.getfield 15, 3) := by decide +kernel
theorem d_C_fillEmpty_4 : decode c_C_fillEmpty 4 = .ok (.invokevirtual 51, 3) := by decide +kernel
theorem d_C_fillEmpty_7 : decode c_C_fillEmpty 7 = .ok (.istore_n 3, 1) := by decide +kernel
theorem d_C_fillEmpty_8 : decode c_C_fillEmpty 8 = .ok (.iload_n 3, 1) := by decide +kernel
theorem d_C_fillEmpty_9 : decode c_C_fillEmpty 9 = .ok (.ifCond .gt 5, 3) := by decide +kernel
theorem d_C_fillEmpty_12 : decode c_C_fillEmpty 12 = .ok (.iconst (-1), 1) := by decide +kernel
theorem d_C_fillEmpty_13 : decode c_C_fillEmpty 13 = .ok (.ireturn, 1) := by decide +kernel
abbrev w_C_fillEmpty : List Cond := mx_ws y_C_fillEmpty c_C_fillEmpty 8 (some .int)
abbrev rm_C_fillEmpty : Room := { frames := 30, cells := 0, slots := 0, locals := 600 }
def t_C_fillEmpty  (P : Option mx_V → mx_F → Prop) : List (Nat × mx_O) := [
  (0, mx_aload 0 1),
  (1, mx_get 1 0 4),
  (4, mx_cv0 5 sp_W_lengthOfAll 0 0 7),
  (7, mx_istore 3 8),
  (8, mx_iload 3 9),
  (9, mx_if_gt 14 12),
  (12, mx_push (.inl (-1)) 13),
  (13, mx_iret P)]
set_option maxRecDepth 20000 in
theorem a_C_fillEmpty  {p : Program} {l : Launch} {e : Env} {s : State} {m : MethodId} {args : Array Value} {below : List Frame} {meth : Method} {c : Code} {D : va_G} {tc : Nat → ClassId} {tb : Nat → Nat} {sz : Nat} {a0 : Nat → Nat} {G : mx_F} {P : Option mx_V → mx_F → Prop}  (C : mx_C p s m args c c_C_fillEmpty y_C_fillEmpty.cls w_C_fillEmpty D tc tb (mx_A a0 G sz) 8 (mx_Ok0 a0 G)) (hr : meth.sig.returnType = (some .int)) (hlk : meth.locks = false) : mx_all (mx_W p l e rm_C_fillEmpty s m args below meth c (MQ below (mx_Q D tc tb a0 G sz P) args s 0 0 (mx_A a0 G sz)) D tc tb (mx_A a0 G sz) 8 (mx_Ok0 a0 G)) (t_C_fillEmpty  P) :=
  ⟨mx_s_aload_n C d_C_fillEmpty_0 rfl,
  mx_s_get (T := T_C) (N := 2) (k := 0) C (fun w h => List.mem_cons_of_mem _ (in_C w h)) rfl (by decide) (List.mem_cons_of_mem _ (mx_in0 (by decide +kernel) rfl)) rfl d_C_fillEmpty_1,
  mx_s_cv0 C (m_W_lengthOfAll l) rfl (cwV 0 C.2.2.2.2.1 (mx_gV (fun w h => List.mem_cons_of_mem _ h) (mx_in0 (by decide +kernel) rfl) (mx_in0 (by decide +kernel) rfl) (mx_in0 (by decide +kernel) rfl) (mx_in0 (by decide +kernel) rfl) (mx_in0 (by decide +kernel) rfl)) rfl rfl rfl (by decide +kernel) ⟨by decide, by decide⟩) d_C_fillEmpty_4 ⟨Nat.zero_le _, Nat.zero_le _⟩,
  mx_s_istore_n C d_C_fillEmpty_7 rfl (by decide),
  mx_s_iload_n C d_C_fillEmpty_8 rfl,
  mx_s_if_gt C d_C_fillEmpty_9 (by decide),
  mx_s_iconst C d_C_fillEmpty_12 (by decide),
  mx_s_iret C hr hlk d_C_fillEmpty_13,
  trivial⟩
set_option maxRecDepth 20000 in
set_option maxHeartbeats 2000000 in
theorem m_C_fillEmpty (l : Launch) : mx_M l y_C_fillEmpty w_C_fillEmpty rm_C_fillEmpty sp_C_fillEmpty := by
  intro D tc tb ad As F P sz0 h
  obtain ⟨f, x, rfl, h3, h5, h1, h0, hp⟩ := h
  refine mx_run (cc := c_C_fillEmpty) (maxL := 8) (ret := (some .int)) (tab := t_C_fillEmpty  P) (by decide) rfl D tc tb ad _ F P sz0 (Nat.le_of_ble_eq_true rfl) (fun p e s m args below meth c C hr hlk => a_C_fillEmpty  C hr hlk) ?_
  intro Rr go
  have hF := mx_as3 h3 h5 h1
  rw [hF]
  refine go rfl ⟨_, rfl, ?_⟩
  refine go rfl ⟨_, _, _, _, rfl, rfl, rfl, ?_⟩
  refine go rfl ⟨_, _, _, rfl, rfl, rfl, rfl, rfl, ⟨f, rfl, rfl, rfl, ?_⟩⟩
  rw [h0]
  refine go rfl ⟨_, _, rfl, ?_⟩
  refine go rfl ⟨_, rfl, ?_⟩
  refine go rfl ⟨_, _, rfl, fun c1 => ?_, fun c1 => ?_⟩
  · exact absurd c1 (by decide)
  refine go rfl ?_
  refine go rfl ⟨_, rfl, rfl, rfl, ?_⟩
  rw [← hF]
  exact hp
-- LadderWords.fill(J)I
def sp_L_fill : mx_Sp := fun As F P => ∃ (f : Nat → Int32) (x : Int64), As = [mx_r 0, mx_l x] ∧ F 0 = some e_L ∧ F 3 = some (e_W 0) ∧ F 5 = some (mx_ia 61 f) ∧ F 29 = some e_C ∧ f 0 = 0 ∧ P (some (mx_i (-1))) F
theorem d_L_fill_0 : decode c_L_fill 0 = .ok (.aload_n 0, 1) := by decide +kernel
theorem d_L_fill_1 : decode c_L_fill 1 = .ok (.getfield 49, 3) := by decide +kernel
theorem d_L_fill_4 : decode c_L_fill 4 = .ok (.lload_n 1, 1) := by decide +kernel
theorem d_L_fill_5 : decode c_L_fill 5 = .ok (.invokevirtual 94, 3) := by decide +kernel
theorem d_L_fill_8 : decode c_L_fill 8 = .ok (.ireturn, 1) := by decide +kernel
abbrev w_L_fill : List Cond := mx_ws y_L_fill c_L_fill 3 (some .int)
abbrev rm_L_fill : Room := { frames := 40, cells := 0, slots := 0, locals := 800 }
def t_L_fill  (P : Option mx_V → mx_F → Prop) : List (Nat × mx_O) := [
  (0, mx_aload 0 1),
  (1, mx_get 6 5 4),
  (4, mx_lload 1 5),
  (5, mx_cv1 1 sp_C_fillEmpty 0 0 8),
  (8, mx_iret P)]
set_option maxRecDepth 20000 in
theorem a_L_fill  {p : Program} {l : Launch} {e : Env} {s : State} {m : MethodId} {args : Array Value} {below : List Frame} {meth : Method} {c : Code} {D : va_G} {tc : Nat → ClassId} {tb : Nat → Nat} {sz : Nat} {a0 : Nat → Nat} {G : mx_F} {P : Option mx_V → mx_F → Prop}  (C : mx_C p s m args c c_L_fill y_L_fill.cls w_L_fill D tc tb (mx_A a0 G sz) 3 (mx_Ok0 a0 G)) (hr : meth.sig.returnType = (some .int)) (hlk : meth.locks = false) : mx_all (mx_W p l e rm_L_fill s m args below meth c (MQ below (mx_Q D tc tb a0 G sz P) args s 0 0 (mx_A a0 G sz)) D tc tb (mx_A a0 G sz) 3 (mx_Ok0 a0 G)) (t_L_fill  P) :=
  ⟨mx_s_aload_n C d_L_fill_0 rfl,
  mx_s_get (T := T_L) (N := 6) (k := 5) C (fun w h => List.mem_cons_of_mem _ (in_L w h)) rfl (by decide) (List.mem_cons_of_mem _ (mx_in0 (by decide +kernel) rfl)) rfl d_L_fill_1,
  mx_s_lload_n C d_L_fill_4 rfl,
  mx_s_cv1 C (m_C_fillEmpty l) rfl (cwV 1 C.2.2.2.2.1 (mx_gV (fun w h => List.mem_cons_of_mem _ h) (mx_in0 (by decide +kernel) rfl) (mx_in0 (by decide +kernel) rfl) (mx_in0 (by decide +kernel) rfl) (mx_in0 (by decide +kernel) rfl) (mx_in0 (by decide +kernel) rfl)) rfl rfl rfl (by decide +kernel) ⟨by decide, by decide⟩) d_L_fill_5 ⟨Nat.zero_le _, Nat.zero_le _⟩,
  mx_s_iret C hr hlk d_L_fill_8,
  trivial⟩
set_option maxRecDepth 20000 in
set_option maxHeartbeats 2000000 in
theorem m_L_fill (l : Launch) : mx_M l y_L_fill w_L_fill rm_L_fill sp_L_fill := by
  intro D tc tb ad As F P sz0 h
  obtain ⟨f, x, rfl, h00, h3, h5, h1, h0, hp⟩ := h
  refine mx_run (cc := c_L_fill) (maxL := 3) (ret := (some .int)) (tab := t_L_fill  P) (by decide) rfl D tc tb ad _ F P sz0 (Nat.le_of_ble_eq_true rfl) (fun p e s m args below meth c C hr hlk => a_L_fill  C hr hlk) ?_
  intro Rr go
  have hF := mx_as4 h00 h3 h5 h1
  rw [hF]
  refine go rfl ⟨_, rfl, ?_⟩
  refine go rfl ⟨_, _, _, _, rfl, rfl, rfl, ?_⟩
  refine go rfl ⟨_, rfl, ?_⟩
  refine go rfl ⟨_, _, _, _, rfl, rfl, rfl, rfl, rfl, ⟨f, x, rfl, rfl, rfl, rfl, h0, ?_⟩⟩
  refine go rfl ⟨_, rfl, rfl, rfl, ?_⟩
  rw [← hF]
  exact hp
