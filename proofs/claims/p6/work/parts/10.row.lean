-- LadderWords$Row.add(I)Z
/-- a letter that comes: refused, or kept -/
abbrev uc (n : Nat) (u : Int32) : Prop := u < nI 97 ∨ nI 122 < u ∨ nI 12 ≤ nI n
def sp_R_add : mx_Sp := fun As F P => ∃ (n : Nat) (f : Nat → Int32) (u : Int32), As = [mx_r 1, mx_i u] ∧ F 1 = some (e_R n) ∧ F 2 = some (mx_ia 12 f) ∧ n ≤ 12 ∧ (uc n u → P (some (mx_i (nI 0))) F) ∧ (¬ uc n u → P (some (mx_i (nI 1))) (mx_put (mx_put F 2 (mx_ia 12 (upd f n u))) 1 (e_R (n + 1))))
theorem d_R_add_0 : decode c_R_add 0 = .ok (.iload_n 1, 1) := by decide +kernel
theorem d_R_add_1 : decode c_R_add 1 = .ok (.bipush 97, 2) := by decide +kernel
theorem d_R_add_3 : decode c_R_add 3 = .ok (.if_icmp .lt 21, 3) := by decide +kernel
theorem d_R_add_6 : decode c_R_add 6 = .ok (.iload_n 1, 1) := by decide +kernel
theorem d_R_add_7 : decode c_R_add 7 = .ok (.bipush 122, 2) := by decide +kernel
theorem d_R_add_9 : decode c_R_add 9 = .ok (.if_icmp .gt 15, 3) := by decide +kernel
theorem d_R_add_12 : decode c_R_add 12 = .ok (.aload_n 0, 1) := by decide +kernel
theorem d_R_add_13 : decode c_R_add 13 = .ok (.getfield 15, 3) := by decide +kernel
theorem d_R_add_16 : decode c_R_add 16 = .ok (.aload_n 0, 1) := by decide +kernel
theorem d_R_add_17 : decode c_R_add 17 = .ok (.getfield 9, 3) := by decide +kernel
theorem d_R_add_20 : decode c_R_add 20 = .ok (.arraylength, 1) := by decide +kernel
theorem d_R_add_21 : decode c_R_add 21 = .ok (.if_icmp .lt 5, 3) := by decide +kernel
theorem d_R_add_24 : decode c_R_add 24 = .ok (.iconst 0, 1) := by decide +kernel
theorem d_R_add_25 : decode c_R_add 25 = .ok (.ireturn, 1) := by decide +kernel
theorem d_R_add_26 : decode c_R_add 26 = .ok (.aload_n 0, 1) := by decide +kernel
theorem d_R_add_27 : decode c_R_add 27 = .ok (.getfield 9, 3) := by decide +kernel
theorem d_R_add_30 : decode c_R_add 30 = .ok (.aload_n 0, 1) := by decide +kernel
theorem d_R_add_31 : decode c_R_add 31 = .ok (.getfield 15, 3) := by decide +kernel
theorem d_R_add_34 : decode c_R_add 34 = .ok (.iload_n 1, 1) := by decide +kernel
theorem d_R_add_35 : decode c_R_add 35 = .ok (.iastore, 1) := by decide +kernel
theorem d_R_add_36 : decode c_R_add 36 = .ok (.aload_n 0, 1) := by decide +kernel
theorem d_R_add_37 : decode c_R_add 37 = .ok (.dup, 1) := by decide +kernel
theorem d_R_add_38 : decode c_R_add 38 = .ok (.getfield 15, 3) := by decide +kernel
theorem d_R_add_41 : decode c_R_add 41 = .ok (.iconst 1, 1) := by decide +kernel
theorem d_R_add_42 : decode c_R_add 42 = .ok (.iadd, 1) := by decide +kernel
theorem d_R_add_43 : decode c_R_add 43 = .ok (.putfield 15, 3) := by decide +kernel
theorem d_R_add_46 : decode c_R_add 46 = .ok (.iconst 1, 1) := by decide +kernel
theorem d_R_add_47 : decode c_R_add 47 = .ok (.ireturn, 1) := by decide +kernel
abbrev w_R_add : List Cond := mx_ws y_R_add c_R_add 2 (some .boolean)
abbrev rm_R_add : Room := { frames := 10, cells := 0, slots := 0, locals := 200 }
def t_R_add  (P : Option mx_V → mx_F → Prop) : List (Nat × mx_O) := [
  (0, mx_iload 1 1),
  (1, mx_push (.inl (nI 97)) 3),
  (3, mx_ic_lt 24 6),
  (6, mx_iload 1 7),
  (7, mx_push (.inl (nI 122)) 9),
  (9, mx_ic_gt 24 12),
  (12, mx_aload 0 13),
  (13, mx_get 3 1 16),
  (16, mx_aload 0 17),
  (17, mx_get 3 0 20),
  (20, mx_alen 21),
  (21, mx_ic_lt 26 24),
  (24, mx_push (.inl (nI 0)) 25),
  (25, mx_zret P),
  (26, mx_aload 0 27),
  (27, mx_get 3 0 30),
  (30, mx_aload 0 31),
  (31, mx_get 3 1 34),
  (34, mx_iload 1 35),
  (35, mx_iast 36),
  (36, mx_aload 0 37),
  (37, mx_dup 38),
  (38, mx_get 3 1 41),
  (41, mx_push (.inl (nI 1)) 42),
  (42, mx_iadd 43),
  (43, mx_puti 3 1 46),
  (46, mx_push (.inl (nI 1)) 47),
  (47, mx_zret P)]
set_option maxRecDepth 20000 in
theorem a_R_add  {p : Program} {l : Launch} {e : Env} {s : State} {m : MethodId} {args : Array Value} {below : List Frame} {meth : Method} {c : Code} {D : va_G} {tc : Nat → ClassId} {tb : Nat → Nat} {sz : Nat} {a0 : Nat → Nat} {G : mx_F} {P : Option mx_V → mx_F → Prop}  (C : mx_C p s m args c c_R_add y_R_add.cls w_R_add D tc tb (mx_A a0 G sz) 2 (mx_Ok0 a0 G)) (hr : meth.sig.returnType = (some .boolean)) (hlk : meth.locks = false) : mx_all (mx_W p l e rm_R_add s m args below meth c (MQ below (mx_Q D tc tb a0 G sz P) args s 0 0 (mx_A a0 G sz)) D tc tb (mx_A a0 G sz) 2 (mx_Ok0 a0 G)) (t_R_add  P) :=
  ⟨mx_s_iload_n C d_R_add_0 rfl,
  mx_s_bipush C d_R_add_1 (by decide),
  mx_s_ic_lt C d_R_add_3 (by decide),
  mx_s_iload_n C d_R_add_6 rfl,
  mx_s_bipush C d_R_add_7 (by decide),
  mx_s_ic_gt C d_R_add_9 (by decide),
  mx_s_aload_n C d_R_add_12 rfl,
  mx_s_get (T := T_R) (N := 2) (k := 1) C (fun w h => List.mem_cons_of_mem _ (in_R w h)) rfl (by decide) (List.mem_cons_of_mem _ fk_R_15) rfl d_R_add_13,
  mx_s_aload_n C d_R_add_16 rfl,
  mx_s_get (T := T_R) (N := 2) (k := 0) C (fun w h => List.mem_cons_of_mem _ (in_R w h)) rfl (by decide) (List.mem_cons_of_mem _ fk_R_9) rfl d_R_add_17,
  mx_s_alen C d_R_add_20,
  mx_s_ic_lt C d_R_add_21 (by decide),
  mx_s_iconst C d_R_add_24 (by decide),
  mx_s_zret C hr hlk d_R_add_25,
  mx_s_aload_n C d_R_add_26 rfl,
  mx_s_get (T := T_R) (N := 2) (k := 0) C (fun w h => List.mem_cons_of_mem _ (in_R w h)) rfl (by decide) (List.mem_cons_of_mem _ fk_R_9) rfl d_R_add_27,
  mx_s_aload_n C d_R_add_30 rfl,
  mx_s_get (T := T_R) (N := 2) (k := 1) C (fun w h => List.mem_cons_of_mem _ (in_R w h)) rfl (by decide) (List.mem_cons_of_mem _ fk_R_15) rfl d_R_add_31,
  mx_s_iload_n C d_R_add_34 rfl,
  mx_s_iast C d_R_add_35,
  mx_s_aload_n C d_R_add_36 rfl,
  mx_s_dup C d_R_add_37,
  mx_s_get (T := T_R) (N := 2) (k := 1) C (fun w h => List.mem_cons_of_mem _ (in_R w h)) rfl (by decide) (List.mem_cons_of_mem _ fk_R_15) rfl d_R_add_38,
  mx_s_iconst C d_R_add_41 (by decide),
  mx_s_iadd C d_R_add_42,
  mx_s_puti (T := T_R) (N := 2) (k := 1) C (fun w h => List.mem_cons_of_mem _ (in_R w h)) rfl ty_R ok_R nm_R (by decide) (List.mem_cons_of_mem _ fk_R_15) rfl rfl (ok_R 1 (by decide)) d_R_add_43,
  mx_s_iconst C d_R_add_46 (by decide),
  mx_s_zret C hr hlk d_R_add_47,
  trivial⟩
set_option maxRecDepth 20000 in
set_option maxHeartbeats 2000000 in
theorem m_R_add (l : Launch) : mx_M l y_R_add w_R_add rm_R_add sp_R_add := by
  intro zD ztc ztb zad As F P sz0 h
  obtain ⟨n, f, u, rfl, h1, h2, hn, hz, ho⟩ := h
  refine mx_run (cc := c_R_add) (maxL := 2) (ret := (some .boolean)) (tab := t_R_add  P) (by decide) rfl zD ztc ztb zad _ F P sz0 (Nat.le_of_ble_eq_true rfl) (fun p e s m args below meth c C hr hlk => a_R_add  C hr hlk) ?_
  intro Rr go
  have hF := mx_as2 h1 h2
  rw [hF]
  have z : uc n u → Rr 24 [some (mx_r 1), some (mx_i u)] [] (mx_put (mx_put F 1 (e_R n)) 2 (mx_ia 12 f)) 0 0 := by
    intro hc
    refine go rfl ?_
    refine go rfl ⟨_, rfl, rfl, rfl, (Or.inl rfl), ?_⟩
    rw [← hF]
    exact hz hc
  refine go rfl ⟨_, rfl, ?_⟩
  refine go rfl ?_
  refine go rfl ⟨_, _, _, rfl, fun c1 => ?_, fun c1 => ?_⟩
  · exact z (Or.inl c1)
  refine go rfl ⟨_, rfl, ?_⟩
  refine go rfl ?_
  refine go rfl ⟨_, _, _, rfl, fun c2 => ?_, fun c2 => ?_⟩
  · exact z (Or.inr (Or.inl c2))
  refine go rfl ⟨_, rfl, ?_⟩
  refine go rfl ⟨_, _, _, _, rfl, rfl, rfl, ?_⟩
  refine go rfl ⟨_, rfl, ?_⟩
  refine go rfl ⟨_, _, _, _, rfl, rfl, rfl, ?_⟩
  refine go rfl ⟨_, _, _, _, rfl, rfl, ?_⟩
  refine go rfl ⟨_, _, _, rfl, fun c3 => ?_, fun c3 => ?_⟩
  · have hlt : n < 12 := (nI_ltI (by omega) (by omega)).mp c3
    refine go rfl ⟨_, rfl, ?_⟩
    refine go rfl ⟨_, _, _, _, rfl, rfl, rfl, ?_⟩
    refine go rfl ⟨_, rfl, ?_⟩
    refine go rfl ⟨_, _, _, _, rfl, rfl, rfl, ?_⟩
    refine go rfl ⟨_, rfl, ?_⟩
    refine go rfl ⟨_, _, _, _, _, _, rfl, rfl, (vp_in_nI hlt (by omega)), ?_⟩
    rw [nI_clamp (by omega)]
    refine go rfl ⟨_, rfl, ?_⟩
    refine go rfl ⟨_, _, rfl, rfl, ?_⟩
    refine go rfl ⟨_, _, _, _, rfl, rfl, rfl, ?_⟩
    refine go rfl ?_
    refine go rfl ⟨_, _, _, rfl, ?_⟩
    rw [nI_add]
    refine go rfl ⟨_, _, _, _, rfl, rfl, (Nat.le_of_ble_eq_true rfl), ?_⟩
    refine go rfl ?_
    refine go rfl ⟨_, rfl, rfl, rfl, (Or.inr rfl), ?_⟩
    rw [← hF]
    refine ho (fun hc => ?_)
    rcases hc with hc | hc | hc
    · exact c1 hc
    · exact c2 hc
    · exact absurd ((nI_leI (by omega) (by omega)).mp hc) (by omega)
  · exact z (Or.inr (Or.inr (Int32.not_lt.mp c3)))
-- LadderWords$Row.clear()V
def sp_R_clear : mx_Sp := fun As F P => ∃ n : Nat, As = [mx_r 1] ∧ F 1 = some (e_R n) ∧ P none (mx_put F 1 (e_R 0))
theorem d_R_clear_0 : decode c_R_clear 0 = .ok (.aload_n 0, 1) := by decide +kernel
theorem d_R_clear_1 : decode c_R_clear 1 = .ok (.iconst 0, 1) := by decide +kernel
theorem d_R_clear_2 : decode c_R_clear 2 = .ok (.putfield 15, 3) := by decide +kernel
theorem d_R_clear_5 : decode c_R_clear 5 = .ok (.return_, 1) := by decide +kernel
abbrev w_R_clear : List Cond := mx_ws y_R_clear c_R_clear 1 none
abbrev rm_R_clear : Room := { frames := 10, cells := 0, slots := 0, locals := 200 }
def t_R_clear  (P : Option mx_V → mx_F → Prop) : List (Nat × mx_O) := [
  (0, mx_aload 0 1),
  (1, mx_push (.inl (nI 0)) 2),
  (2, mx_puti 3 1 5),
  (5, mx_ret P)]
set_option maxRecDepth 20000 in
theorem a_R_clear  {p : Program} {l : Launch} {e : Env} {s : State} {m : MethodId} {args : Array Value} {below : List Frame} {meth : Method} {c : Code} {D : va_G} {tc : Nat → ClassId} {tb : Nat → Nat} {sz : Nat} {a0 : Nat → Nat} {G : mx_F} {P : Option mx_V → mx_F → Prop}  (C : mx_C p s m args c c_R_clear y_R_clear.cls w_R_clear D tc tb (mx_A a0 G sz) 1 (mx_Ok0 a0 G)) (hr : meth.sig.returnType = none) (hlk : meth.locks = false) : mx_all (mx_W p l e rm_R_clear s m args below meth c (MQ below (mx_Q D tc tb a0 G sz P) args s 0 0 (mx_A a0 G sz)) D tc tb (mx_A a0 G sz) 1 (mx_Ok0 a0 G)) (t_R_clear  P) :=
  ⟨mx_s_aload_n C d_R_clear_0 rfl,
  mx_s_iconst C d_R_clear_1 (by decide),
  mx_s_puti (T := T_R) (N := 2) (k := 1) C (fun w h => List.mem_cons_of_mem _ (in_R w h)) rfl ty_R ok_R nm_R (by decide) (List.mem_cons_of_mem _ fk_R_15) rfl rfl (ok_R 1 (by decide)) d_R_clear_2,
  mx_s_ret C hr hlk d_R_clear_5,
  trivial⟩
set_option maxRecDepth 20000 in
set_option maxHeartbeats 2000000 in
theorem m_R_clear (l : Launch) : mx_M l y_R_clear w_R_clear rm_R_clear sp_R_clear := by
  intro zD ztc ztb zad As F P sz0 h
  obtain ⟨n, rfl, h1, hp⟩ := h
  refine mx_run (cc := c_R_clear) (maxL := 1) (ret := none) (tab := t_R_clear  P) (by decide) rfl zD ztc ztb zad _ F P sz0 (Nat.le_of_ble_eq_true rfl) (fun p e s m args below meth c C hr hlk => a_R_clear  C hr hlk) ?_
  intro Rr go
  have hF := mx_as1 h1
  rw [hF]
  refine go rfl ⟨_, rfl, ?_⟩
  refine go rfl ?_
  refine go rfl ⟨_, _, _, _, rfl, rfl, (Nat.le_of_ble_eq_true rfl), ?_⟩
  refine go rfl ⟨rfl, rfl, rfl, ?_⟩
  rw [← hF]
  exact hp
-- LadderWords$Row.length()I
def sp_R_length : mx_Sp := fun As F P => ∃ n : Nat, As = [mx_r 1] ∧ F 1 = some (e_R n) ∧ P (some (mx_i (nI n))) F
theorem d_R_length_0 : decode c_R_length 0 = .ok (.aload_n 0, 1) := by decide +kernel
theorem d_R_length_1 : decode c_R_length 1 = .ok (.getfield 15, 3) := by decide +kernel
theorem d_R_length_4 : decode c_R_length 4 = .ok (.ireturn, 1) := by decide +kernel
abbrev w_R_length : List Cond := mx_ws y_R_length c_R_length 1 (some .int)
abbrev rm_R_length : Room := { frames := 10, cells := 0, slots := 0, locals := 200 }
def t_R_length  (P : Option mx_V → mx_F → Prop) : List (Nat × mx_O) := [
  (0, mx_aload 0 1),
  (1, mx_get 3 1 4),
  (4, mx_iret P)]
set_option maxRecDepth 20000 in
theorem a_R_length  {p : Program} {l : Launch} {e : Env} {s : State} {m : MethodId} {args : Array Value} {below : List Frame} {meth : Method} {c : Code} {D : va_G} {tc : Nat → ClassId} {tb : Nat → Nat} {sz : Nat} {a0 : Nat → Nat} {G : mx_F} {P : Option mx_V → mx_F → Prop}  (C : mx_C p s m args c c_R_length y_R_length.cls w_R_length D tc tb (mx_A a0 G sz) 1 (mx_Ok0 a0 G)) (hr : meth.sig.returnType = (some .int)) (hlk : meth.locks = false) : mx_all (mx_W p l e rm_R_length s m args below meth c (MQ below (mx_Q D tc tb a0 G sz P) args s 0 0 (mx_A a0 G sz)) D tc tb (mx_A a0 G sz) 1 (mx_Ok0 a0 G)) (t_R_length  P) :=
  ⟨mx_s_aload_n C d_R_length_0 rfl,
  mx_s_get (T := T_R) (N := 2) (k := 1) C (fun w h => List.mem_cons_of_mem _ (in_R w h)) rfl (by decide) (List.mem_cons_of_mem _ fk_R_15) rfl d_R_length_1,
  mx_s_iret C hr hlk d_R_length_4,
  trivial⟩
set_option maxRecDepth 20000 in
set_option maxHeartbeats 2000000 in
theorem m_R_length (l : Launch) : mx_M l y_R_length w_R_length rm_R_length sp_R_length := by
  intro zD ztc ztb zad As F P sz0 h
  obtain ⟨n, rfl, h1, hp⟩ := h
  refine mx_run (cc := c_R_length) (maxL := 1) (ret := (some .int)) (tab := t_R_length  P) (by decide) rfl zD ztc ztb zad _ F P sz0 (Nat.le_of_ble_eq_true rfl) (fun p e s m args below meth c C hr hlk => a_R_length  C hr hlk) ?_
  intro Rr go
  have hF := mx_as1 h1
  rw [hF]
  refine go rfl ⟨_, rfl, ?_⟩
  refine go rfl ⟨_, _, _, _, rfl, rfl, rfl, ?_⟩
  refine go rfl ⟨_, rfl, rfl, rfl, ?_⟩
  rw [← hF]
  exact hp
-- LadderWords$Row.letterAt(I)I
def sp_R_letterAt : mx_Sp := fun As F P => ∃ (n : Nat) (f : Nat → Int32) (i : Int32), As = [mx_r 1, mx_i i] ∧ F 1 = some (e_R n) ∧ F 2 = some (mx_ia 12 f) ∧ n ≤ 12 ∧ (∀ k : Nat, k < n → i = nI k → P (some (mx_i (f k))) F) ∧ ((i < 0 ∨ nI n ≤ i) → P (some (mx_i (-1))) F)
theorem d_R_letterAt_0 : decode c_R_letterAt 0 = .ok (.iload_n 1, 1) := by decide +kernel
theorem d_R_letterAt_1 : decode c_R_letterAt 1 = .ok (.ifCond .lt 20, 3) := by decide +kernel
theorem d_R_letterAt_4 : decode c_R_letterAt 4 = .ok (.iload_n 1, 1) := by decide +kernel
theorem d_R_letterAt_5 : decode c_R_letterAt 5 = .ok (.aload_n 0, 1) := by decide +kernel
theorem d_R_letterAt_6 : decode c_R_letterAt 6 = .ok (.getfield 15, 3) := by decide +kernel
theorem d_R_letterAt_9 : decode c_R_letterAt 9 = .ok (.if_icmp .ge 12, 3) := by decide +kernel
theorem d_R_letterAt_12 : decode c_R_letterAt 12 = .ok (.aload_n 0, 1) := by decide +kernel
theorem d_R_letterAt_13 : decode c_R_letterAt 13 = .ok (.getfield 9, 3) := by decide +kernel
theorem d_R_letterAt_16 : decode c_R_letterAt 16 = .ok (.iload_n 1, 1) := by decide +kernel
theorem d_R_letterAt_17 : decode c_R_letterAt 17 = .ok (.iaload, 1) := by decide +kernel
theorem d_R_letterAt_18 : decode c_R_letterAt 18 = .ok (.goto 4, 3) := by decide +kernel
theorem d_R_letterAt_21 : decode c_R_letterAt 21 = .ok (.iconst (-1), 1) := by decide +kernel
theorem d_R_letterAt_22 : decode c_R_letterAt 22 = .ok (.ireturn, 1) := by decide +kernel
abbrev w_R_letterAt : List Cond := mx_ws y_R_letterAt c_R_letterAt 2 (some .int)
abbrev rm_R_letterAt : Room := { frames := 10, cells := 0, slots := 0, locals := 200 }
def t_R_letterAt  (P : Option mx_V → mx_F → Prop) : List (Nat × mx_O) := [
  (0, mx_iload 1 1),
  (1, mx_if_lt 21 4),
  (4, mx_iload 1 5),
  (5, mx_aload 0 6),
  (6, mx_get 3 1 9),
  (9, mx_ic_ge 21 12),
  (12, mx_aload 0 13),
  (13, mx_get 3 0 16),
  (16, mx_iload 1 17),
  (17, mx_iald 18),
  (18, mx_goto 22),
  (21, mx_push (.inl (-1)) 22),
  (22, mx_iret P)]
set_option maxRecDepth 20000 in
theorem a_R_letterAt  {p : Program} {l : Launch} {e : Env} {s : State} {m : MethodId} {args : Array Value} {below : List Frame} {meth : Method} {c : Code} {D : va_G} {tc : Nat → ClassId} {tb : Nat → Nat} {sz : Nat} {a0 : Nat → Nat} {G : mx_F} {P : Option mx_V → mx_F → Prop}  (C : mx_C p s m args c c_R_letterAt y_R_letterAt.cls w_R_letterAt D tc tb (mx_A a0 G sz) 2 (mx_Ok0 a0 G)) (hr : meth.sig.returnType = (some .int)) (hlk : meth.locks = false) : mx_all (mx_W p l e rm_R_letterAt s m args below meth c (MQ below (mx_Q D tc tb a0 G sz P) args s 0 0 (mx_A a0 G sz)) D tc tb (mx_A a0 G sz) 2 (mx_Ok0 a0 G)) (t_R_letterAt  P) :=
  ⟨mx_s_iload_n C d_R_letterAt_0 rfl,
  mx_s_if_lt C d_R_letterAt_1 (by decide),
  mx_s_iload_n C d_R_letterAt_4 rfl,
  mx_s_aload_n C d_R_letterAt_5 rfl,
  mx_s_get (T := T_R) (N := 2) (k := 1) C (fun w h => List.mem_cons_of_mem _ (in_R w h)) rfl (by decide) (List.mem_cons_of_mem _ fk_R_15) rfl d_R_letterAt_6,
  mx_s_ic_ge C d_R_letterAt_9 (by decide),
  mx_s_aload_n C d_R_letterAt_12 rfl,
  mx_s_get (T := T_R) (N := 2) (k := 0) C (fun w h => List.mem_cons_of_mem _ (in_R w h)) rfl (by decide) (List.mem_cons_of_mem _ fk_R_9) rfl d_R_letterAt_13,
  mx_s_iload_n C d_R_letterAt_16 rfl,
  mx_s_iald C d_R_letterAt_17,
  mx_s_goto C d_R_letterAt_18 (by decide),
  mx_s_iconst C d_R_letterAt_21 (by decide),
  mx_s_iret C hr hlk d_R_letterAt_22,
  trivial⟩
set_option maxRecDepth 20000 in
set_option maxHeartbeats 2000000 in
theorem m_R_letterAt (l : Launch) : mx_M l y_R_letterAt w_R_letterAt rm_R_letterAt sp_R_letterAt := by
  intro zD ztc ztb zad As F P sz0 h
  obtain ⟨n, f, i, rfl, h1, h2, hn, ho, hz⟩ := h
  refine mx_run (cc := c_R_letterAt) (maxL := 2) (ret := (some .int)) (tab := t_R_letterAt  P) (by decide) rfl zD ztc ztb zad _ F P sz0 (Nat.le_of_ble_eq_true rfl) (fun p e s m args below meth c C hr hlk => a_R_letterAt  C hr hlk) ?_
  intro Rr go
  have hF := mx_as2 h1 h2
  rw [hF]
  refine go rfl ⟨_, rfl, ?_⟩
  refine go rfl ⟨_, _, rfl, fun c1 => ?_, fun c1 => ?_⟩
  · refine go rfl ?_
    refine go rfl ⟨_, rfl, rfl, rfl, ?_⟩
    rw [← hF]
    exact hz (Or.inl c1)
  refine go rfl ⟨_, rfl, ?_⟩
  refine go rfl ⟨_, rfl, ?_⟩
  refine go rfl ⟨_, _, _, _, rfl, rfl, rfl, ?_⟩
  refine go rfl ⟨_, _, _, rfl, fun c2 => ?_, fun c2 => ?_⟩
  · refine go rfl ?_
    refine go rfl ⟨_, rfl, rfl, rfl, ?_⟩
    rw [← hF]
    exact hz (Or.inr c2)
  rcases pk_ix i (n := n) (by omega) with q | q | ⟨k, hk, rfl⟩
  · exact absurd q c1
  · exact absurd q c2
  refine go rfl ⟨_, rfl, ?_⟩
  refine go rfl ⟨_, _, _, _, rfl, rfl, rfl, ?_⟩
  refine go rfl ⟨_, rfl, ?_⟩
  refine go rfl ⟨_, _, _, _, _, rfl, rfl, (vp_in_nI (by omega) (by omega)), ?_⟩
  rw [nI_clamp (by omega)]
  refine go rfl ?_
  refine go rfl ⟨_, rfl, rfl, rfl, ?_⟩
  rw [← hF]
  exact ho k hk rfl
-- LadderWords$Row.firstPlaceOf(I)I
def sp_R_firstPlaceOf : mx_Sp := fun As F P => ∃ (n : Nat) (f : Nat → Int32) (u : Int32), As = [mx_r 1, mx_i u] ∧ F 1 = some (e_R n) ∧ F 2 = some (mx_ia 12 f) ∧ n ≤ 12 ∧ (∀ k : Nat, k < n → f k = u → (∀ j, j < k → f j ≠ u) → P (some (mx_i (nI k))) F) ∧ ((∀ j, j < n → f j ≠ u) → P (some (mx_i (-1))) F)
theorem d_R_firstPlaceOf_0 : decode c_R_firstPlaceOf 0 = .ok (.iconst 0, 1) := by decide +kernel
theorem d_R_firstPlaceOf_1 : decode c_R_firstPlaceOf 1 = .ok (.istore_n 2, 1) := by decide +kernel
theorem d_R_firstPlaceOf_2 : decode c_R_firstPlaceOf 2 = .ok (.iload_n 2, 1) := by decide +kernel
theorem d_R_firstPlaceOf_3 : decode c_R_firstPlaceOf 3 = .ok (.aload_n 0, 1) := by decide +kernel
theorem d_R_firstPlaceOf_4 : decode c_R_firstPlaceOf 4 = .ok (.getfield 15, 3) := by decide +kernel
theorem d_R_firstPlaceOf_7 : decode c_R_firstPlaceOf 7 = .ok (.if_icmp .ge 21, 3) := by decide +kernel
theorem d_R_firstPlaceOf_10 : decode c_R_firstPlaceOf 10 = .ok (.aload_n 0, 1) := by decide +kernel
theorem d_R_firstPlaceOf_11 : decode c_R_firstPlaceOf 11 = .ok (.getfield 9, 3) := by decide +kernel
theorem d_R_firstPlaceOf_14 : decode c_R_firstPlaceOf 14 = .ok (.iload_n 2, 1) := by decide +kernel
theorem d_R_firstPlaceOf_15 : decode c_R_firstPlaceOf 15 = .ok (.iaload, 1) := by decide +kernel
theorem d_R_firstPlaceOf_16 : decode c_R_firstPlaceOf 16 = .ok (.iload_n 1, 1) := by decide +kernel
theorem d_R_firstPlaceOf_17 : decode c_R_firstPlaceOf 17 = .ok (.if_icmp .ne 5, 3) := by decide +kernel
theorem d_R_firstPlaceOf_20 : decode c_R_firstPlaceOf 20 = .ok (.iload_n 2, 1) := by decide +kernel
theorem d_R_firstPlaceOf_21 : decode c_R_firstPlaceOf 21 = .ok (.ireturn, 1) := by decide +kernel
theorem d_R_firstPlaceOf_22 : decode c_R_firstPlaceOf 22 = .ok (.iinc 2 1, 3) := by decide +kernel
theorem d_R_firstPlaceOf_25 : decode c_R_firstPlaceOf 25 = .ok (.goto (-23), 3) := by decide +kernel
theorem d_R_firstPlaceOf_28 : decode c_R_firstPlaceOf 28 = .ok (.iconst (-1), 1) := by decide +kernel
theorem d_R_firstPlaceOf_29 : decode c_R_firstPlaceOf 29 = .ok (.ireturn, 1) := by decide +kernel
abbrev w_R_firstPlaceOf : List Cond := mx_ws y_R_firstPlaceOf c_R_firstPlaceOf 3 (some .int)
abbrev rm_R_firstPlaceOf : Room := { frames := 10, cells := 0, slots := 0, locals := 200 }
def t_R_firstPlaceOf  (P : Option mx_V → mx_F → Prop) : List (Nat × mx_O) := [
  (0, mx_push (.inl (nI 0)) 1),
  (1, mx_istore 2 2),
  (2, mx_iload 2 3),
  (3, mx_aload 0 4),
  (4, mx_get 3 1 7),
  (7, mx_ic_ge 28 10),
  (10, mx_aload 0 11),
  (11, mx_get 3 0 14),
  (14, mx_iload 2 15),
  (15, mx_iald 16),
  (16, mx_iload 1 17),
  (17, mx_ic_ne 22 20),
  (20, mx_iload 2 21),
  (21, mx_iret P),
  (22, mx_iinc 2 (nI 1) 25),
  (25, mx_goto 2),
  (28, mx_push (.inl (-1)) 29),
  (29, mx_iret P)]
set_option maxRecDepth 20000 in
theorem a_R_firstPlaceOf  {p : Program} {l : Launch} {e : Env} {s : State} {m : MethodId} {args : Array Value} {below : List Frame} {meth : Method} {c : Code} {D : va_G} {tc : Nat → ClassId} {tb : Nat → Nat} {sz : Nat} {a0 : Nat → Nat} {G : mx_F} {P : Option mx_V → mx_F → Prop}  (C : mx_C p s m args c c_R_firstPlaceOf y_R_firstPlaceOf.cls w_R_firstPlaceOf D tc tb (mx_A a0 G sz) 3 (mx_Ok0 a0 G)) (hr : meth.sig.returnType = (some .int)) (hlk : meth.locks = false) : mx_all (mx_W p l e rm_R_firstPlaceOf s m args below meth c (MQ below (mx_Q D tc tb a0 G sz P) args s 0 0 (mx_A a0 G sz)) D tc tb (mx_A a0 G sz) 3 (mx_Ok0 a0 G)) (t_R_firstPlaceOf  P) :=
  ⟨mx_s_iconst C d_R_firstPlaceOf_0 (by decide),
  mx_s_istore_n C d_R_firstPlaceOf_1 rfl (by decide),
  mx_s_iload_n C d_R_firstPlaceOf_2 rfl,
  mx_s_aload_n C d_R_firstPlaceOf_3 rfl,
  mx_s_get (T := T_R) (N := 2) (k := 1) C (fun w h => List.mem_cons_of_mem _ (in_R w h)) rfl (by decide) (List.mem_cons_of_mem _ fk_R_15) rfl d_R_firstPlaceOf_4,
  mx_s_ic_ge C d_R_firstPlaceOf_7 (by decide),
  mx_s_aload_n C d_R_firstPlaceOf_10 rfl,
  mx_s_get (T := T_R) (N := 2) (k := 0) C (fun w h => List.mem_cons_of_mem _ (in_R w h)) rfl (by decide) (List.mem_cons_of_mem _ fk_R_9) rfl d_R_firstPlaceOf_11,
  mx_s_iload_n C d_R_firstPlaceOf_14 rfl,
  mx_s_iald C d_R_firstPlaceOf_15,
  mx_s_iload_n C d_R_firstPlaceOf_16 rfl,
  mx_s_ic_ne C d_R_firstPlaceOf_17 (by decide),
  mx_s_iload_n C d_R_firstPlaceOf_20 rfl,
  mx_s_iret C hr hlk d_R_firstPlaceOf_21,
  mx_s_iinc C d_R_firstPlaceOf_22 (by decide) (by decide),
  mx_s_goto C d_R_firstPlaceOf_25 (by decide),
  mx_s_iconst C d_R_firstPlaceOf_28 (by decide),
  mx_s_iret C hr hlk d_R_firstPlaceOf_29,
  trivial⟩
set_option maxRecDepth 20000 in
set_option maxHeartbeats 2000000 in
theorem m_R_firstPlaceOf (l : Launch) : mx_M l y_R_firstPlaceOf w_R_firstPlaceOf rm_R_firstPlaceOf sp_R_firstPlaceOf := by
  intro zD ztc ztb zad As F P sz0 h
  obtain ⟨n, f, u, rfl, h1, h2, hn, ho, hz⟩ := h
  refine mx_run (cc := c_R_firstPlaceOf) (maxL := 3) (ret := (some .int)) (tab := t_R_firstPlaceOf  P) (by decide) rfl zD ztc ztb zad _ F P sz0 (Nat.le_of_ble_eq_true rfl) (fun p e s m args below meth c C hr hlk => a_R_firstPlaceOf  C hr hlk) ?_
  intro Rr go
  have hF := mx_as2 h1 h2
  rw [hF]
  have loop : ∀ (k i : Nat), i + k = n → (∀ j, j < i → f j ≠ u) → Rr 2 [some (mx_r 1), some (mx_i u), some (mx_i (nI i))] [] (mx_put (mx_put F 1 (e_R n)) 2 (mx_ia 12 f)) 0 0 := by
    intro k
    induction k with
    | zero =>
      intro i hi hno
      refine go rfl ⟨_, rfl, ?_⟩
      refine go rfl ⟨_, rfl, ?_⟩
      refine go rfl ⟨_, _, _, _, rfl, rfl, rfl, ?_⟩
      refine go rfl ⟨_, _, _, rfl, fun c => ?_, fun c => ?_⟩
      · refine go rfl ?_
        refine go rfl ⟨_, rfl, rfl, rfl, ?_⟩
        rw [← hF]
        exact hz (fun j hj => hno j (by omega))
      · exact absurd (nI_le (by omega) (by omega)) c
    | succ k ih =>
      intro i hi hno
      refine go rfl ⟨_, rfl, ?_⟩
      refine go rfl ⟨_, rfl, ?_⟩
      refine go rfl ⟨_, _, _, _, rfl, rfl, rfl, ?_⟩
      refine go rfl ⟨_, _, _, rfl, fun c => ?_, fun c => ?_⟩
      · exact absurd ((nI_leI (by omega) (by omega)).mp c) (by omega)
      · refine go rfl ⟨_, rfl, ?_⟩
        refine go rfl ⟨_, _, _, _, rfl, rfl, rfl, ?_⟩
        refine go rfl ⟨_, rfl, ?_⟩
        refine go rfl ⟨_, _, _, _, _, rfl, rfl, (vp_in_nI (by omega) (by omega)), ?_⟩
        refine go rfl ⟨_, rfl, ?_⟩
        rw [nI_clamp (by omega)]
        refine go rfl ⟨_, _, _, rfl, fun d => ?_, fun d => ?_⟩
        · refine go rfl ⟨_, rfl, ?_⟩
          refine go rfl ?_
          rw [nI_add]
          refine ih (i + 1) (by omega) (fun j hj => ?_)
          rcases Nat.lt_or_ge j i with q | q
          · exact hno j q
          · rw [show j = i by omega]
            exact d
        · refine go rfl ⟨_, rfl, ?_⟩
          refine go rfl ⟨_, rfl, rfl, rfl, ?_⟩
          rw [← hF]
          exact ho i (by omega) d hno
  refine go rfl ?_
  refine go rfl ⟨_, _, rfl, ?_⟩
  exact loop n 0 (by omega) (fun j hj => absurd hj (Nat.not_lt_zero j))
