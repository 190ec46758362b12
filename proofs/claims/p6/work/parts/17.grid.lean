-- LadderWords$Grid.isInside(II)Z
def sp_C_isInside : mx_Sp := fun As F P => ∃ x y : Int32, As = [mx_i x, mx_i y] ∧ (ins x y → P (some (mx_i (nI 1))) F) ∧ (¬ ins x y → P (some (mx_i (nI 0))) F)
theorem d_C_isInside_0 : decode c_C_isInside 0 = .ok (.iload_n 0, 1) := by decide +kernel
theorem d_C_isInside_1 : decode c_C_isInside 1 = .ok (.ifCond .lt 23, 3) := by decide +kernel
theorem d_C_isInside_4 : decode c_C_isInside 4 = .ok (.iload_n 0, 1) := by decide +kernel
theorem d_C_isInside_5 : decode c_C_isInside 5 = .ok (.bipush 8, 2) := by decide +kernel
theorem d_C_isInside_7 : decode c_C_isInside 7 = .ok (.if_icmp .ge 17, 3) := by decide +kernel
theorem d_C_isInside_10 : decode c_C_isInside 10 = .ok (.iload_n 1, 1) := by decide +kernel
theorem d_C_isInside_11 : decode c_C_isInside 11 = .ok (.ifCond .lt 13, 3) := by decide +kernel
theorem d_C_isInside_14 : decode c_C_isInside 14 = .ok (.iload_n 1, 1) := by decide +kernel
theorem d_C_isInside_15 : decode c_C_isInside 15 = .ok (.bipush 8, 2) := by decide +kernel
theorem d_C_isInside_17 : decode c_C_isInside 17 = .ok (.if_icmp .ge 7, 3) := by decide +kernel
theorem d_C_isInside_20 : decode c_C_isInside 20 = .ok (.iconst 1, 1) := by decide +kernel
theorem d_C_isInside_21 : decode c_C_isInside 21 = .ok (.goto 4, 3) := by decide +kernel
theorem d_C_isInside_24 : decode c_C_isInside 24 = .ok (.iconst 0, 1) := by decide +kernel
theorem d_C_isInside_25 : decode c_C_isInside 25 = .ok (.ireturn, 1) := by decide +kernel
abbrev w_C_isInside : List Cond := mx_ws y_C_isInside c_C_isInside 2 (some .boolean)
abbrev rm_C_isInside : Room := { frames := 10, cells := 0, slots := 0, locals := 200 }
def t_C_isInside  (P : Option mx_V → mx_F → Prop) : List (Nat × mx_O) := [
  (0, mx_iload 0 1),
  (1, mx_if_lt 24 4),
  (4, mx_iload 0 5),
  (5, mx_push (.inl (nI 8)) 7),
  (7, mx_ic_ge 24 10),
  (10, mx_iload 1 11),
  (11, mx_if_lt 24 14),
  (14, mx_iload 1 15),
  (15, mx_push (.inl (nI 8)) 17),
  (17, mx_ic_ge 24 20),
  (20, mx_push (.inl (nI 1)) 21),
  (21, mx_goto 25),
  (24, mx_push (.inl (nI 0)) 25),
  (25, mx_zret P)]
set_option maxRecDepth 20000 in
theorem a_C_isInside  {p : Program} {l : Launch} {e : Env} {s : State} {m : MethodId} {args : Array Value} {below : List Frame} {meth : Method} {c : Code} {D : va_G} {tc : Nat → ClassId} {tb : Nat → Nat} {sz : Nat} {a0 : Nat → Nat} {G : mx_F} {P : Option mx_V → mx_F → Prop}  (C : mx_C p s m args c c_C_isInside y_C_isInside.cls w_C_isInside D tc tb (mx_A a0 G sz) 2 (mx_Ok0 a0 G)) (hr : meth.sig.returnType = (some .boolean)) (hlk : meth.locks = false) : mx_all (mx_W p l e rm_C_isInside s m args below meth c (MQ below (mx_Q D tc tb a0 G sz P) args s 0 0 (mx_A a0 G sz)) D tc tb (mx_A a0 G sz) 2 (mx_Ok0 a0 G)) (t_C_isInside  P) :=
  ⟨mx_s_iload_n C d_C_isInside_0 rfl,
  mx_s_if_lt C d_C_isInside_1 (by decide),
  mx_s_iload_n C d_C_isInside_4 rfl,
  mx_s_bipush C d_C_isInside_5 (by decide),
  mx_s_ic_ge C d_C_isInside_7 (by decide),
  mx_s_iload_n C d_C_isInside_10 rfl,
  mx_s_if_lt C d_C_isInside_11 (by decide),
  mx_s_iload_n C d_C_isInside_14 rfl,
  mx_s_bipush C d_C_isInside_15 (by decide),
  mx_s_ic_ge C d_C_isInside_17 (by decide),
  mx_s_iconst C d_C_isInside_20 (by decide),
  mx_s_goto C d_C_isInside_21 (by decide),
  mx_s_iconst C d_C_isInside_24 (by decide),
  mx_s_zret C hr hlk d_C_isInside_25,
  trivial⟩
set_option maxRecDepth 20000 in
set_option maxHeartbeats 2000000 in
theorem m_C_isInside (l : Launch) : mx_M l y_C_isInside w_C_isInside rm_C_isInside sp_C_isInside := by
  intro zD ztc ztb zad As F P sz0 h
  obtain ⟨x, y, rfl, ho, hz⟩ := h
  refine mx_run (cc := c_C_isInside) (maxL := 2) (ret := (some .boolean)) (tab := t_C_isInside  P) (by decide) rfl zD ztc ztb zad _ F P sz0 (Nat.le_of_ble_eq_true rfl) (fun p e s m args below meth c C hr hlk => a_C_isInside  C hr hlk) ?_
  intro Rr go
  have z : ¬ ins x y → Rr 24 [some (mx_i x), some (mx_i y)] [] F 0 0 := by
    intro hc
    refine go rfl ?_
    refine go rfl ⟨_, rfl, rfl, rfl, (Or.inl rfl), ?_⟩
    exact hz hc
  refine go rfl ⟨_, rfl, ?_⟩
  refine go rfl ⟨_, _, rfl, fun c1 => ?_, fun c1 => ?_⟩
  · exact z (fun h => h (Or.inl c1))
  refine go rfl ⟨_, rfl, ?_⟩
  refine go rfl ?_
  refine go rfl ⟨_, _, _, rfl, fun c2 => ?_, fun c2 => ?_⟩
  · exact z (fun h => h (Or.inr (Or.inl c2)))
  refine go rfl ⟨_, rfl, ?_⟩
  refine go rfl ⟨_, _, rfl, fun c3 => ?_, fun c3 => ?_⟩
  · exact z (fun h => h (Or.inr (Or.inr (Or.inl c3))))
  refine go rfl ⟨_, rfl, ?_⟩
  refine go rfl ?_
  refine go rfl ⟨_, _, _, rfl, fun c4 => ?_, fun c4 => ?_⟩
  · exact z (fun h => h (Or.inr (Or.inr (Or.inr c4))))
  refine go rfl ?_
  refine go rfl ?_
  refine go rfl ⟨_, rfl, rfl, rfl, (Or.inr rfl), ?_⟩
  refine ho (fun h => ?_)
  rcases h with h | h | h | h
  · exact c1 h
  · exact c2 h
  · exact c3 h
  · exact c4 h
-- LadderWords$Grid.letterAt(II)I
def sp_C_letterAt : mx_Sp := fun As F P => ∃ (g : Nat → Int32) (x y : Int32), As = [mx_r 29, mx_i x, mx_i y] ∧ F 29 = some e_C ∧ F 30 = some (mx_ia 64 g) ∧ P (some (mx_i (gat g x y))) F
theorem d_C_letterAt_0 : decode c_C_letterAt 0 = .ok (.iload_n 1, 1) := by decide +kernel
theorem d_C_letterAt_1 : decode c_C_letterAt 1 = .ok (.iload_n 2, 1) := by decide +kernel
theorem d_C_letterAt_2 : decode c_C_letterAt 2 = .ok (.invokestatic 19, 3) := by decide +kernel
theorem d_C_letterAt_5 : decode c_C_letterAt 5 = .ok (.ifCond .eq 17, 3) := by decide +kernel
theorem d_C_letterAt_8 : decode c_C_letterAt 8 = .ok (.aload_n 0, 1) := by decide +kernel
theorem d_C_letterAt_9 : decode c_C_letterAt 9 = .ok (.getfield 11, 3) := by decide +kernel
theorem d_C_letterAt_12 : decode c_C_letterAt 12 = .ok (.iload_n 1, 1) := by decide +kernel
theorem d_C_letterAt_13 : decode c_C_letterAt 13 = .ok (.bipush 8, 2) := by decide +kernel
theorem d_C_letterAt_15 : decode c_C_letterAt 15 = .ok (.iload_n 2, 1) := by decide +kernel
theorem d_C_letterAt_16 : decode c_C_letterAt 16 = .ok (.imul, 1) := by decide +kernel
theorem d_C_letterAt_17 : decode c_C_letterAt 17 = .ok (.iadd, 1) := by decide +kernel
theorem d_C_letterAt_18 : decode c_C_letterAt 18 = .ok (.iaload, 1) := by decide +kernel
theorem d_C_letterAt_19 : decode c_C_letterAt 19 = .ok (.goto 4, 3) := by decide +kernel
theorem d_C_letterAt_22 : decode c_C_letterAt 22 = .ok (.iconst (-1), 1) := by decide +kernel
theorem d_C_letterAt_23 : decode c_C_letterAt 23 = .ok (.ireturn, 1) := by decide +kernel
abbrev w_C_letterAt : List Cond := mx_ws y_C_letterAt c_C_letterAt 3 (some .int)
abbrev rm_C_letterAt : Room := { frames := 20, cells := 0, slots := 0, locals := 400 }
def t_C_letterAt  (P : Option mx_V → mx_F → Prop) : List (Nat × mx_O) := [
  (0, mx_iload 1 1),
  (1, mx_iload 2 2),
  (2, mx_cs2 sp_C_isInside 0 0 5),
  (5, mx_if_eq 22 8),
  (8, mx_aload 0 9),
  (9, mx_get 1 1 12),
  (12, mx_iload 1 13),
  (13, mx_push (.inl (nI 8)) 15),
  (15, mx_iload 2 16),
  (16, mx_imul 17),
  (17, mx_iadd 18),
  (18, mx_iald 19),
  (19, mx_goto 23),
  (22, mx_push (.inl (-1)) 23),
  (23, mx_iret P)]
set_option maxRecDepth 20000 in
theorem a_C_letterAt  {p : Program} {l : Launch} {e : Env} {s : State} {m : MethodId} {args : Array Value} {below : List Frame} {meth : Method} {c : Code} {D : va_G} {tc : Nat → ClassId} {tb : Nat → Nat} {sz : Nat} {a0 : Nat → Nat} {G : mx_F} {P : Option mx_V → mx_F → Prop}  (C : mx_C p s m args c c_C_letterAt y_C_letterAt.cls w_C_letterAt D tc tb (mx_A a0 G sz) 3 (mx_Ok0 a0 G)) (hr : meth.sig.returnType = (some .int)) (hlk : meth.locks = false) : mx_all (mx_W p l e rm_C_letterAt s m args below meth c (MQ below (mx_Q D tc tb a0 G sz P) args s 0 0 (mx_A a0 G sz)) D tc tb (mx_A a0 G sz) 3 (mx_Ok0 a0 G)) (t_C_letterAt  P) :=
  ⟨mx_s_iload_n C d_C_letterAt_0 rfl,
  mx_s_iload_n C d_C_letterAt_1 rfl,
  mx_s_cs2 C (m_C_isInside l) (cwS 2 C.2.2.2.2.1 (mx_gS (fun w h => List.mem_cons_of_mem _ h) mk_C_19 sm_C_isInside ic_C co_C_isInside) rfl rfl rfl (by decide +kernel) ⟨by decide, by decide⟩) d_C_letterAt_2 ⟨Nat.zero_le _, Nat.zero_le _⟩,
  mx_s_if_eq C d_C_letterAt_5 (by decide),
  mx_s_aload_n C d_C_letterAt_8 rfl,
  mx_s_get (T := T_C) (N := 2) (k := 1) C (fun w h => List.mem_cons_of_mem _ (in_C w h)) rfl (by decide) (List.mem_cons_of_mem _ fk_C_11) rfl d_C_letterAt_9,
  mx_s_iload_n C d_C_letterAt_12 rfl,
  mx_s_bipush C d_C_letterAt_13 (by decide),
  mx_s_iload_n C d_C_letterAt_15 rfl,
  mx_s_imul C d_C_letterAt_16,
  mx_s_iadd C d_C_letterAt_17,
  mx_s_iald C d_C_letterAt_18,
  mx_s_goto C d_C_letterAt_19 (by decide),
  mx_s_iconst C d_C_letterAt_22 (by decide),
  mx_s_iret C hr hlk d_C_letterAt_23,
  trivial⟩
set_option maxRecDepth 20000 in
set_option maxHeartbeats 2000000 in
theorem m_C_letterAt (l : Launch) : mx_M l y_C_letterAt w_C_letterAt rm_C_letterAt sp_C_letterAt := by
  intro zD ztc ztb zad As F P sz0 h
  obtain ⟨g, x, y, rfl, h9, h10, hp⟩ := h
  refine mx_run (cc := c_C_letterAt) (maxL := 3) (ret := (some .int)) (tab := t_C_letterAt  P) (by decide) rfl zD ztc ztb zad _ F P sz0 (Nat.le_of_ble_eq_true rfl) (fun p e s m args below meth c C hr hlk => a_C_letterAt  C hr hlk) ?_
  intro Rr go
  have hF := mx_as2 h9 h10
  rw [hF]
  refine go rfl ⟨_, rfl, ?_⟩
  refine go rfl ⟨_, rfl, ?_⟩
  refine go rfl ⟨_, _, _, rfl, rfl, rfl, rfl, ⟨x, y, rfl, fun c => ?_, fun c => ?_⟩⟩
  · refine go rfl ⟨_, _, rfl, fun d => ?_, fun d => ?_⟩
    · exact absurd d (by decide)
    refine go rfl ⟨_, rfl, ?_⟩
    refine go rfl ⟨_, _, _, _, rfl, rfl, rfl, ?_⟩
    refine go rfl ⟨_, rfl, ?_⟩
    refine go rfl ?_
    refine go rfl ⟨_, rfl, ?_⟩
    refine go rfl ⟨_, _, _, rfl, ?_⟩
    refine go rfl ⟨_, _, _, rfl, ?_⟩
    refine go rfl ⟨_, _, _, _, _, rfl, rfl, (ins_vp c), ?_⟩
    refine go rfl ?_
    refine go rfl ⟨_, rfl, rfl, rfl, ?_⟩
    rw [← hF]
    rw [gat_in c] at hp
    exact hp
  · refine go rfl ⟨_, _, rfl, fun d => ?_, fun d => ?_⟩
    · refine go rfl ?_
      refine go rfl ⟨_, rfl, rfl, rfl, ?_⟩
      rw [← hF]
      rw [gat_out c] at hp
      exact hp
    · exact absurd rfl d
-- LadderWords$Grid.set(III)V
def sp_C_set : mx_Sp := fun As F P => ∃ (g : Nat → Int32) (x y u : Int32), As = [mx_r 29, mx_i x, mx_i y, mx_i u] ∧ F 29 = some e_C ∧ F 30 = some (mx_ia 64 g) ∧ ins x y ∧ P none (mx_put F 30 (mx_ia 64 (upd g (x + nI 8 * y).toNatClampNeg u)))
theorem d_C_set_0 : decode c_C_set 0 = .ok (.iload_n 1, 1) := by decide +kernel
theorem d_C_set_1 : decode c_C_set 1 = .ok (.iload_n 2, 1) := by decide +kernel
theorem d_C_set_2 : decode c_C_set 2 = .ok (.invokestatic 19, 3) := by decide +kernel
theorem d_C_set_5 : decode c_C_set 5 = .ok (.ifCond .eq 15, 3) := by decide +kernel
theorem d_C_set_8 : decode c_C_set 8 = .ok (.aload_n 0, 1) := by decide +kernel
theorem d_C_set_9 : decode c_C_set 9 = .ok (.getfield 11, 3) := by decide +kernel
theorem d_C_set_12 : decode c_C_set 12 = .ok (.iload_n 1, 1) := by decide +kernel
theorem d_C_set_13 : decode c_C_set 13 = .ok (.bipush 8, 2) := by decide +kernel
theorem d_C_set_15 : decode c_C_set 15 = .ok (.iload_n 2, 1) := by decide +kernel
theorem d_C_set_16 : decode c_C_set 16 = .ok (.imul, 1) := by decide +kernel
theorem d_C_set_17 : decode c_C_set 17 = .ok (.iadd, 1) := by decide +kernel
theorem d_C_set_18 : decode c_C_set 18 = .ok (.iload_n 3, 1) := by decide +kernel
theorem d_C_set_19 : decode c_C_set 19 = .ok (.iastore, 1) := by decide +kernel
theorem d_C_set_20 : decode c_C_set 20 = .ok (.return_, 1) := by decide +kernel
abbrev w_C_set : List Cond := mx_ws y_C_set c_C_set 4 none
abbrev rm_C_set : Room := { frames := 20, cells := 0, slots := 0, locals := 400 }
def t_C_set  (P : Option mx_V → mx_F → Prop) : List (Nat × mx_O) := [
  (0, mx_iload 1 1),
  (1, mx_iload 2 2),
  (2, mx_cs2 sp_C_isInside 0 0 5),
  (5, mx_if_eq 20 8),
  (8, mx_aload 0 9),
  (9, mx_get 1 1 12),
  (12, mx_iload 1 13),
  (13, mx_push (.inl (nI 8)) 15),
  (15, mx_iload 2 16),
  (16, mx_imul 17),
  (17, mx_iadd 18),
  (18, mx_iload 3 19),
  (19, mx_iast 20),
  (20, mx_ret P)]
set_option maxRecDepth 20000 in
theorem a_C_set  {p : Program} {l : Launch} {e : Env} {s : State} {m : MethodId} {args : Array Value} {below : List Frame} {meth : Method} {c : Code} {D : va_G} {tc : Nat → ClassId} {tb : Nat → Nat} {sz : Nat} {a0 : Nat → Nat} {G : mx_F} {P : Option mx_V → mx_F → Prop}  (C : mx_C p s m args c c_C_set y_C_set.cls w_C_set D tc tb (mx_A a0 G sz) 4 (mx_Ok0 a0 G)) (hr : meth.sig.returnType = none) (hlk : meth.locks = false) : mx_all (mx_W p l e rm_C_set s m args below meth c (MQ below (mx_Q D tc tb a0 G sz P) args s 0 0 (mx_A a0 G sz)) D tc tb (mx_A a0 G sz) 4 (mx_Ok0 a0 G)) (t_C_set  P) :=
  ⟨mx_s_iload_n C d_C_set_0 rfl,
  mx_s_iload_n C d_C_set_1 rfl,
  mx_s_cs2 C (m_C_isInside l) (cwS 2 C.2.2.2.2.1 (mx_gS (fun w h => List.mem_cons_of_mem _ h) mk_C_19 sm_C_isInside ic_C co_C_isInside) rfl rfl rfl (by decide +kernel) ⟨by decide, by decide⟩) d_C_set_2 ⟨Nat.zero_le _, Nat.zero_le _⟩,
  mx_s_if_eq C d_C_set_5 (by decide),
  mx_s_aload_n C d_C_set_8 rfl,
  mx_s_get (T := T_C) (N := 2) (k := 1) C (fun w h => List.mem_cons_of_mem _ (in_C w h)) rfl (by decide) (List.mem_cons_of_mem _ fk_C_11) rfl d_C_set_9,
  mx_s_iload_n C d_C_set_12 rfl,
  mx_s_bipush C d_C_set_13 (by decide),
  mx_s_iload_n C d_C_set_15 rfl,
  mx_s_imul C d_C_set_16,
  mx_s_iadd C d_C_set_17,
  mx_s_iload_n C d_C_set_18 rfl,
  mx_s_iast C d_C_set_19,
  mx_s_ret C hr hlk d_C_set_20,
  trivial⟩
set_option maxRecDepth 20000 in
set_option maxHeartbeats 2000000 in
theorem m_C_set (l : Launch) : mx_M l y_C_set w_C_set rm_C_set sp_C_set := by
  intro zD ztc ztb zad As F P sz0 h
  obtain ⟨g, x, y, u, rfl, h9, h10, hin, hp⟩ := h
  refine mx_run (cc := c_C_set) (maxL := 4) (ret := none) (tab := t_C_set  P) (by decide) rfl zD ztc ztb zad _ F P sz0 (Nat.le_of_ble_eq_true rfl) (fun p e s m args below meth c C hr hlk => a_C_set  C hr hlk) ?_
  intro Rr go
  have hF := mx_as2 h9 h10
  have hX := mx_as1 h9
  rw [hF]
  refine go rfl ⟨_, rfl, ?_⟩
  refine go rfl ⟨_, rfl, ?_⟩
  refine go rfl ⟨_, _, _, rfl, rfl, rfl, rfl, ⟨x, y, rfl, fun c => ?_, fun c => absurd hin c⟩⟩
  refine go rfl ⟨_, _, rfl, fun d => ?_, fun d => ?_⟩
  · exact absurd d (by decide)
  refine go rfl ⟨_, rfl, ?_⟩
  refine go rfl ⟨_, _, _, _, rfl, rfl, rfl, ?_⟩
  refine go rfl ⟨_, rfl, ?_⟩
  refine go rfl ?_
  refine go rfl ⟨_, rfl, ?_⟩
  refine go rfl ⟨_, _, _, rfl, ?_⟩
  refine go rfl ⟨_, _, _, rfl, ?_⟩
  refine go rfl ⟨_, rfl, ?_⟩
  refine go rfl ⟨_, _, _, _, _, _, rfl, rfl, (ins_vp hin), ?_⟩
  refine go rfl ⟨rfl, rfl, rfl, ?_⟩
  rw [mx_pp, ← hX]
  exact hp
-- LadderWords$Grid.clear()V
def sp_C_clear : mx_Sp := fun As F P => ∃ g : Nat → Int32, As = [mx_r 29] ∧ F 29 = some e_C ∧ F 30 = some (mx_ia 64 g) ∧ P none (mx_put F 30 (mx_ia 64 (clr g 64)))
theorem d_C_clear_0 : decode c_C_clear 0 = .ok (.iconst 0, 1) := by decide +kernel
theorem d_C_clear_1 : decode c_C_clear 1 = .ok (.istore_n 1, 1) := by decide +kernel
theorem d_C_clear_2 : decode c_C_clear 2 = .ok (.iload_n 1, 1) := by decide +kernel
theorem d_C_clear_3 : decode c_C_clear 3 = .ok (.aload_n 0, 1) := by decide +kernel
theorem d_C_clear_4 : decode c_C_clear 4 = .ok (.getfield 11, 3) := by decide +kernel
theorem d_C_clear_7 : decode c_C_clear 7 = .ok (.arraylength, 1) := by decide +kernel
theorem d_C_clear_8 : decode c_C_clear 8 = .ok (.if_icmp .ge 16, 3) := by decide +kernel
theorem d_C_clear_11 : decode c_C_clear 11 = .ok (.aload_n 0, 1) := by decide +kernel
theorem d_C_clear_12 : decode c_C_clear 12 = .ok (.getfield 11, 3) := by decide +kernel
theorem d_C_clear_15 : decode c_C_clear 15 = .ok (.iload_n 1, 1) := by decide +kernel
theorem d_C_clear_16 : decode c_C_clear 16 = .ok (.iconst 0, 1) := by decide +kernel
theorem d_C_clear_17 : decode c_C_clear 17 = .ok (.iastore, 1) := by decide +kernel
theorem d_C_clear_18 : decode c_C_clear 18 = .ok (.iinc 1 1, 3) := by decide +kernel
theorem d_C_clear_21 : decode c_C_clear 21 = .ok (.goto (-19), 3) := by decide +kernel
theorem d_C_clear_24 : decode c_C_clear 24 = .ok (.return_, 1) := by decide +kernel
abbrev w_C_clear : List Cond := mx_ws y_C_clear c_C_clear 2 none
abbrev rm_C_clear : Room := { frames := 10, cells := 0, slots := 0, locals := 200 }
def t_C_clear  (P : Option mx_V → mx_F → Prop) : List (Nat × mx_O) := [
  (0, mx_push (.inl (nI 0)) 1),
  (1, mx_istore 1 2),
  (2, mx_iload 1 3),
  (3, mx_aload 0 4),
  (4, mx_get 1 1 7),
  (7, mx_alen 8),
  (8, mx_ic_ge 24 11),
  (11, mx_aload 0 12),
  (12, mx_get 1 1 15),
  (15, mx_iload 1 16),
  (16, mx_push (.inl (nI 0)) 17),
  (17, mx_iast 18),
  (18, mx_iinc 1 (nI 1) 21),
  (21, mx_goto 2),
  (24, mx_ret P)]
set_option maxRecDepth 20000 in
theorem a_C_clear  {p : Program} {l : Launch} {e : Env} {s : State} {m : MethodId} {args : Array Value} {below : List Frame} {meth : Method} {c : Code} {D : va_G} {tc : Nat → ClassId} {tb : Nat → Nat} {sz : Nat} {a0 : Nat → Nat} {G : mx_F} {P : Option mx_V → mx_F → Prop}  (C : mx_C p s m args c c_C_clear y_C_clear.cls w_C_clear D tc tb (mx_A a0 G sz) 2 (mx_Ok0 a0 G)) (hr : meth.sig.returnType = none) (hlk : meth.locks = false) : mx_all (mx_W p l e rm_C_clear s m args below meth c (MQ below (mx_Q D tc tb a0 G sz P) args s 0 0 (mx_A a0 G sz)) D tc tb (mx_A a0 G sz) 2 (mx_Ok0 a0 G)) (t_C_clear  P) :=
  ⟨mx_s_iconst C d_C_clear_0 (by decide),
  mx_s_istore_n C d_C_clear_1 rfl (by decide),
  mx_s_iload_n C d_C_clear_2 rfl,
  mx_s_aload_n C d_C_clear_3 rfl,
  mx_s_get (T := T_C) (N := 2) (k := 1) C (fun w h => List.mem_cons_of_mem _ (in_C w h)) rfl (by decide) (List.mem_cons_of_mem _ fk_C_11) rfl d_C_clear_4,
  mx_s_alen C d_C_clear_7,
  mx_s_ic_ge C d_C_clear_8 (by decide),
  mx_s_aload_n C d_C_clear_11 rfl,
  mx_s_get (T := T_C) (N := 2) (k := 1) C (fun w h => List.mem_cons_of_mem _ (in_C w h)) rfl (by decide) (List.mem_cons_of_mem _ fk_C_11) rfl d_C_clear_12,
  mx_s_iload_n C d_C_clear_15 rfl,
  mx_s_iconst C d_C_clear_16 (by decide),
  mx_s_iast C d_C_clear_17,
  mx_s_iinc C d_C_clear_18 (by decide) (by decide),
  mx_s_goto C d_C_clear_21 (by decide),
  mx_s_ret C hr hlk d_C_clear_24,
  trivial⟩
set_option maxRecDepth 20000 in
set_option maxHeartbeats 2000000 in
theorem m_C_clear (l : Launch) : mx_M l y_C_clear w_C_clear rm_C_clear sp_C_clear := by
  intro zD ztc ztb zad As F P sz0 h
  obtain ⟨g, rfl, h9, h10, hp⟩ := h
  refine mx_run (cc := c_C_clear) (maxL := 2) (ret := none) (tab := t_C_clear  P) (by decide) rfl zD ztc ztb zad _ F P sz0 (Nat.le_of_ble_eq_true rfl) (fun p e s m args below meth c C hr hlk => a_C_clear  C hr hlk) ?_
  intro Rr go
  have hF := mx_as2 h9 h10
  have hX := mx_as1 h9
  rw [hF]
  have loop : ∀ (k i : Nat), i + k = 64 → Rr 2 [some (mx_r 29), some (mx_i (nI i))] [] (mx_put (mx_put F 29 e_C) 30 (mx_ia 64 (clr g i))) 0 0 := by
    intro k
    induction k with
    | zero =>
      intro i hi
      refine go rfl ⟨_, rfl, ?_⟩
      refine go rfl ⟨_, rfl, ?_⟩
      refine go rfl ⟨_, _, _, _, rfl, rfl, rfl, ?_⟩
      refine go rfl ⟨_, _, _, _, rfl, rfl, ?_⟩
      refine go rfl ⟨_, _, _, rfl, fun c => ?_, fun c => ?_⟩
      · refine go rfl ⟨rfl, rfl, rfl, ?_⟩
        rw [← hX, show i = 64 by omega]
        exact hp
      · exact absurd (nI_le (by omega) (by omega)) c
    | succ k ih =>
      intro i hi
      refine go rfl ⟨_, rfl, ?_⟩
      refine go rfl ⟨_, rfl, ?_⟩
      refine go rfl ⟨_, _, _, _, rfl, rfl, rfl, ?_⟩
      refine go rfl ⟨_, _, _, _, rfl, rfl, ?_⟩
      refine go rfl ⟨_, _, _, rfl, fun c => ?_, fun c => ?_⟩
      · exact absurd ((nI_leI (by omega) (by omega)).mp c) (by omega)
      refine go rfl ⟨_, rfl, ?_⟩
      refine go rfl ⟨_, _, _, _, rfl, rfl, rfl, ?_⟩
      refine go rfl ⟨_, rfl, ?_⟩
      refine go rfl ?_
      refine go rfl ⟨_, _, _, _, _, _, rfl, rfl, (vp_in_nI (show i < 64 by omega) (by omega)), ?_⟩
      rw [nI_clamp (by omega), mx_pp]
      refine go rfl ⟨_, rfl, ?_⟩
      refine go rfl ?_
      rw [nI_add]
      exact ih (i + 1) (by omega)
  refine go rfl ?_
  refine go rfl ⟨_, _, rfl, ?_⟩
  exact loop 64 0 (by omega)
-- LadderWords$Grid.hasRoom(IIII)Z
def sp_C_hasRoom : mx_Sp := fun As F P => ∃ (n : Nat) (N : Nat → Nat) (ch : Nat → Nat → Int32) (S : Nat → Nat) (lt st g : Nat → Int32) (j d : Nat) (x y : Int32), As = [mx_r 29, mx_i (nI j), mx_i x, mx_i y, mx_i (nI d)] ∧ F 3 = some (e_W n) ∧ F 4 = some (mx_ia 360 lt) ∧ F 5 = some (mx_ia 61 st) ∧ wst n N ch S lt st ∧ F 29 = some e_C ∧ F 30 = some (mx_ia 64 g) ∧ j < n ∧ d < 8 ∧ (rmP g (N j) (ch j) x y d → P (some (mx_i (nI 1))) F) ∧ (¬ rmP g (N j) (ch j) x y d → P (some (mx_i (nI 0))) F)
theorem d_C_hasRoom_0 : decode c_C_hasRoom 0 = .ok (.iconst 0, 1) := by decide +kernel
theorem d_C_hasRoom_1 : decode c_C_hasRoom 1 = .ok (.istore 5, 2) := by decide +kernel
theorem d_C_hasRoom_3 : decode c_C_hasRoom 3 = .ok (.iload 5, 2) := by decide +kernel
theorem d_C_hasRoom_5 : decode c_C_hasRoom 5 = .ok (.aload_n 0, 1) := by decide +kernel
theorem d_C_hasRoom_6 : decode c_C_hasRoom 6 = .ok (.getfield 15, 3) := by decide +kernel
theorem d_C_hasRoom_9 : decode c_C_hasRoom 9 = .ok (.iload_n 1, 1) := by decide +kernel
theorem d_C_hasRoom_10 : decode c_C_hasRoom 10 = .ok (.invokevirtual 33, 3) := by decide +kernel
theorem d_C_hasRoom_13 : decode c_C_hasRoom 13 = .ok (.if_icmp .ge 59, 3) := by decide +kernel
theorem d_C_hasRoom_16 : decode c_C_hasRoom 16 = .ok (.aload_n 0, 1) := by decide +kernel
theorem d_C_hasRoom_17 : decode c_C_hasRoom 17 = .ok (.iload_n 2, 1) := by decide +kernel
theorem d_C_hasRoom_18 : decode c_C_hasRoom 18 = .ok (.iload 5, 2) := by decide +kernel
theorem d_C_hasRoom_20 : decode c_C_hasRoom 20 = .ok (.getstatic 37, 3) := by decide +kernel
theorem d_C_hasRoom_23 : decode c_C_hasRoom 23 = .ok (.iload 4, 2) := by decide +kernel
theorem d_C_hasRoom_25 : decode c_C_hasRoom 25 = .ok (.iaload, 1) := by decide +kernel
theorem d_C_hasRoom_26 : decode c_C_hasRoom 26 = .ok (.imul, 1) := by decide +kernel
theorem d_C_hasRoom_27 : decode c_C_hasRoom 27 = .ok (.iadd, 1) := by decide +kernel
theorem d_C_hasRoom_28 : decode c_C_hasRoom 28 = .ok (.iload_n 3, 1) := by decide +kernel
theorem d_C_hasRoom_29 : decode c_C_hasRoom 29 = .ok (.iload 5, 2) := by decide +kernel
theorem d_C_hasRoom_31 : decode c_C_hasRoom 31 = .ok (.getstatic 40, 3) := by decide +kernel
theorem d_C_hasRoom_34 : decode c_C_hasRoom 34 = .ok (.iload 4, 2) := by decide +kernel
theorem d_C_hasRoom_36 : decode c_C_hasRoom 36 = .ok (.iaload, 1) := by decide +kernel
theorem d_C_hasRoom_37 : decode c_C_hasRoom 37 = .ok (.imul, 1) := by decide +kernel
theorem d_C_hasRoom_38 : decode c_C_hasRoom 38 = .ok (.iadd, 1) := by decide +kernel
theorem d_C_hasRoom_39 : decode c_C_hasRoom 39 = .ok (.invokevirtual 65, 3) := by decide +kernel
theorem d_C_hasRoom_42 : decode c_C_hasRoom 42 = .ok (.istore 6, 2) := by decide +kernel
theorem d_C_hasRoom_44 : decode c_C_hasRoom 44 = .ok (.iload 6, 2) := by decide +kernel
theorem d_C_hasRoom_46 : decode c_C_hasRoom 46 = .ok (.ifCond .eq 20, 3) := by decide +kernel
theorem d_C_hasRoom_49 : decode c_C_hasRoom 49 = .ok (.iload 6, 2) := by decide +kernel
theorem d_C_hasRoom_51 : decode c_C_hasRoom 51 = .ok (.aload_n 0, 1) := by decide +kernel
theorem d_C_hasRoom_52 : decode c_C_hasRoom 52 = .ok (.getfield 15, 3) := by decide +kernel
theorem d_C_hasRoom_55 : decode c_C_hasRoom 55 = .ok (.iload_n 1, 1) := by decide +kernel
theorem d_C_hasRoom_56 : decode c_C_hasRoom 56 = .ok (.iload 5, 2) := by decide +kernel
theorem d_C_hasRoom_58 : decode c_C_hasRoom 58 = .ok (.invokevirtual 43, 3) := by decide +kernel
theorem d_C_hasRoom_61 : decode c_C_hasRoom 61 = .ok (.if_icmp .eq 5, 3) := by decide +kernel
theorem d_C_hasRoom_64 : decode c_C_hasRoom 64 = .ok (.iconst 0, 1) := by decide +kernel
theorem d_C_hasRoom_65 : decode c_C_hasRoom 65 = .ok (.ireturn, 1) := by decide +kernel
theorem d_C_hasRoom_66 : decode c_C_hasRoom 66 = .ok (.iinc 5 1, 3) := by decide +kernel
theorem d_C_hasRoom_69 : decode c_C_hasRoom 69 = .ok (.goto (-66), 3) := by decide +kernel
theorem d_C_hasRoom_72 : decode c_C_hasRoom 72 = .ok (.iconst 1, 1) := by decide +kernel
theorem d_C_hasRoom_73 : decode c_C_hasRoom 73 = .ok (.ireturn, 1) := by decide +kernel
abbrev w_C_hasRoom : List Cond := mx_ws y_C_hasRoom c_C_hasRoom 7 (some .boolean)
abbrev rm_C_hasRoom : Room := { frames := 30, cells := 0, slots := 0, locals := 600 }
def t_C_hasRoom  (P : Option mx_V → mx_F → Prop) : List (Nat × mx_O) := [
  (0, mx_push (.inl (nI 0)) 1),
  (1, mx_istore 5 3),
  (3, mx_iload 5 5),
  (5, mx_aload 0 6),
  (6, mx_get 1 0 9),
  (9, mx_iload 1 10),
  (10, mx_cv1 5 sp_W_lengthOf 0 0 13),
  (13, mx_ic_ge 72 16),
  (16, mx_aload 0 17),
  (17, mx_iload 2 18),
  (18, mx_iload 5 20),
  (20, mx_gets 0 23),
  (23, mx_iload 4 25),
  (25, mx_tald 26),
  (26, mx_imul 27),
  (27, mx_iadd 28),
  (28, mx_iload 3 29),
  (29, mx_iload 5 31),
  (31, mx_gets 1 34),
  (34, mx_iload 4 36),
  (36, mx_tald 37),
  (37, mx_imul 38),
  (38, mx_iadd 39),
  (39, mx_cv2 1 sp_C_letterAt 0 0 42),
  (42, mx_istore 6 44),
  (44, mx_iload 6 46),
  (46, mx_if_eq 66 49),
  (49, mx_iload 6 51),
  (51, mx_aload 0 52),
  (52, mx_get 1 0 55),
  (55, mx_iload 1 56),
  (56, mx_iload 5 58),
  (58, mx_cv2 5 sp_W_letterOf 0 0 61),
  (61, mx_ic_eq 66 64),
  (64, mx_push (.inl (nI 0)) 65),
  (65, mx_zret P),
  (66, mx_iinc 5 (nI 1) 69),
  (69, mx_goto 3),
  (72, mx_push (.inl (nI 1)) 73),
  (73, mx_zret P)]
set_option maxRecDepth 20000 in
theorem a_C_hasRoom  {p : Program} {l : Launch} {e : Env} {s : State} {m : MethodId} {args : Array Value} {below : List Frame} {meth : Method} {c : Code} {D : va_G} {tc : Nat → ClassId} {tb : Nat → Nat} {sz : Nat} {a0 : Nat → Nat} {G : mx_F} {P : Option mx_V → mx_F → Prop}  (C : mx_C p s m args c c_C_hasRoom y_C_hasRoom.cls w_C_hasRoom D tc tb (mx_A a0 G sz) 7 (mx_Ok0 a0 G)) (hr : meth.sig.returnType = (some .boolean)) (hlk : meth.locks = false) : mx_all (mx_W p l e rm_C_hasRoom s m args below meth c (MQ below (mx_Q D tc tb a0 G sz P) args s 0 0 (mx_A a0 G sz)) D tc tb (mx_A a0 G sz) 7 (mx_Ok0 a0 G)) (t_C_hasRoom  P) :=
  ⟨mx_s_iconst C d_C_hasRoom_0 (by decide),
  mx_s_istore C d_C_hasRoom_1 (by decide),
  mx_s_iload C d_C_hasRoom_3,
  mx_s_aload_n C d_C_hasRoom_5 rfl,
  mx_s_get (T := T_C) (N := 2) (k := 0) C (fun w h => List.mem_cons_of_mem _ (in_C w h)) rfl (by decide) (List.mem_cons_of_mem _ fk_C_15) rfl d_C_hasRoom_6,
  mx_s_iload_n C d_C_hasRoom_9 rfl,
  mx_s_cv1 C (m_W_lengthOf l) rfl (cwV 1 C.2.2.2.2.1 (mx_gV (fun w h => List.mem_cons_of_mem _ h) mk_C_33 im_W_lengthOf se_W_lengthOf ic_W co_W_lengthOf) rfl rfl rfl (by decide +kernel) ⟨by decide, by decide⟩) d_C_hasRoom_10 ⟨Nat.zero_le _, Nat.zero_le _⟩,
  mx_s_ic_ge C d_C_hasRoom_13 (by decide),
  mx_s_aload_n C d_C_hasRoom_16 rfl,
  mx_s_iload_n C d_C_hasRoom_17 rfl,
  mx_s_iload C d_C_hasRoom_18,
  mx_s_gets (Cn := "LadderWords$Grid") (nm := "RIGHT") (ds := "[I") (ref := "LadderWords$Grid") C (by decide +kernel) (List.mem_cons_of_mem _ fk_C_37) rfl d_C_hasRoom_20,
  mx_s_iload C d_C_hasRoom_23,
  mx_s_tald C d_C_hasRoom_25,
  mx_s_imul C d_C_hasRoom_26,
  mx_s_iadd C d_C_hasRoom_27,
  mx_s_iload_n C d_C_hasRoom_28 rfl,
  mx_s_iload C d_C_hasRoom_29,
  mx_s_gets (Cn := "LadderWords$Grid") (nm := "DOWN") (ds := "[I") (ref := "LadderWords$Grid") C (by decide +kernel) (List.mem_cons_of_mem _ fk_C_40) rfl d_C_hasRoom_31,
  mx_s_iload C d_C_hasRoom_34,
  mx_s_tald C d_C_hasRoom_36,
  mx_s_imul C d_C_hasRoom_37,
  mx_s_iadd C d_C_hasRoom_38,
  mx_s_cv2 C (m_C_letterAt l) rfl (cwV 2 C.2.2.2.2.1 (mx_gV (fun w h => List.mem_cons_of_mem _ h) mk_C_65 im_C_letterAt se_C_letterAt ic_C co_C_letterAt) rfl rfl rfl (by decide +kernel) ⟨by decide, by decide⟩) d_C_hasRoom_39 ⟨Nat.zero_le _, Nat.zero_le _⟩,
  mx_s_istore C d_C_hasRoom_42 (by decide),
  mx_s_iload C d_C_hasRoom_44,
  mx_s_if_eq C d_C_hasRoom_46 (by decide),
  mx_s_iload C d_C_hasRoom_49,
  mx_s_aload_n C d_C_hasRoom_51 rfl,
  mx_s_get (T := T_C) (N := 2) (k := 0) C (fun w h => List.mem_cons_of_mem _ (in_C w h)) rfl (by decide) (List.mem_cons_of_mem _ fk_C_15) rfl d_C_hasRoom_52,
  mx_s_iload_n C d_C_hasRoom_55 rfl,
  mx_s_iload C d_C_hasRoom_56,
  mx_s_cv2 C (m_W_letterOf l) rfl (cwV 2 C.2.2.2.2.1 (mx_gV (fun w h => List.mem_cons_of_mem _ h) mk_C_43 im_W_letterOf se_W_letterOf ic_W co_W_letterOf) rfl rfl rfl (by decide +kernel) ⟨by decide, by decide⟩) d_C_hasRoom_58 ⟨Nat.zero_le _, Nat.zero_le _⟩,
  mx_s_ic_eq C d_C_hasRoom_61 (by decide),
  mx_s_iconst C d_C_hasRoom_64 (by decide),
  mx_s_zret C hr hlk d_C_hasRoom_65,
  mx_s_iinc C d_C_hasRoom_66 (by decide) (by decide),
  mx_s_goto C d_C_hasRoom_69 (by decide),
  mx_s_iconst C d_C_hasRoom_72 (by decide),
  mx_s_zret C hr hlk d_C_hasRoom_73,
  trivial⟩
set_option maxRecDepth 20000 in
set_option maxHeartbeats 2000000 in
theorem m_C_hasRoom (l : Launch) : mx_M l y_C_hasRoom w_C_hasRoom rm_C_hasRoom sp_C_hasRoom := by
  intro zD ztc ztb zad As F P sz0 h
  obtain ⟨n, N, ch, S, lt, st, g, j, d, x, y, rfl, h3, h4, h5, hw, h9, h10, hj, hd, ho, hz⟩ := h
  refine mx_run (cc := c_C_hasRoom) (maxL := 7) (ret := (some .boolean)) (tab := t_C_hasRoom  P) (by decide) rfl zD ztc ztb zad _ F P sz0 (Nat.le_of_ble_eq_true rfl) (fun p e s m args below meth c C hr hlk => a_C_hasRoom  C hr hlk) ?_
  intro Rr go
  have hF := mx_as5 h3 h4 h5 h9 h10
  rw [hF]
  have hn := hw.1.1
  have hN := hw.2.1.2.1 j hj
  have loop : ∀ (k i : Nat) (jk : Option mx_V), i + k = N j → (∀ q, q < i → ins (cx x d q) (cy y d q) ∧ (gat g (cx x d q) (cy y d q) = 0 ∨ gat g (cx x d q) (cy y d q) = ch j q)) → Rr 3 [some (mx_r 29), some (mx_i (nI j)), some (mx_i x), some (mx_i y), some (mx_i (nI d)), some (mx_i (nI i)), jk] [] (mx_put (mx_put (mx_put (mx_put (mx_put F 3 (e_W n)) 4 (mx_ia 360 lt)) 5 (mx_ia 61 st)) 29 e_C) 30 (mx_ia 64 g)) 0 0 := by
    intro k
    induction k with
    | zero =>
      intro i jk hi hq
      refine go rfl ⟨_, rfl, ?_⟩
      refine go rfl ⟨_, rfl, ?_⟩
      refine go rfl ⟨_, _, _, _, rfl, rfl, rfl, ?_⟩
      refine go rfl ⟨_, rfl, ?_⟩
      refine go rfl ⟨_, _, _, _, rfl, rfl, rfl, rfl, rfl, u_lengthOf hw hj rfl rfl ?_⟩
      refine go rfl ⟨_, _, _, rfl, fun c => ?_, fun c => ?_⟩
      · refine go rfl ?_
        refine go rfl ⟨_, rfl, rfl, rfl, (Or.inr rfl), ?_⟩
        rw [← hF]
        exact ho (fun q hq2 => hq q (by omega))
      · exact absurd (nI_le (by omega) (by omega)) c
    | succ k ih =>
      intro i jk hi hq
      refine go rfl ⟨_, rfl, ?_⟩
      refine go rfl ⟨_, rfl, ?_⟩
      refine go rfl ⟨_, _, _, _, rfl, rfl, rfl, ?_⟩
      refine go rfl ⟨_, rfl, ?_⟩
      refine go rfl ⟨_, _, _, _, rfl, rfl, rfl, rfl, rfl, u_lengthOf hw hj rfl rfl ?_⟩
      refine go rfl ⟨_, _, _, rfl, fun c => ?_, fun c => ?_⟩
      · exact absurd ((nI_leI (by omega) (by omega)).mp c) (by omega)
      refine go rfl ⟨_, rfl, ?_⟩
      refine go rfl ⟨_, rfl, ?_⟩
      refine go rfl ⟨_, rfl, ?_⟩
      refine go rfl ?_
      refine go rfl ⟨_, rfl, ?_⟩
      refine go rfl ⟨_, _, _, _, _, rfl, rfl, (vp_in_nI hd (by omega)), ?_⟩
      refine go rfl ⟨_, _, _, rfl, ?_⟩
      refine go rfl ⟨_, _, _, rfl, ?_⟩
      refine go rfl ⟨_, rfl, ?_⟩
      refine go rfl ⟨_, rfl, ?_⟩
      refine go rfl ?_
      refine go rfl ⟨_, rfl, ?_⟩
      refine go rfl ⟨_, _, _, _, _, rfl, rfl, (vp_in_nI hd (by omega)), ?_⟩
      refine go rfl ⟨_, _, _, rfl, ?_⟩
      refine go rfl ⟨_, _, _, rfl, ?_⟩
      rw [nI_clamp (by omega)]
      refine go rfl ⟨_, _, _, _, _, rfl, rfl, rfl, rfl, rfl, ⟨g, cx x d i, cy y d i, rfl, rfl, rfl, ?_⟩⟩
      refine go rfl ⟨_, _, rfl, ?_⟩
      refine go rfl ⟨_, rfl, ?_⟩
      have go2 : ins (cx x d i) (cy y d i) ∧ (gat g (cx x d i) (cy y d i) = 0 ∨ gat g (cx x d i) (cy y d i) = ch j i) → Rr 66 [some (mx_r 29), some (mx_i (nI j)), some (mx_i x), some (mx_i y), some (mx_i (nI d)), some (mx_i (nI i)), some (mx_i (gat g (cx x d i) (cy y d i)))] [] (mx_put (mx_put (mx_put (mx_put (mx_put F 3 (e_W n)) 4 (mx_ia 360 lt)) 5 (mx_ia 61 st)) 29 e_C) 30 (mx_ia 64 g)) 0 0 := by
        intro hs
        refine go rfl ⟨_, rfl, ?_⟩
        refine go rfl ?_
        rw [nI_add]
        refine ih (i + 1) _ (by omega) (fun q hq2 => ?_)
        rcases Nat.lt_or_ge q i with w | w
        · exact hq q w
        · rw [show q = i by omega]
          exact hs
      refine go rfl ⟨_, _, rfl, fun e => ?_, fun e => ?_⟩
      · refine go2 ⟨gat_ins (g := g) (fun z => ?_), Or.inl e⟩
        rw [e] at z
        exact absurd z (by decide)
      · refine go rfl ⟨_, rfl, ?_⟩
        refine go rfl ⟨_, rfl, ?_⟩
        refine go rfl ⟨_, _, _, _, rfl, rfl, rfl, ?_⟩
        refine go rfl ⟨_, rfl, ?_⟩
        refine go rfl ⟨_, rfl, ?_⟩
        refine go rfl ⟨_, _, _, _, _, rfl, rfl, rfl, rfl, rfl, u_letterOf hw hj (show i < N j by omega) rfl rfl rfl ?_⟩
        have hv := hw.2.1.2.2 j i hj (by omega)
        refine go rfl ⟨_, _, _, rfl, fun e2 => ?_, fun e2 => ?_⟩
        · refine go2 ⟨gat_ins (g := g) (fun z => ?_), Or.inr e2⟩
          rw [e2] at z
          exact vl_m1 hv z
        · refine go rfl ?_
          refine go rfl ⟨_, rfl, rfl, rfl, (Or.inl rfl), ?_⟩
          rw [← hF]
          exact hz (fun h => ((h i (by omega)).2).elim e e2)
  refine go rfl ?_
  refine go rfl ⟨_, _, rfl, ?_⟩
  exact loop (N j) 0 none (by omega) (fun q hq => absurd hq (Nat.not_lt_zero q))
-- LadderWords$Grid.stands(II)Z
def sp_C_stands : mx_Sp := fun As F P => ∃ (n : Nat) (N : Nat → Nat) (ch : Nat → Nat → Int32) (S : Nat → Nat) (lt st g : Nat → Int32) (j p : Nat), As = [mx_r 29, mx_i (nI j), mx_i (nI p)] ∧ F 3 = some (e_W n) ∧ F 4 = some (mx_ia 360 lt) ∧ F 5 = some (mx_ia 61 st) ∧ wst n N ch S lt st ∧ F 29 = some e_C ∧ F 30 = some (mx_ia 64 g) ∧ j < n ∧ p < 512 ∧ (stA g (N j) (ch j) p → P (some (mx_i (nI 1))) F) ∧ (¬ stA g (N j) (ch j) p → P (some (mx_i (nI 0))) F)
theorem d_C_stands_0 : decode c_C_stands 0 = .ok (.iload_n 2, 1) := by decide +kernel
theorem d_C_stands_1 : decode c_C_stands 1 = .ok (.bipush 8, 2) := by decide +kernel
theorem d_C_stands_3 : decode c_C_stands 3 = .ok (.irem, 1) := by decide +kernel
theorem d_C_stands_4 : decode c_C_stands 4 = .ok (.istore_n 3, 1) := by decide +kernel
theorem d_C_stands_5 : decode c_C_stands 5 = .ok (.iload_n 2, 1) := by decide +kernel
theorem d_C_stands_6 : decode c_C_stands 6 = .ok (.bipush 8, 2) := by decide +kernel
theorem d_C_stands_8 : decode c_C_stands 8 = .ok (.idiv, 1) := by decide +kernel
theorem d_C_stands_9 : decode c_C_stands 9 = .ok (.bipush 8, 2) := by decide +kernel
theorem d_C_stands_11 : decode c_C_stands 11 = .ok (.irem, 1) := by decide +kernel
theorem d_C_stands_12 : decode c_C_stands 12 = .ok (.istore 4, 2) := by decide +kernel
theorem d_C_stands_14 : decode c_C_stands 14 = .ok (.iload_n 2, 1) := by decide +kernel
theorem d_C_stands_15 : decode c_C_stands 15 = .ok (.bipush 8, 2) := by decide +kernel
theorem d_C_stands_17 : decode c_C_stands 17 = .ok (.idiv, 1) := by decide +kernel
theorem d_C_stands_18 : decode c_C_stands 18 = .ok (.bipush 8, 2) := by decide +kernel
theorem d_C_stands_20 : decode c_C_stands 20 = .ok (.idiv, 1) := by decide +kernel
theorem d_C_stands_21 : decode c_C_stands 21 = .ok (.istore 5, 2) := by decide +kernel
theorem d_C_stands_23 : decode c_C_stands 23 = .ok (.iconst 0, 1) := by decide +kernel
theorem d_C_stands_24 : decode c_C_stands 24 = .ok (.istore 6, 2) := by decide +kernel
theorem d_C_stands_26 : decode c_C_stands 26 = .ok (.iload 6, 2) := by decide +kernel
theorem d_C_stands_28 : decode c_C_stands 28 = .ok (.aload_n 0, 1) := by decide +kernel
theorem d_C_stands_29 : decode c_C_stands 29 = .ok (.getfield 15, 3) := by decide +kernel
theorem d_C_stands_32 : decode c_C_stands 32 = .ok (.iload_n 1, 1) := by decide +kernel
theorem d_C_stands_33 : decode c_C_stands 33 = .ok (.invokevirtual 33, 3) := by decide +kernel
theorem d_C_stands_36 : decode c_C_stands 36 = .ok (.if_icmp .ge 54, 3) := by decide +kernel
theorem d_C_stands_39 : decode c_C_stands 39 = .ok (.aload_n 0, 1) := by decide +kernel
theorem d_C_stands_40 : decode c_C_stands 40 = .ok (.iload 4, 2) := by decide +kernel
theorem d_C_stands_42 : decode c_C_stands 42 = .ok (.iload 6, 2) := by decide +kernel
theorem d_C_stands_44 : decode c_C_stands 44 = .ok (.getstatic 37, 3) := by decide +kernel
theorem d_C_stands_47 : decode c_C_stands 47 = .ok (.iload_n 3, 1) := by decide +kernel
theorem d_C_stands_48 : decode c_C_stands 48 = .ok (.iaload, 1) := by decide +kernel
theorem d_C_stands_49 : decode c_C_stands 49 = .ok (.imul, 1) := by decide +kernel
theorem d_C_stands_50 : decode c_C_stands 50 = .ok (.iadd, 1) := by decide +kernel
theorem d_C_stands_51 : decode c_C_stands 51 = .ok (.iload 5, 2) := by decide +kernel
theorem d_C_stands_53 : decode c_C_stands 53 = .ok (.iload 6, 2) := by decide +kernel
theorem d_C_stands_55 : decode c_C_stands 55 = .ok (.getstatic 40, 3) := by decide +kernel
theorem d_C_stands_58 : decode c_C_stands 58 = .ok (.iload_n 3, 1) := by decide +kernel
theorem d_C_stands_59 : decode c_C_stands 59 = .ok (.iaload, 1) := by decide +kernel
theorem d_C_stands_60 : decode c_C_stands 60 = .ok (.imul, 1) := by decide +kernel
theorem d_C_stands_61 : decode c_C_stands 61 = .ok (.iadd, 1) := by decide +kernel
theorem d_C_stands_62 : decode c_C_stands 62 = .ok (.invokevirtual 65, 3) := by decide +kernel
theorem d_C_stands_65 : decode c_C_stands 65 = .ok (.istore 7, 2) := by decide +kernel
theorem d_C_stands_67 : decode c_C_stands 67 = .ok (.iload 7, 2) := by decide +kernel
theorem d_C_stands_69 : decode c_C_stands 69 = .ok (.aload_n 0, 1) := by decide +kernel
theorem d_C_stands_70 : decode c_C_stands 70 = .ok (.getfield 15, 3) := by decide +kernel
theorem d_C_stands_73 : decode c_C_stands 73 = .ok (.iload_n 1, 1) := by decide +kernel
theorem d_C_stands_74 : decode c_C_stands 74 = .ok (.iload 6, 2) := by decide +kernel
theorem d_C_stands_76 : decode c_C_stands 76 = .ok (.invokevirtual 43, 3) := by decide +kernel
theorem d_C_stands_79 : decode c_C_stands 79 = .ok (.if_icmp .eq 5, 3) := by decide +kernel
theorem d_C_stands_82 : decode c_C_stands 82 = .ok (.iconst 0, 1) := by decide +kernel
theorem d_C_stands_83 : decode c_C_stands 83 = .ok (.ireturn, 1) := by decide +kernel
theorem d_C_stands_84 : decode c_C_stands 84 = .ok (.iinc 6 1, 3) := by decide +kernel
theorem d_C_stands_87 : decode c_C_stands 87 = .ok (.goto (-61), 3) := by decide +kernel
theorem d_C_stands_90 : decode c_C_stands 90 = .ok (.iconst 1, 1) := by decide +kernel
theorem d_C_stands_91 : decode c_C_stands 91 = .ok (.ireturn, 1) := by decide +kernel
abbrev w_C_stands : List Cond := mx_ws y_C_stands c_C_stands 8 (some .boolean)
abbrev rm_C_stands : Room := { frames := 30, cells := 0, slots := 0, locals := 600 }
def t_C_stands  (P : Option mx_V → mx_F → Prop) : List (Nat × mx_O) := [
  (0, mx_iload 2 1),
  (1, mx_push (.inl (nI 8)) 3),
  (3, mx_irem 4),
  (4, mx_istore 3 5),
  (5, mx_iload 2 6),
  (6, mx_push (.inl (nI 8)) 8),
  (8, mx_idiv 9),
  (9, mx_push (.inl (nI 8)) 11),
  (11, mx_irem 12),
  (12, mx_istore 4 14),
  (14, mx_iload 2 15),
  (15, mx_push (.inl (nI 8)) 17),
  (17, mx_idiv 18),
  (18, mx_push (.inl (nI 8)) 20),
  (20, mx_idiv 21),
  (21, mx_istore 5 23),
  (23, mx_push (.inl (nI 0)) 24),
  (24, mx_istore 6 26),
  (26, mx_iload 6 28),
  (28, mx_aload 0 29),
  (29, mx_get 1 0 32),
  (32, mx_iload 1 33),
  (33, mx_cv1 5 sp_W_lengthOf 0 0 36),
  (36, mx_ic_ge 90 39),
  (39, mx_aload 0 40),
  (40, mx_iload 4 42),
  (42, mx_iload 6 44),
  (44, mx_gets 0 47),
  (47, mx_iload 3 48),
  (48, mx_tald 49),
  (49, mx_imul 50),
  (50, mx_iadd 51),
  (51, mx_iload 5 53),
  (53, mx_iload 6 55),
  (55, mx_gets 1 58),
  (58, mx_iload 3 59),
  (59, mx_tald 60),
  (60, mx_imul 61),
  (61, mx_iadd 62),
  (62, mx_cv2 1 sp_C_letterAt 0 0 65),
  (65, mx_istore 7 67),
  (67, mx_iload 7 69),
  (69, mx_aload 0 70),
  (70, mx_get 1 0 73),
  (73, mx_iload 1 74),
  (74, mx_iload 6 76),
  (76, mx_cv2 5 sp_W_letterOf 0 0 79),
  (79, mx_ic_eq 84 82),
  (82, mx_push (.inl (nI 0)) 83),
  (83, mx_zret P),
  (84, mx_iinc 6 (nI 1) 87),
  (87, mx_goto 26),
  (90, mx_push (.inl (nI 1)) 91),
  (91, mx_zret P)]
set_option maxRecDepth 20000 in
theorem a_C_stands  {p : Program} {l : Launch} {e : Env} {s : State} {m : MethodId} {args : Array Value} {below : List Frame} {meth : Method} {c : Code} {D : va_G} {tc : Nat → ClassId} {tb : Nat → Nat} {sz : Nat} {a0 : Nat → Nat} {G : mx_F} {P : Option mx_V → mx_F → Prop}  (C : mx_C p s m args c c_C_stands y_C_stands.cls w_C_stands D tc tb (mx_A a0 G sz) 8 (mx_Ok0 a0 G)) (hr : meth.sig.returnType = (some .boolean)) (hlk : meth.locks = false) : mx_all (mx_W p l e rm_C_stands s m args below meth c (MQ below (mx_Q D tc tb a0 G sz P) args s 0 0 (mx_A a0 G sz)) D tc tb (mx_A a0 G sz) 8 (mx_Ok0 a0 G)) (t_C_stands  P) :=
  ⟨mx_s_iload_n C d_C_stands_0 rfl,
  mx_s_bipush C d_C_stands_1 (by decide),
  mx_s_irem C d_C_stands_3,
  mx_s_istore_n C d_C_stands_4 rfl (by decide),
  mx_s_iload_n C d_C_stands_5 rfl,
  mx_s_bipush C d_C_stands_6 (by decide),
  mx_s_idiv C d_C_stands_8,
  mx_s_bipush C d_C_stands_9 (by decide),
  mx_s_irem C d_C_stands_11,
  mx_s_istore C d_C_stands_12 (by decide),
  mx_s_iload_n C d_C_stands_14 rfl,
  mx_s_bipush C d_C_stands_15 (by decide),
  mx_s_idiv C d_C_stands_17,
  mx_s_bipush C d_C_stands_18 (by decide),
  mx_s_idiv C d_C_stands_20,
  mx_s_istore C d_C_stands_21 (by decide),
  mx_s_iconst C d_C_stands_23 (by decide),
  mx_s_istore C d_C_stands_24 (by decide),
  mx_s_iload C d_C_stands_26,
  mx_s_aload_n C d_C_stands_28 rfl,
  mx_s_get (T := T_C) (N := 2) (k := 0) C (fun w h => List.mem_cons_of_mem _ (in_C w h)) rfl (by decide) (List.mem_cons_of_mem _ fk_C_15) rfl d_C_stands_29,
  mx_s_iload_n C d_C_stands_32 rfl,
  mx_s_cv1 C (m_W_lengthOf l) rfl (cwV 1 C.2.2.2.2.1 (mx_gV (fun w h => List.mem_cons_of_mem _ h) mk_C_33 im_W_lengthOf se_W_lengthOf ic_W co_W_lengthOf) rfl rfl rfl (by decide +kernel) ⟨by decide, by decide⟩) d_C_stands_33 ⟨Nat.zero_le _, Nat.zero_le _⟩,
  mx_s_ic_ge C d_C_stands_36 (by decide),
  mx_s_aload_n C d_C_stands_39 rfl,
  mx_s_iload C d_C_stands_40,
  mx_s_iload C d_C_stands_42,
  mx_s_gets (Cn := "LadderWords$Grid") (nm := "RIGHT") (ds := "[I") (ref := "LadderWords$Grid") C (by decide +kernel) (List.mem_cons_of_mem _ fk_C_37) rfl d_C_stands_44,
  mx_s_iload_n C d_C_stands_47 rfl,
  mx_s_tald C d_C_stands_48,
  mx_s_imul C d_C_stands_49,
  mx_s_iadd C d_C_stands_50,
  mx_s_iload C d_C_stands_51,
  mx_s_iload C d_C_stands_53,
  mx_s_gets (Cn := "LadderWords$Grid") (nm := "DOWN") (ds := "[I") (ref := "LadderWords$Grid") C (by decide +kernel) (List.mem_cons_of_mem _ fk_C_40) rfl d_C_stands_55,
  mx_s_iload_n C d_C_stands_58 rfl,
  mx_s_tald C d_C_stands_59,
  mx_s_imul C d_C_stands_60,
  mx_s_iadd C d_C_stands_61,
  mx_s_cv2 C (m_C_letterAt l) rfl (cwV 2 C.2.2.2.2.1 (mx_gV (fun w h => List.mem_cons_of_mem _ h) mk_C_65 im_C_letterAt se_C_letterAt ic_C co_C_letterAt) rfl rfl rfl (by decide +kernel) ⟨by decide, by decide⟩) d_C_stands_62 ⟨Nat.zero_le _, Nat.zero_le _⟩,
  mx_s_istore C d_C_stands_65 (by decide),
  mx_s_iload C d_C_stands_67,
  mx_s_aload_n C d_C_stands_69 rfl,
  mx_s_get (T := T_C) (N := 2) (k := 0) C (fun w h => List.mem_cons_of_mem _ (in_C w h)) rfl (by decide) (List.mem_cons_of_mem _ fk_C_15) rfl d_C_stands_70,
  mx_s_iload_n C d_C_stands_73 rfl,
  mx_s_iload C d_C_stands_74,
  mx_s_cv2 C (m_W_letterOf l) rfl (cwV 2 C.2.2.2.2.1 (mx_gV (fun w h => List.mem_cons_of_mem _ h) mk_C_43 im_W_letterOf se_W_letterOf ic_W co_W_letterOf) rfl rfl rfl (by decide +kernel) ⟨by decide, by decide⟩) d_C_stands_76 ⟨Nat.zero_le _, Nat.zero_le _⟩,
  mx_s_ic_eq C d_C_stands_79 (by decide),
  mx_s_iconst C d_C_stands_82 (by decide),
  mx_s_zret C hr hlk d_C_stands_83,
  mx_s_iinc C d_C_stands_84 (by decide) (by decide),
  mx_s_goto C d_C_stands_87 (by decide),
  mx_s_iconst C d_C_stands_90 (by decide),
  mx_s_zret C hr hlk d_C_stands_91,
  trivial⟩
set_option maxRecDepth 20000 in
set_option maxHeartbeats 2000000 in
theorem m_C_stands (l : Launch) : mx_M l y_C_stands w_C_stands rm_C_stands sp_C_stands := by
  intro zD ztc ztb zad As F P sz0 h
  obtain ⟨n, N, ch, S, lt, st, g, j, p, rfl, h3, h4, h5, hw, h9, h10, hj, hp, ho, hz⟩ := h
  refine mx_run (cc := c_C_stands) (maxL := 8) (ret := (some .boolean)) (tab := t_C_stands  P) (by decide) rfl zD ztc ztb zad _ F P sz0 (Nat.le_of_ble_eq_true rfl) (fun p e s m args below meth c C hr hlk => a_C_stands  C hr hlk) ?_
  intro Rr go
  have hF := mx_as5 h3 h4 h5 h9 h10
  rw [hF]
  have hn := hw.1.1
  have hN := hw.2.1.2.1 j hj
  have hd : p % 8 < 8 := by omega
  have loop : ∀ (k i : Nat) (jk : Option mx_V), i + k = N j → (∀ q, q < i → ins (cx (nI (p / 8 % 8)) (p % 8) q) (cy (nI (p / 8 / 8)) (p % 8) q) ∧ gat g (cx (nI (p / 8 % 8)) (p % 8) q) (cy (nI (p / 8 / 8)) (p % 8) q) = ch j q) → Rr 26 [some (mx_r 29), some (mx_i (nI j)), some (mx_i (nI p)), some (mx_i (nI (p % 8))), some (mx_i (nI (p / 8 % 8))), some (mx_i (nI (p / 8 / 8))), some (mx_i (nI i)), jk] [] (mx_put (mx_put (mx_put (mx_put (mx_put F 3 (e_W n)) 4 (mx_ia 360 lt)) 5 (mx_ia 61 st)) 29 e_C) 30 (mx_ia 64 g)) 0 0 := by
    intro k
    induction k with
    | zero =>
      intro i jk hi hq
      refine go rfl ⟨_, rfl, ?_⟩
      refine go rfl ⟨_, rfl, ?_⟩
      refine go rfl ⟨_, _, _, _, rfl, rfl, rfl, ?_⟩
      refine go rfl ⟨_, rfl, ?_⟩
      refine go rfl ⟨_, _, _, _, rfl, rfl, rfl, rfl, rfl, u_lengthOf hw hj rfl rfl ?_⟩
      refine go rfl ⟨_, _, _, rfl, fun c => ?_, fun c => ?_⟩
      · refine go rfl ?_
        refine go rfl ⟨_, rfl, rfl, rfl, (Or.inr rfl), ?_⟩
        rw [← hF]
        exact ho (fun q hq2 => hq q (by omega))
      · exact absurd (nI_le (by omega) (by omega)) c
    | succ k ih =>
      intro i jk hi hq
      refine go rfl ⟨_, rfl, ?_⟩
      refine go rfl ⟨_, rfl, ?_⟩
      refine go rfl ⟨_, _, _, _, rfl, rfl, rfl, ?_⟩
      refine go rfl ⟨_, rfl, ?_⟩
      refine go rfl ⟨_, _, _, _, rfl, rfl, rfl, rfl, rfl, u_lengthOf hw hj rfl rfl ?_⟩
      refine go rfl ⟨_, _, _, rfl, fun c => ?_, fun c => ?_⟩
      · exact absurd ((nI_leI (by omega) (by omega)).mp c) (by omega)
      refine go rfl ⟨_, rfl, ?_⟩
      refine go rfl ⟨_, rfl, ?_⟩
      refine go rfl ⟨_, rfl, ?_⟩
      refine go rfl ?_
      refine go rfl ⟨_, rfl, ?_⟩
      refine go rfl ⟨_, _, _, _, _, rfl, rfl, (vp_in_nI hd (by omega)), ?_⟩
      refine go rfl ⟨_, _, _, rfl, ?_⟩
      refine go rfl ⟨_, _, _, rfl, ?_⟩
      refine go rfl ⟨_, rfl, ?_⟩
      refine go rfl ⟨_, rfl, ?_⟩
      refine go rfl ?_
      refine go rfl ⟨_, rfl, ?_⟩
      refine go rfl ⟨_, _, _, _, _, rfl, rfl, (vp_in_nI hd (by omega)), ?_⟩
      refine go rfl ⟨_, _, _, rfl, ?_⟩
      refine go rfl ⟨_, _, _, rfl, ?_⟩
      rw [nI_clamp (by omega)]
      refine go rfl ⟨_, _, _, _, _, rfl, rfl, rfl, rfl, rfl, ⟨g, cx (nI (p / 8 % 8)) (p % 8) i, cy (nI (p / 8 / 8)) (p % 8) i, rfl, rfl, rfl, ?_⟩⟩
      refine go rfl ⟨_, _, rfl, ?_⟩
      refine go rfl ⟨_, rfl, ?_⟩
      refine go rfl ⟨_, rfl, ?_⟩
      refine go rfl ⟨_, _, _, _, rfl, rfl, rfl, ?_⟩
      refine go rfl ⟨_, rfl, ?_⟩
      refine go rfl ⟨_, rfl, ?_⟩
      refine go rfl ⟨_, _, _, _, _, rfl, rfl, rfl, rfl, rfl, u_letterOf hw hj (show i < N j by omega) rfl rfl rfl ?_⟩
      have hv := hw.2.1.2.2 j i hj (by omega)
      refine go rfl ⟨_, _, _, rfl, fun e => ?_, fun e => ?_⟩
      · refine go rfl ⟨_, rfl, ?_⟩
        refine go rfl ?_
        rw [nI_add]
        refine ih (i + 1) _ (by omega) (fun q hq2 => ?_)
        rcases Nat.lt_or_ge q i with w | w
        · exact hq q w
        · rw [show q = i by omega]
          refine ⟨gat_ins (g := g) (fun z => ?_), e⟩
          rw [e] at z
          exact vl_m1 hv z
      · refine go rfl ?_
        refine go rfl ⟨_, rfl, rfl, rfl, (Or.inl rfl), ?_⟩
        rw [← hF]
        exact hz (fun h => e (h i (by omega)).2)
  refine go rfl ⟨_, rfl, ?_⟩
  refine go rfl ?_
  refine go rfl ⟨_, _, _, rfl, (nI_ne0 (by omega) (by omega)), ?_⟩
  rw [pk_rem (by omega) (by omega) (by omega)]
  refine go rfl ⟨_, _, rfl, ?_⟩
  refine go rfl ⟨_, rfl, ?_⟩
  refine go rfl ?_
  refine go rfl ⟨_, _, _, rfl, (nI_ne0 (by omega) (by omega)), ?_⟩
  rw [pk_div (by omega) (by omega) (by omega)]
  refine go rfl ?_
  refine go rfl ⟨_, _, _, rfl, (nI_ne0 (by omega) (by omega)), ?_⟩
  rw [pk_rem (by omega) (by omega) (by omega)]
  refine go rfl ⟨_, _, rfl, ?_⟩
  refine go rfl ⟨_, rfl, ?_⟩
  refine go rfl ?_
  refine go rfl ⟨_, _, _, rfl, (nI_ne0 (by omega) (by omega)), ?_⟩
  rw [pk_div (by omega) (by omega) (by omega)]
  refine go rfl ?_
  refine go rfl ⟨_, _, _, rfl, (nI_ne0 (by omega) (by omega)), ?_⟩
  rw [pk_div (by omega) (by omega) (by omega)]
  refine go rfl ⟨_, _, rfl, ?_⟩
  refine go rfl ?_
  refine go rfl ⟨_, _, rfl, ?_⟩
  exact loop (N j) 0 none (by omega) (fun q hq => absurd hq (Nat.not_lt_zero q))
-- LadderWords$Grid.put(IIII)Z
def sp_C_put : mx_Sp := fun As F P => ∃ (n : Nat) (N : Nat → Nat) (ch : Nat → Nat → Int32) (S : Nat → Nat) (lt st g : Nat → Int32) (w x y d : Int32), As = [mx_r 29, mx_i w, mx_i x, mx_i y, mx_i d] ∧ F 3 = some (e_W n) ∧ F 4 = some (mx_ia 360 lt) ∧ F 5 = some (mx_ia 61 st) ∧ wst n N ch S lt st ∧ F 29 = some e_C ∧ F 30 = some (mx_ia 64 g) ∧ (∀ j k, j < n → k < 8 → w = nI j → d = nI k → ins x y → rmP g (N j) (ch j) x y k → P (some (mx_i (nI 1))) (mx_put F 30 (mx_ia 64 (hid g (ch j) x y k (N j))))) ∧ ((¬ ∃ j k, j < n ∧ k < 8 ∧ w = nI j ∧ d = nI k ∧ ins x y ∧ rmP g (N j) (ch j) x y k) → P (some (mx_i (nI 0))) F)
theorem d_C_put_0 : decode c_C_put 0 = .ok (.aload_n 0, 1) := by decide +kernel
theorem d_C_put_1 : decode c_C_put 1 = .ok (.getfield 15, 3) := by decide +kernel
theorem d_C_put_4 : decode c_C_put 4 = .ok (.iload_n 1, 1) := by decide +kernel
theorem d_C_put_5 : decode c_C_put 5 = .ok (.invokevirtual 23, 3) := by decide +kernel
theorem d_C_put_8 : decode c_C_put 8 = .ok (.ifCond .eq 23, 3) := by decide +kernel
theorem d_C_put_11 : decode c_C_put 11 = .ok (.iload_n 2, 1) := by decide +kernel
theorem d_C_put_12 : decode c_C_put 12 = .ok (.iload_n 3, 1) := by decide +kernel
theorem d_C_put_13 : decode c_C_put 13 = .ok (.invokestatic 19, 3) := by decide +kernel
theorem d_C_put_16 : decode c_C_put 16 = .ok (.ifCond .eq 15, 3) := by decide +kernel
theorem d_C_put_19 : decode c_C_put 19 = .ok (.iload 4, 2) := by decide +kernel
theorem d_C_put_21 : decode c_C_put 21 = .ok (.ifCond .lt 10, 3) := by decide +kernel
theorem d_C_put_24 : decode c_C_put 24 = .ok (.iload 4, 2) := by decide +kernel
theorem d_C_put_26 : decode c_C_put 26 = .ok (.bipush 8, 2) := by decide +kernel
theorem d_C_put_28 : decode c_C_put 28 = .ok (.if_icmp .lt 5, 3) := by decide +kernel
theorem d_C_put_31 : decode c_C_put 31 = .ok (.iconst 0, 1) := by decide +kernel
theorem d_C_put_32 : decode c_C_put 32 = .ok (.ireturn, 1) := by decide +kernel
theorem d_C_put_33 : decode c_C_put 33 = .ok (.aload_n 0, 1) := by decide +kernel
theorem d_C_put_34 : decode c_C_put 34 = .ok (.iload_n 1, 1) := by decide +kernel
theorem d_C_put_35 : decode c_C_put 35 = .ok (.iload_n 2, 1) := by decide +kernel
theorem d_C_put_36 : decode c_C_put 36 = .ok (.iload_n 3, 1) := by decide +kernel
theorem d_C_put_37 : decode c_C_put 37 = .ok (.iload 4, 2) := by decide +kernel
theorem d_C_put_39 : decode c_C_put 39 = .ok (.invokevirtual 29, 3) := by decide +kernel
theorem d_C_put_42 : decode c_C_put 42 = .ok (.ifCond .ne 5, 3) := by decide +kernel
theorem d_C_put_45 : decode c_C_put 45 = .ok (.iconst 0, 1) := by decide +kernel
theorem d_C_put_46 : decode c_C_put 46 = .ok (.ireturn, 1) := by decide +kernel
theorem d_C_put_47 : decode c_C_put 47 = .ok (.iconst 0, 1) := by decide +kernel
theorem d_C_put_48 : decode c_C_put 48 = .ok (.istore 5, 2) := by decide +kernel
theorem d_C_put_50 : decode c_C_put 50 = .ok (.iload 5, 2) := by decide +kernel
theorem d_C_put_52 : decode c_C_put 52 = .ok (.aload_n 0, 1) := by decide +kernel
theorem d_C_put_53 : decode c_C_put 53 = .ok (.getfield 15, 3) := by decide +kernel
theorem d_C_put_56 : decode c_C_put 56 = .ok (.iload_n 1, 1) := by decide +kernel
theorem d_C_put_57 : decode c_C_put 57 = .ok (.invokevirtual 33, 3) := by decide +kernel
theorem d_C_put_60 : decode c_C_put 60 = .ok (.if_icmp .ge 45, 3) := by decide +kernel
theorem d_C_put_63 : decode c_C_put 63 = .ok (.aload_n 0, 1) := by decide +kernel
theorem d_C_put_64 : decode c_C_put 64 = .ok (.iload_n 2, 1) := by decide +kernel
theorem d_C_put_65 : decode c_C_put 65 = .ok (.iload 5, 2) := by decide +kernel
theorem d_C_put_67 : decode c_C_put 67 = .ok (.getstatic 37, 3) := by decide +kernel
theorem d_C_put_70 : decode c_C_put 70 = .ok (.iload 4, 2) := by decide +kernel
theorem d_C_put_72 : decode c_C_put 72 = .ok (.iaload, 1) := by decide +kernel
theorem d_C_put_73 : decode c_C_put 73 = .ok (.imul, 1) := by decide +kernel
theorem d_C_put_74 : decode c_C_put 74 = .ok (.iadd, 1) := by decide +kernel
theorem d_C_put_75 : decode c_C_put 75 = .ok (.iload_n 3, 1) := by decide +kernel
theorem d_C_put_76 : decode c_C_put 76 = .ok (.iload 5, 2) := by decide +kernel
theorem d_C_put_78 : decode c_C_put 78 = .ok (.getstatic 40, 3) := by decide +kernel
theorem d_C_put_81 : decode c_C_put 81 = .ok (.iload 4, 2) := by decide +kernel
theorem d_C_put_83 : decode c_C_put 83 = .ok (.iaload, 1) := by decide +kernel
theorem d_C_put_84 : decode c_C_put 84 = .ok (.imul, 1) := by decide +kernel
theorem d_C_put_85 : decode c_C_put 85 = .ok (.iadd, 1) := by decide +kernel
theorem d_C_put_86 : decode c_C_put 86 = .ok (.aload_n 0, 1) := by decide +kernel
theorem d_C_put_87 : decode c_C_put 87 = .ok (.getfield 15, 3) := by decide +kernel
theorem d_C_put_90 : decode c_C_put 90 = .ok (.iload_n 1, 1) := by decide +kernel
theorem d_C_put_91 : decode c_C_put 91 = .ok (.iload 5, 2) := by decide +kernel
theorem d_C_put_93 : decode c_C_put 93 = .ok (.invokevirtual 43, 3) := by decide +kernel
theorem d_C_put_96 : decode c_C_put 96 = .ok (.invokevirtual 47, 3) := by decide +kernel
theorem d_C_put_99 : decode c_C_put 99 = .ok (.iinc 5 1, 3) := by decide +kernel
theorem d_C_put_102 : decode c_C_put 102 = .ok (.goto (-52), 3) := by decide +kernel
theorem d_C_put_105 : decode c_C_put 105 = .ok (.iconst 1, 1) := by decide +kernel
theorem d_C_put_106 : decode c_C_put 106 = .ok (.ireturn, 1) := by decide +kernel
abbrev w_C_put : List Cond := mx_ws y_C_put c_C_put 6 (some .boolean)
abbrev rm_C_put : Room := { frames := 40, cells := 0, slots := 0, locals := 800 }
def t_C_put  (P : Option mx_V → mx_F → Prop) : List (Nat × mx_O) := [
  (0, mx_aload 0 1),
  (1, mx_get 1 0 4),
  (4, mx_iload 1 5),
  (5, mx_cv1 5 sp_W_has 0 0 8),
  (8, mx_if_eq 31 11),
  (11, mx_iload 2 12),
  (12, mx_iload 3 13),
  (13, mx_cs2 sp_C_isInside 0 0 16),
  (16, mx_if_eq 31 19),
  (19, mx_iload 4 21),
  (21, mx_if_lt 31 24),
  (24, mx_iload 4 26),
  (26, mx_push (.inl (nI 8)) 28),
  (28, mx_ic_lt 33 31),
  (31, mx_push (.inl (nI 0)) 32),
  (32, mx_zret P),
  (33, mx_aload 0 34),
  (34, mx_iload 1 35),
  (35, mx_iload 2 36),
  (36, mx_iload 3 37),
  (37, mx_iload 4 39),
  (39, mx_cv4 1 sp_C_hasRoom 0 0 42),
  (42, mx_if_ne 47 45),
  (45, mx_push (.inl (nI 0)) 46),
  (46, mx_zret P),
  (47, mx_push (.inl (nI 0)) 48),
  (48, mx_istore 5 50),
  (50, mx_iload 5 52),
  (52, mx_aload 0 53),
  (53, mx_get 1 0 56),
  (56, mx_iload 1 57),
  (57, mx_cv1 5 sp_W_lengthOf 0 0 60),
  (60, mx_ic_ge 105 63),
  (63, mx_aload 0 64),
  (64, mx_iload 2 65),
  (65, mx_iload 5 67),
  (67, mx_gets 0 70),
  (70, mx_iload 4 72),
  (72, mx_tald 73),
  (73, mx_imul 74),
  (74, mx_iadd 75),
  (75, mx_iload 3 76),
  (76, mx_iload 5 78),
  (78, mx_gets 1 81),
  (81, mx_iload 4 83),
  (83, mx_tald 84),
  (84, mx_imul 85),
  (85, mx_iadd 86),
  (86, mx_aload 0 87),
  (87, mx_get 1 0 90),
  (90, mx_iload 1 91),
  (91, mx_iload 5 93),
  (93, mx_cv2 5 sp_W_letterOf 0 0 96),
  (96, mx_cv3 1 sp_C_set 0 0 99),
  (99, mx_iinc 5 (nI 1) 102),
  (102, mx_goto 50),
  (105, mx_push (.inl (nI 1)) 106),
  (106, mx_zret P)]
set_option maxRecDepth 20000 in
theorem a_C_put  {p : Program} {l : Launch} {e : Env} {s : State} {m : MethodId} {args : Array Value} {below : List Frame} {meth : Method} {c : Code} {D : va_G} {tc : Nat → ClassId} {tb : Nat → Nat} {sz : Nat} {a0 : Nat → Nat} {G : mx_F} {P : Option mx_V → mx_F → Prop}  (C : mx_C p s m args c c_C_put y_C_put.cls w_C_put D tc tb (mx_A a0 G sz) 6 (mx_Ok0 a0 G)) (hr : meth.sig.returnType = (some .boolean)) (hlk : meth.locks = false) : mx_all (mx_W p l e rm_C_put s m args below meth c (MQ below (mx_Q D tc tb a0 G sz P) args s 0 0 (mx_A a0 G sz)) D tc tb (mx_A a0 G sz) 6 (mx_Ok0 a0 G)) (t_C_put  P) :=
  ⟨mx_s_aload_n C d_C_put_0 rfl,
  mx_s_get (T := T_C) (N := 2) (k := 0) C (fun w h => List.mem_cons_of_mem _ (in_C w h)) rfl (by decide) (List.mem_cons_of_mem _ fk_C_15) rfl d_C_put_1,
  mx_s_iload_n C d_C_put_4 rfl,
  mx_s_cv1 C (m_W_has l) rfl (cwV 1 C.2.2.2.2.1 (mx_gV (fun w h => List.mem_cons_of_mem _ h) mk_C_23 im_W_has se_W_has ic_W co_W_has) rfl rfl rfl (by decide +kernel) ⟨by decide, by decide⟩) d_C_put_5 ⟨Nat.zero_le _, Nat.zero_le _⟩,
  mx_s_if_eq C d_C_put_8 (by decide),
  mx_s_iload_n C d_C_put_11 rfl,
  mx_s_iload_n C d_C_put_12 rfl,
  mx_s_cs2 C (m_C_isInside l) (cwS 2 C.2.2.2.2.1 (mx_gS (fun w h => List.mem_cons_of_mem _ h) mk_C_19 sm_C_isInside ic_C co_C_isInside) rfl rfl rfl (by decide +kernel) ⟨by decide, by decide⟩) d_C_put_13 ⟨Nat.zero_le _, Nat.zero_le _⟩,
  mx_s_if_eq C d_C_put_16 (by decide),
  mx_s_iload C d_C_put_19,
  mx_s_if_lt C d_C_put_21 (by decide),
  mx_s_iload C d_C_put_24,
  mx_s_bipush C d_C_put_26 (by decide),
  mx_s_ic_lt C d_C_put_28 (by decide),
  mx_s_iconst C d_C_put_31 (by decide),
  mx_s_zret C hr hlk d_C_put_32,
  mx_s_aload_n C d_C_put_33 rfl,
  mx_s_iload_n C d_C_put_34 rfl,
  mx_s_iload_n C d_C_put_35 rfl,
  mx_s_iload_n C d_C_put_36 rfl,
  mx_s_iload C d_C_put_37,
  mx_s_cv4 C (m_C_hasRoom l) rfl (cwV 4 C.2.2.2.2.1 (mx_gV (fun w h => List.mem_cons_of_mem _ h) mk_C_29 im_C_hasRoom se_C_hasRoom ic_C co_C_hasRoom) rfl rfl rfl (by decide +kernel) ⟨by decide, by decide⟩) d_C_put_39 ⟨Nat.zero_le _, Nat.zero_le _⟩,
  mx_s_if_ne C d_C_put_42 (by decide),
  mx_s_iconst C d_C_put_45 (by decide),
  mx_s_zret C hr hlk d_C_put_46,
  mx_s_iconst C d_C_put_47 (by decide),
  mx_s_istore C d_C_put_48 (by decide),
  mx_s_iload C d_C_put_50,
  mx_s_aload_n C d_C_put_52 rfl,
  mx_s_get (T := T_C) (N := 2) (k := 0) C (fun w h => List.mem_cons_of_mem _ (in_C w h)) rfl (by decide) (List.mem_cons_of_mem _ fk_C_15) rfl d_C_put_53,
  mx_s_iload_n C d_C_put_56 rfl,
  mx_s_cv1 C (m_W_lengthOf l) rfl (cwV 1 C.2.2.2.2.1 (mx_gV (fun w h => List.mem_cons_of_mem _ h) mk_C_33 im_W_lengthOf se_W_lengthOf ic_W co_W_lengthOf) rfl rfl rfl (by decide +kernel) ⟨by decide, by decide⟩) d_C_put_57 ⟨Nat.zero_le _, Nat.zero_le _⟩,
  mx_s_ic_ge C d_C_put_60 (by decide),
  mx_s_aload_n C d_C_put_63 rfl,
  mx_s_iload_n C d_C_put_64 rfl,
  mx_s_iload C d_C_put_65,
  mx_s_gets (Cn := "LadderWords$Grid") (nm := "RIGHT") (ds := "[I") (ref := "LadderWords$Grid") C (by decide +kernel) (List.mem_cons_of_mem _ fk_C_37) rfl d_C_put_67,
  mx_s_iload C d_C_put_70,
  mx_s_tald C d_C_put_72,
  mx_s_imul C d_C_put_73,
  mx_s_iadd C d_C_put_74,
  mx_s_iload_n C d_C_put_75 rfl,
  mx_s_iload C d_C_put_76,
  mx_s_gets (Cn := "LadderWords$Grid") (nm := "DOWN") (ds := "[I") (ref := "LadderWords$Grid") C (by decide +kernel) (List.mem_cons_of_mem _ fk_C_40) rfl d_C_put_78,
  mx_s_iload C d_C_put_81,
  mx_s_tald C d_C_put_83,
  mx_s_imul C d_C_put_84,
  mx_s_iadd C d_C_put_85,
  mx_s_aload_n C d_C_put_86 rfl,
  mx_s_get (T := T_C) (N := 2) (k := 0) C (fun w h => List.mem_cons_of_mem _ (in_C w h)) rfl (by decide) (List.mem_cons_of_mem _ fk_C_15) rfl d_C_put_87,
  mx_s_iload_n C d_C_put_90 rfl,
  mx_s_iload C d_C_put_91,
  mx_s_cv2 C (m_W_letterOf l) rfl (cwV 2 C.2.2.2.2.1 (mx_gV (fun w h => List.mem_cons_of_mem _ h) mk_C_43 im_W_letterOf se_W_letterOf ic_W co_W_letterOf) rfl rfl rfl (by decide +kernel) ⟨by decide, by decide⟩) d_C_put_93 ⟨Nat.zero_le _, Nat.zero_le _⟩,
  mx_s_cv3 C (m_C_set l) rfl (cwV 3 C.2.2.2.2.1 (mx_gV (fun w h => List.mem_cons_of_mem _ h) mk_C_47 im_C_set se_C_set ic_C co_C_set) rfl rfl rfl (by decide +kernel) ⟨by decide, by decide⟩) d_C_put_96 ⟨Nat.zero_le _, Nat.zero_le _⟩,
  mx_s_iinc C d_C_put_99 (by decide) (by decide),
  mx_s_goto C d_C_put_102 (by decide),
  mx_s_iconst C d_C_put_105 (by decide),
  mx_s_zret C hr hlk d_C_put_106,
  trivial⟩
set_option maxRecDepth 20000 in
set_option maxHeartbeats 2000000 in
theorem m_C_put (l : Launch) : mx_M l y_C_put w_C_put rm_C_put sp_C_put := by
  intro zD ztc ztb zad As F P sz0 h
  obtain ⟨n, N, ch, S, lt, st, g, w, x, y, d, rfl, h3, h4, h5, hw, h9, h10, ho, hz⟩ := h
  refine mx_run (cc := c_C_put) (maxL := 6) (ret := (some .boolean)) (tab := t_C_put  P) (by decide) rfl zD ztc ztb zad _ F P sz0 (Nat.le_of_ble_eq_true rfl) (fun p e s m args below meth c C hr hlk => a_C_put  C hr hlk) ?_
  intro Rr go
  have hF := mx_as5 h3 h4 h5 h9 h10
  have hX := mx_as4 h3 h4 h5 h9
  rw [hF]
  have hn := hw.1.1
  have z : (¬ ∃ j k, j < n ∧ k < 8 ∧ w = nI j ∧ d = nI k ∧ ins x y ∧ rmP g (N j) (ch j) x y k) → Rr 31 (mx_en [mx_r 29, mx_i w, mx_i x, mx_i y, mx_i d] 6) [] (mx_put (mx_put (mx_put (mx_put (mx_put F 3 (e_W n)) 4 (mx_ia 360 lt)) 5 (mx_ia 61 st)) 29 e_C) 30 (mx_ia 64 g)) 0 0 := by
    intro hc
    refine go rfl ?_
    refine go rfl ⟨_, rfl, rfl, rfl, (Or.inl rfl), ?_⟩
    rw [← hF]
    exact hz hc
  refine go rfl ⟨_, rfl, ?_⟩
  refine go rfl ⟨_, _, _, _, rfl, rfl, rfl, ?_⟩
  refine go rfl ⟨_, rfl, ?_⟩
  refine go rfl ⟨_, _, _, _, rfl, rfl, rfl, rfl, rfl, ⟨n, w, rfl, rfl, fun c => ?_, fun c => ?_⟩⟩
  · refine go rfl ⟨_, _, rfl, fun e => ?_, fun e => ?_⟩
    · refine z ?_
      rintro ⟨j, k, hj, hk, rfl, rfl, _⟩
      rcases c with c | c
      · exact nI_pos (by omega) c
      · exact absurd ((nI_leI (by omega) (by omega)).mp c) (by omega)
    · exact absurd rfl e
  rcases pk_ix w (n := n) (by omega) with q | q | ⟨j, hj, rfl⟩
  · exact absurd (Or.inl q) c
  · exact absurd (Or.inr q) c
  have hN := hw.2.1.2.1 j hj
  refine go rfl ⟨_, _, rfl, fun e => ?_, fun e => ?_⟩
  · exact absurd e (by decide)
  refine go rfl ⟨_, rfl, ?_⟩
  refine go rfl ⟨_, rfl, ?_⟩
  refine go rfl ⟨_, _, _, rfl, rfl, rfl, rfl, ⟨x, y, rfl, fun c2 => ?_, fun c2 => ?_⟩⟩
  rotate_left
  · refine go rfl ⟨_, _, rfl, fun e2 => ?_, fun e2 => ?_⟩
    · refine z ?_
      rintro ⟨j', k, hj', hk, e1, rfl, hin, _⟩
      exact c2 hin
    · exact absurd rfl e2
  refine go rfl ⟨_, _, rfl, fun e2 => ?_, fun e2 => ?_⟩
  · exact absurd e2 (by decide)
  refine go rfl ⟨_, rfl, ?_⟩
  refine go rfl ⟨_, _, rfl, fun c3 => ?_, fun c3 => ?_⟩
  · refine z ?_
    rintro ⟨j', k, hj', hk, e1, rfl, _⟩
    exact nI_pos (by omega) c3
  refine go rfl ⟨_, rfl, ?_⟩
  refine go rfl ?_
  refine go rfl ⟨_, _, _, rfl, fun c4 => ?_, fun c4 => ?_⟩
  rotate_left
  · refine z ?_
    rintro ⟨j', k, hj', hk, e1, rfl, _⟩
    exact c4 (nI_lt hk (by omega))
  obtain ⟨k, hk, rfl⟩ := nI_of c3
  have hk8 : k < 8 := (nI_ltI hk (by omega)).mp c4
  refine go rfl ⟨_, rfl, ?_⟩
  refine go rfl ⟨_, rfl, ?_⟩
  refine go rfl ⟨_, rfl, ?_⟩
  refine go rfl ⟨_, rfl, ?_⟩
  refine go rfl ⟨_, rfl, ?_⟩
  refine go rfl ⟨_, _, _, _, _, _, _, rfl, rfl, rfl, rfl, rfl, ⟨n, N, ch, S, lt, st, g, j, k, x, y, rfl, rfl, rfl, rfl, hw, rfl, rfl, hj, hk8, fun hr => ?_, fun hr => ?_⟩⟩
  rotate_left
  · refine go rfl ⟨_, _, rfl, fun e3 => ?_, fun e3 => ?_⟩
    · exact absurd rfl e3
    refine go rfl ?_
    refine go rfl ⟨_, rfl, rfl, rfl, (Or.inl rfl), ?_⟩
    rw [← hF]
    refine hz ?_
    rintro ⟨j', k', hj', hk', e1, e2, hin, hr'⟩
    have e1 := (nI_eq (by omega) (by omega)).mp e1
    have e2 := (nI_eq (by omega) (by omega)).mp e2
    subst e1
    subst e2
    exact hr hr'
  refine go rfl ⟨_, _, rfl, fun e3 => ?_, fun e3 => ?_⟩
  rotate_left
  · exact absurd e3 (by decide)
  have loop : ∀ (m i : Nat), i + m = N j → Rr 50 [some (mx_r 29), some (mx_i (nI j)), some (mx_i x), some (mx_i y), some (mx_i (nI k)), some (mx_i (nI i))] [] (mx_put (mx_put (mx_put (mx_put (mx_put F 3 (e_W n)) 4 (mx_ia 360 lt)) 5 (mx_ia 61 st)) 29 e_C) 30 (mx_ia 64 (hid g (ch j) x y k i))) 0 0 := by
    intro m
    induction m with
    | zero =>
      intro i hi
      refine go rfl ⟨_, rfl, ?_⟩
      refine go rfl ⟨_, rfl, ?_⟩
      refine go rfl ⟨_, _, _, _, rfl, rfl, rfl, ?_⟩
      refine go rfl ⟨_, rfl, ?_⟩
      refine go rfl ⟨_, _, _, _, rfl, rfl, rfl, rfl, rfl, u_lengthOf hw hj rfl rfl ?_⟩
      refine go rfl ⟨_, _, _, rfl, fun c => ?_, fun c => ?_⟩
      · refine go rfl ?_
        refine go rfl ⟨_, rfl, rfl, rfl, (Or.inr rfl), ?_⟩
        rw [← hX, show i = N j by omega]
        exact ho j k hj hk8 rfl rfl c2 hr
      · exact absurd (nI_le (by omega) (by omega)) c
    | succ m ih =>
      intro i hi
      refine go rfl ⟨_, rfl, ?_⟩
      refine go rfl ⟨_, rfl, ?_⟩
      refine go rfl ⟨_, _, _, _, rfl, rfl, rfl, ?_⟩
      refine go rfl ⟨_, rfl, ?_⟩
      refine go rfl ⟨_, _, _, _, rfl, rfl, rfl, rfl, rfl, u_lengthOf hw hj rfl rfl ?_⟩
      refine go rfl ⟨_, _, _, rfl, fun c => ?_, fun c => ?_⟩
      · exact absurd ((nI_leI (by omega) (by omega)).mp c) (by omega)
      refine go rfl ⟨_, rfl, ?_⟩
      refine go rfl ⟨_, rfl, ?_⟩
      refine go rfl ⟨_, rfl, ?_⟩
      refine go rfl ?_
      refine go rfl ⟨_, rfl, ?_⟩
      refine go rfl ⟨_, _, _, _, _, rfl, rfl, (vp_in_nI hk8 (by omega)), ?_⟩
      refine go rfl ⟨_, _, _, rfl, ?_⟩
      refine go rfl ⟨_, _, _, rfl, ?_⟩
      refine go rfl ⟨_, rfl, ?_⟩
      refine go rfl ⟨_, rfl, ?_⟩
      refine go rfl ?_
      refine go rfl ⟨_, rfl, ?_⟩
      refine go rfl ⟨_, _, _, _, _, rfl, rfl, (vp_in_nI hk8 (by omega)), ?_⟩
      refine go rfl ⟨_, _, _, rfl, ?_⟩
      refine go rfl ⟨_, _, _, rfl, ?_⟩
      refine go rfl ⟨_, rfl, ?_⟩
      refine go rfl ⟨_, _, _, _, rfl, rfl, rfl, ?_⟩
      refine go rfl ⟨_, rfl, ?_⟩
      refine go rfl ⟨_, rfl, ?_⟩
      rw [nI_clamp (by omega)]
      refine go rfl ⟨_, _, _, _, _, rfl, rfl, rfl, rfl, rfl, u_letterOf hw hj (show i < N j by omega) rfl rfl rfl ?_⟩
      refine go rfl ⟨_, _, _, _, _, _, rfl, rfl, rfl, rfl, rfl, ⟨_, cx x k i, cy y k i, _, rfl, rfl, rfl, (hr i (by omega)).1, ?_⟩⟩
      rw [mx_pp]
      refine go rfl ⟨_, rfl, ?_⟩
      refine go rfl ?_
      rw [nI_add]
      exact ih (i + 1) (by omega)
  refine go rfl ?_
  refine go rfl ⟨_, _, rfl, ?_⟩
  exact loop (N j) 0 (by omega)
-- LadderWords$Grid.fillEmpty(J)I
def sp_C_fillEmpty : mx_Sp := fun As F P => ∃ (n : Nat) (N : Nat → Nat) (ch : Nat → Nat → Int32) (S : Nat → Nat) (lt st g : Nat → Int32) (x : Int64), As = [mx_r 29, mx_l x] ∧ F 3 = some (e_W n) ∧ F 4 = some (mx_ia 360 lt) ∧ F 5 = some (mx_ia 61 st) ∧ wst n N ch S lt st ∧ F 29 = some e_C ∧ F 30 = some (mx_ia 64 g) ∧ (n = 0 → P (some (mx_i (-1))) F) ∧ (0 < n → P (some (mx_i (nI (fil g lt (S n) x 64).2.2))) (mx_put F 30 (mx_ia 64 (fil g lt (S n) x 64).1)))
theorem d_C_fillEmpty_0 : decode c_C_fillEmpty 0 = .ok (.aload_n 0, 1) := by decide +kernel
theorem d_C_fillEmpty_1 : decode c_C_fillEmpty 1 = .ok (.getfield 15, 3) := by decide +kernel
theorem d_C_fillEmpty_4 : decode c_C_fillEmpty 4 = .ok (.invokevirtual 51, 3) := by decide +kernel
theorem d_C_fillEmpty_7 : decode c_C_fillEmpty 7 = .ok (.istore_n 3, 1) := by decide +kernel
theorem d_C_fillEmpty_8 : decode c_C_fillEmpty 8 = .ok (.iload_n 3, 1) := by decide +kernel
theorem d_C_fillEmpty_9 : decode c_C_fillEmpty 9 = .ok (.ifCond .gt 5, 3) := by decide +kernel
theorem d_C_fillEmpty_12 : decode c_C_fillEmpty 12 = .ok (.iconst (-1), 1) := by decide +kernel
theorem d_C_fillEmpty_13 : decode c_C_fillEmpty 13 = .ok (.ireturn, 1) := by decide +kernel
theorem d_C_fillEmpty_14 : decode c_C_fillEmpty 14 = .ok (.lload_n 1, 1) := by decide +kernel
theorem d_C_fillEmpty_15 : decode c_C_fillEmpty 15 = .ok (.lstore 4, 2) := by decide +kernel
theorem d_C_fillEmpty_17 : decode c_C_fillEmpty 17 = .ok (.iconst 0, 1) := by decide +kernel
theorem d_C_fillEmpty_18 : decode c_C_fillEmpty 18 = .ok (.istore 6, 2) := by decide +kernel
theorem d_C_fillEmpty_20 : decode c_C_fillEmpty 20 = .ok (.iconst 0, 1) := by decide +kernel
theorem d_C_fillEmpty_21 : decode c_C_fillEmpty 21 = .ok (.istore 7, 2) := by decide +kernel
theorem d_C_fillEmpty_23 : decode c_C_fillEmpty 23 = .ok (.iload 7, 2) := by decide +kernel
theorem d_C_fillEmpty_25 : decode c_C_fillEmpty 25 = .ok (.aload_n 0, 1) := by decide +kernel
theorem d_C_fillEmpty_26 : decode c_C_fillEmpty 26 = .ok (.getfield 11, 3) := by decide +kernel
theorem d_C_fillEmpty_29 : decode c_C_fillEmpty 29 = .ok (.arraylength, 1) := by decide +kernel
theorem d_C_fillEmpty_30 : decode c_C_fillEmpty 30 = .ok (.if_icmp .ge 57, 3) := by decide +kernel
theorem d_C_fillEmpty_33 : decode c_C_fillEmpty 33 = .ok (.aload_n 0, 1) := by decide +kernel
theorem d_C_fillEmpty_34 : decode c_C_fillEmpty 34 = .ok (.getfield 11, 3) := by decide +kernel
theorem d_C_fillEmpty_37 : decode c_C_fillEmpty 37 = .ok (.iload 7, 2) := by decide +kernel
theorem d_C_fillEmpty_39 : decode c_C_fillEmpty 39 = .ok (.iaload, 1) := by decide +kernel
theorem d_C_fillEmpty_40 : decode c_C_fillEmpty 40 = .ok (.ifCond .ne 41, 3) := by decide +kernel
theorem d_C_fillEmpty_43 : decode c_C_fillEmpty 43 = .ok (.ldc2_w 55, 3) := by decide +kernel
theorem d_C_fillEmpty_46 : decode c_C_fillEmpty 46 = .ok (.lload 4, 2) := by decide +kernel
theorem d_C_fillEmpty_48 : decode c_C_fillEmpty 48 = .ok (.lmul, 1) := by decide +kernel
theorem d_C_fillEmpty_49 : decode c_C_fillEmpty 49 = .ok (.ldc2_w 57, 3) := by decide +kernel
theorem d_C_fillEmpty_52 : decode c_C_fillEmpty 52 = .ok (.ladd, 1) := by decide +kernel
theorem d_C_fillEmpty_53 : decode c_C_fillEmpty 53 = .ok (.lstore 4, 2) := by decide +kernel
theorem d_C_fillEmpty_55 : decode c_C_fillEmpty 55 = .ok (.aload_n 0, 1) := by decide +kernel
theorem d_C_fillEmpty_56 : decode c_C_fillEmpty 56 = .ok (.getfield 11, 3) := by decide +kernel
theorem d_C_fillEmpty_59 : decode c_C_fillEmpty 59 = .ok (.iload 7, 2) := by decide +kernel
theorem d_C_fillEmpty_61 : decode c_C_fillEmpty 61 = .ok (.aload_n 0, 1) := by decide +kernel
theorem d_C_fillEmpty_62 : decode c_C_fillEmpty 62 = .ok (.getfield 15, 3) := by decide +kernel
theorem d_C_fillEmpty_65 : decode c_C_fillEmpty 65 = .ok (.lload 4, 2) := by decide +kernel
theorem d_C_fillEmpty_67 : decode c_C_fillEmpty 67 = .ok (.bipush 33, 2) := by decide +kernel
theorem d_C_fillEmpty_69 : decode c_C_fillEmpty 69 = .ok (.lushr, 1) := by decide +kernel
theorem d_C_fillEmpty_70 : decode c_C_fillEmpty 70 = .ok (.iload_n 3, 1) := by decide +kernel
theorem d_C_fillEmpty_71 : decode c_C_fillEmpty 71 = .ok (.i2l, 1) := by decide +kernel
theorem d_C_fillEmpty_72 : decode c_C_fillEmpty 72 = .ok (.lrem, 1) := by decide +kernel
theorem d_C_fillEmpty_73 : decode c_C_fillEmpty 73 = .ok (.l2i, 1) := by decide +kernel
theorem d_C_fillEmpty_74 : decode c_C_fillEmpty 74 = .ok (.invokevirtual 59, 3) := by decide +kernel
theorem d_C_fillEmpty_77 : decode c_C_fillEmpty 77 = .ok (.iastore, 1) := by decide +kernel
theorem d_C_fillEmpty_78 : decode c_C_fillEmpty 78 = .ok (.iinc 6 1, 3) := by decide +kernel
theorem d_C_fillEmpty_81 : decode c_C_fillEmpty 81 = .ok (.iinc 7 1, 3) := by decide +kernel
theorem d_C_fillEmpty_84 : decode c_C_fillEmpty 84 = .ok (.goto (-61), 3) := by decide +kernel
theorem d_C_fillEmpty_87 : decode c_C_fillEmpty 87 = .ok (.iload 6, 2) := by decide +kernel
theorem d_C_fillEmpty_89 : decode c_C_fillEmpty 89 = .ok (.ireturn, 1) := by decide +kernel
abbrev w_C_fillEmpty : List Cond := mx_ws y_C_fillEmpty c_C_fillEmpty 8 (some .int)
abbrev rm_C_fillEmpty : Room := { frames := 30, cells := 0, slots := 0, locals := 600 }
def t_C_fillEmpty  (P : Option mx_V → mx_F → Prop) : List (Nat × mx_O) := [
  (0, mx_aload 0 1),
  (1, mx_get 1 0 4),
  (4, mx_cv0 5 sp_W_lengthOfAll 0 0 7),
  (7, mx_istore 3 8),
  (8, mx_iload 3 9),
  (9, mx_if_gt 14 12),
  (12, mx_push (.inl (-1)) 13),
  (13, mx_iret P),
  (14, mx_lload 1 15),
  (15, mx_lstore 4 17),
  (17, mx_push (.inl (nI 0)) 18),
  (18, mx_istore 6 20),
  (20, mx_push (.inl (nI 0)) 21),
  (21, mx_istore 7 23),
  (23, mx_iload 7 25),
  (25, mx_aload 0 26),
  (26, mx_get 1 1 29),
  (29, mx_alen 30),
  (30, mx_ic_ge 87 33),
  (33, mx_aload 0 34),
  (34, mx_get 1 1 37),
  (37, mx_iload 7 39),
  (39, mx_iald 40),
  (40, mx_if_ne 81 43),
  (43, mx_push (.inr (.inl (6364136223846793005))) 46),
  (46, mx_lload 4 48),
  (48, mx_lmul 49),
  (49, mx_push (.inr (.inl (1442695040888963407))) 52),
  (52, mx_ladd 53),
  (53, mx_lstore 4 55),
  (55, mx_aload 0 56),
  (56, mx_get 1 1 59),
  (59, mx_iload 7 61),
  (61, mx_aload 0 62),
  (62, mx_get 1 0 65),
  (65, mx_lload 4 67),
  (67, mx_push (.inl (nI 33)) 69),
  (69, mx_lushr 70),
  (70, mx_iload 3 71),
  (71, mx_i2l 72),
  (72, mx_lrem 73),
  (73, mx_l2i 74),
  (74, mx_cv1 5 sp_W_letterOfAll 0 0 77),
  (77, mx_iast 78),
  (78, mx_iinc 6 (nI 1) 81),
  (81, mx_iinc 7 (nI 1) 84),
  (84, mx_goto 23),
  (87, mx_iload 6 89),
  (89, mx_iret P)]
set_option maxRecDepth 20000 in
theorem a_C_fillEmpty  {p : Program} {l : Launch} {e : Env} {s : State} {m : MethodId} {args : Array Value} {below : List Frame} {meth : Method} {c : Code} {D : va_G} {tc : Nat → ClassId} {tb : Nat → Nat} {sz : Nat} {a0 : Nat → Nat} {G : mx_F} {P : Option mx_V → mx_F → Prop}  (C : mx_C p s m args c c_C_fillEmpty y_C_fillEmpty.cls w_C_fillEmpty D tc tb (mx_A a0 G sz) 8 (mx_Ok0 a0 G)) (hr : meth.sig.returnType = (some .int)) (hlk : meth.locks = false) : mx_all (mx_W p l e rm_C_fillEmpty s m args below meth c (MQ below (mx_Q D tc tb a0 G sz P) args s 0 0 (mx_A a0 G sz)) D tc tb (mx_A a0 G sz) 8 (mx_Ok0 a0 G)) (t_C_fillEmpty  P) :=
  ⟨mx_s_aload_n C d_C_fillEmpty_0 rfl,
  mx_s_get (T := T_C) (N := 2) (k := 0) C (fun w h => List.mem_cons_of_mem _ (in_C w h)) rfl (by decide) (List.mem_cons_of_mem _ fk_C_15) rfl d_C_fillEmpty_1,
  mx_s_cv0 C (m_W_lengthOfAll l) rfl (cwV 0 C.2.2.2.2.1 (mx_gV (fun w h => List.mem_cons_of_mem _ h) mk_C_51 im_W_lengthOfAll se_W_lengthOfAll ic_W co_W_lengthOfAll) rfl rfl rfl (by decide +kernel) ⟨by decide, by decide⟩) d_C_fillEmpty_4 ⟨Nat.zero_le _, Nat.zero_le _⟩,
  mx_s_istore_n C d_C_fillEmpty_7 rfl (by decide),
  mx_s_iload_n C d_C_fillEmpty_8 rfl,
  mx_s_if_gt C d_C_fillEmpty_9 (by decide),
  mx_s_iconst C d_C_fillEmpty_12 (by decide),
  mx_s_iret C hr hlk d_C_fillEmpty_13,
  mx_s_lload_n C d_C_fillEmpty_14 rfl,
  mx_s_lstore C d_C_fillEmpty_15 (by decide),
  mx_s_iconst C d_C_fillEmpty_17 (by decide),
  mx_s_istore C d_C_fillEmpty_18 (by decide),
  mx_s_iconst C d_C_fillEmpty_20 (by decide),
  mx_s_istore C d_C_fillEmpty_21 (by decide),
  mx_s_iload C d_C_fillEmpty_23,
  mx_s_aload_n C d_C_fillEmpty_25 rfl,
  mx_s_get (T := T_C) (N := 2) (k := 1) C (fun w h => List.mem_cons_of_mem _ (in_C w h)) rfl (by decide) (List.mem_cons_of_mem _ fk_C_11) rfl d_C_fillEmpty_26,
  mx_s_alen C d_C_fillEmpty_29,
  mx_s_ic_ge C d_C_fillEmpty_30 (by decide),
  mx_s_aload_n C d_C_fillEmpty_33 rfl,
  mx_s_get (T := T_C) (N := 2) (k := 1) C (fun w h => List.mem_cons_of_mem _ (in_C w h)) rfl (by decide) (List.mem_cons_of_mem _ fk_C_11) rfl d_C_fillEmpty_34,
  mx_s_iload C d_C_fillEmpty_37,
  mx_s_iald C d_C_fillEmpty_39,
  mx_s_if_ne C d_C_fillEmpty_40 (by decide),
  mx_s_ldc2 C d_C_fillEmpty_43 (List.mem_cons_of_mem _ cl_C_55),
  mx_s_lload C d_C_fillEmpty_46,
  mx_s_lmul C d_C_fillEmpty_48,
  mx_s_ldc2 C d_C_fillEmpty_49 (List.mem_cons_of_mem _ cl_C_57),
  mx_s_ladd C d_C_fillEmpty_52,
  mx_s_lstore C d_C_fillEmpty_53 (by decide),
  mx_s_aload_n C d_C_fillEmpty_55 rfl,
  mx_s_get (T := T_C) (N := 2) (k := 1) C (fun w h => List.mem_cons_of_mem _ (in_C w h)) rfl (by decide) (List.mem_cons_of_mem _ fk_C_11) rfl d_C_fillEmpty_56,
  mx_s_iload C d_C_fillEmpty_59,
  mx_s_aload_n C d_C_fillEmpty_61 rfl,
  mx_s_get (T := T_C) (N := 2) (k := 0) C (fun w h => List.mem_cons_of_mem _ (in_C w h)) rfl (by decide) (List.mem_cons_of_mem _ fk_C_15) rfl d_C_fillEmpty_62,
  mx_s_lload C d_C_fillEmpty_65,
  mx_s_bipush C d_C_fillEmpty_67 (by decide),
  mx_s_lushr C d_C_fillEmpty_69,
  mx_s_iload_n C d_C_fillEmpty_70 rfl,
  mx_s_i2l C d_C_fillEmpty_71,
  mx_s_lrem C d_C_fillEmpty_72,
  mx_s_l2i C d_C_fillEmpty_73,
  mx_s_cv1 C (m_W_letterOfAll l) rfl (cwV 1 C.2.2.2.2.1 (mx_gV (fun w h => List.mem_cons_of_mem _ h) mk_C_59 im_W_letterOfAll se_W_letterOfAll ic_W co_W_letterOfAll) rfl rfl rfl (by decide +kernel) ⟨by decide, by decide⟩) d_C_fillEmpty_74 ⟨Nat.zero_le _, Nat.zero_le _⟩,
  mx_s_iast C d_C_fillEmpty_77,
  mx_s_iinc C d_C_fillEmpty_78 (by decide) (by decide),
  mx_s_iinc C d_C_fillEmpty_81 (by decide) (by decide),
  mx_s_goto C d_C_fillEmpty_84 (by decide),
  mx_s_iload C d_C_fillEmpty_87,
  mx_s_iret C hr hlk d_C_fillEmpty_89,
  trivial⟩
set_option maxRecDepth 20000 in
set_option maxHeartbeats 2000000 in
theorem m_C_fillEmpty (l : Launch) : mx_M l y_C_fillEmpty w_C_fillEmpty rm_C_fillEmpty sp_C_fillEmpty := by
  intro zD ztc ztb zad As F P sz0 h
  obtain ⟨n, N, ch, S, lt, st, g, x, rfl, h3, h4, h5, hw, h9, h10, hz, ho⟩ := h
  refine mx_run (cc := c_C_fillEmpty) (maxL := 8) (ret := (some .int)) (tab := t_C_fillEmpty  P) (by decide) rfl zD ztc ztb zad _ F P sz0 (Nat.le_of_ble_eq_true rfl) (fun p e s m args below meth c C hr hlk => a_C_fillEmpty  C hr hlk) ?_
  intro Rr go
  have hF := mx_as5 h3 h4 h5 h9 h10
  have hX := mx_as4 h3 h4 h5 h9
  rw [hF]
  have hn := hw.1.1
  have hS := wok_lt hw.1 (Nat.le_refl n)
  refine go rfl ⟨_, rfl, ?_⟩
  refine go rfl ⟨_, _, _, _, rfl, rfl, rfl, ?_⟩
  refine go rfl ⟨_, _, _, rfl, rfl, rfl, rfl, rfl, ⟨n, S, st, rfl, rfl, rfl, hw.1, ?_⟩⟩
  refine go rfl ⟨_, _, rfl, ?_⟩
  refine go rfl ⟨_, rfl, ?_⟩
  rcases Nat.eq_zero_or_pos n with h0 | h0
  · refine go rfl ⟨_, _, rfl, fun c => ?_, fun c => ?_⟩
    · exfalso
      rw [h0, hw.1.2.1] at c
      exact absurd c (by decide)
    refine go rfl ?_
    refine go rfl ⟨_, rfl, rfl, rfl, ?_⟩
    rw [← hF]
    exact hz h0
  have hS1 : 0 < S n := by
    have e := hw.2.2.1 (n - 1) (by omega)
    have e2 := (hw.2.1.2.1 (n - 1) (by omega)).1
    rw [show n - 1 + 1 = n by omega] at e
    omega
  refine go rfl ⟨_, _, rfl, fun c => ?_, fun c => ?_⟩
  rotate_left
  · exact absurd (nI_lt hS1 (by omega)) c
  have loop : ∀ (m i : Nat), i + m = 64 → Rr 23 [some (mx_r 29), some (mx_l x), none, some (mx_i (nI (S n))), some (mx_l (fil g lt (S n) x i).2.1), none, some (mx_i (nI (fil g lt (S n) x i).2.2)), some (mx_i (nI i))] [] (mx_put (mx_put (mx_put (mx_put (mx_put F 3 (e_W n)) 4 (mx_ia 360 lt)) 5 (mx_ia 61 st)) 29 e_C) 30 (mx_ia 64 (fil g lt (S n) x i).1)) 0 0 := by
    intro m
    induction m with
    | zero =>
      intro i hi
      refine go rfl ⟨_, rfl, ?_⟩
      refine go rfl ⟨_, rfl, ?_⟩
      refine go rfl ⟨_, _, _, _, rfl, rfl, rfl, ?_⟩
      refine go rfl ⟨_, _, _, _, rfl, rfl, ?_⟩
      refine go rfl ⟨_, _, _, rfl, fun c => ?_, fun c => ?_⟩
      · refine go rfl ⟨_, rfl, ?_⟩
        refine go rfl ⟨_, rfl, rfl, rfl, ?_⟩
        rw [← hX, show i = 64 by omega]
        exact ho h0
      · exact absurd (nI_le (by omega) (by omega)) c
    | succ m ih =>
      intro i hi
      refine go rfl ⟨_, rfl, ?_⟩
      refine go rfl ⟨_, rfl, ?_⟩
      refine go rfl ⟨_, _, _, _, rfl, rfl, rfl, ?_⟩
      refine go rfl ⟨_, _, _, _, rfl, rfl, ?_⟩
      refine go rfl ⟨_, _, _, rfl, fun c => ?_, fun c => ?_⟩
      · exact absurd ((nI_leI (by omega) (by omega)).mp c) (by omega)
      refine go rfl ⟨_, rfl, ?_⟩
      refine go rfl ⟨_, _, _, _, rfl, rfl, rfl, ?_⟩
      refine go rfl ⟨_, rfl, ?_⟩
      refine go rfl ⟨_, _, _, _, _, rfl, rfl, (vp_in_nI (show i < 64 by omega) (by omega)), ?_⟩
      rw [nI_clamp (by omega), fil_far g lt (S n) x i i (Nat.le_refl i)]
      have ih := ih (i + 1) (by omega)
      refine go rfl ⟨_, _, rfl, fun c2 => ?_, fun c2 => ?_⟩
      · rw [fil_n c2] at ih
        refine go rfl ⟨_, rfl, ?_⟩
        refine go rfl ?_
        rw [nI_add]
        exact ih
      · rw [fil_y c2] at ih
        have hne : ¬ (nI (S n)).toInt64 = 0 := by
          rw [nI_l (by omega)]
          exact fun z => absurd ((lN_eq (a := S n) (b := 0) (by omega) (by omega)).mp z) (by omega)
        refine go rfl ?_
        refine go rfl ⟨_, rfl, ?_⟩
        refine go rfl ⟨_, _, _, rfl, ?_⟩
        refine go rfl ?_
        refine go rfl ⟨_, _, _, rfl, ?_⟩
        refine go rfl ⟨_, _, rfl, ?_⟩
        refine go rfl ⟨_, rfl, ?_⟩
        refine go rfl ⟨_, _, _, _, rfl, rfl, rfl, ?_⟩
        refine go rfl ⟨_, rfl, ?_⟩
        refine go rfl ⟨_, rfl, ?_⟩
        refine go rfl ⟨_, _, _, _, rfl, rfl, rfl, ?_⟩
        refine go rfl ⟨_, rfl, ?_⟩
        refine go rfl ?_
        refine go rfl ⟨_, _, _, rfl, ?_⟩
        refine go rfl ⟨_, rfl, ?_⟩
        refine go rfl ⟨_, _, rfl, ?_⟩
        refine go rfl ⟨_, _, _, rfl, (hne), ?_⟩
        refine go rfl ⟨_, _, rfl, ?_⟩
        rw [show (6364136223846793005 * (fil g lt (S n) x i).2.1 + 1442695040888963407) = fstp (fil g lt (S n) x i).2.1 from rfl, fix_eq _ hS1 (by omega)]
        refine go rfl ⟨_, _, _, _, rfl, rfl, rfl, rfl, rfl, ⟨n, _, S, st, lt, rfl, rfl, rfl, rfl, hw.1, Nat.mod_lt _ hS1, ?_⟩⟩
        refine go rfl ⟨_, _, _, _, _, _, rfl, rfl, (vp_in_nI (show i < 64 by omega) (by omega)), ?_⟩
        rw [nI_clamp (by omega), mx_pp]
        refine go rfl ⟨_, rfl, ?_⟩
        refine go rfl ⟨_, rfl, ?_⟩
        refine go rfl ?_
        rw [nI_add, nI_add]
        exact ih
  refine go rfl ⟨_, rfl, ?_⟩
  refine go rfl ⟨_, _, rfl, ?_⟩
  refine go rfl ?_
  refine go rfl ⟨_, _, rfl, ?_⟩
  refine go rfl ?_
  refine go rfl ⟨_, _, rfl, ?_⟩
  exact loop 64 0 (by omega)
-- LadderWords$Grid.countOf(I)I
def sp_C_countOf : mx_Sp := fun As F P => ∃ (n : Nat) (N : Nat → Nat) (ch : Nat → Nat → Int32) (S : Nat → Nat) (lt st g : Nat → Int32) (w : Int32), As = [mx_r 29, mx_i w] ∧ F 3 = some (e_W n) ∧ F 4 = some (mx_ia 360 lt) ∧ F 5 = some (mx_ia 61 st) ∧ wst n N ch S lt st ∧ F 29 = some e_C ∧ F 30 = some (mx_ia 64 g) ∧ (∀ j, j < n → w = nI j → P (some (mx_i (nI (cnt (stA g (N j) (ch j)) 512)))) F) ∧ ((w < 0 ∨ nI n ≤ w) → P (some (mx_i (-1))) F)
theorem d_C_countOf_0 : decode c_C_countOf 0 = .ok (.aload_n 0, 1) := by decide +kernel
theorem d_C_countOf_1 : decode c_C_countOf 1 = .ok (.getfield 15, 3) := by decide +kernel
theorem d_C_countOf_4 : decode c_C_countOf 4 = .ok (.iload_n 1, 1) := by decide +kernel
theorem d_C_countOf_5 : decode c_C_countOf 5 = .ok (.invokevirtual 23, 3) := by decide +kernel
theorem d_C_countOf_8 : decode c_C_countOf 8 = .ok (.ifCond .ne 5, 3) := by decide +kernel
theorem d_C_countOf_11 : decode c_C_countOf 11 = .ok (.iconst (-1), 1) := by decide +kernel
theorem d_C_countOf_12 : decode c_C_countOf 12 = .ok (.ireturn, 1) := by decide +kernel
theorem d_C_countOf_13 : decode c_C_countOf 13 = .ok (.iconst 0, 1) := by decide +kernel
theorem d_C_countOf_14 : decode c_C_countOf 14 = .ok (.istore_n 2, 1) := by decide +kernel
theorem d_C_countOf_15 : decode c_C_countOf 15 = .ok (.iconst 0, 1) := by decide +kernel
theorem d_C_countOf_16 : decode c_C_countOf 16 = .ok (.istore_n 3, 1) := by decide +kernel
theorem d_C_countOf_17 : decode c_C_countOf 17 = .ok (.iload_n 3, 1) := by decide +kernel
theorem d_C_countOf_18 : decode c_C_countOf 18 = .ok (.sipush 512, 3) := by decide +kernel
theorem d_C_countOf_21 : decode c_C_countOf 21 = .ok (.if_icmp .ge 21, 3) := by decide +kernel
theorem d_C_countOf_24 : decode c_C_countOf 24 = .ok (.aload_n 0, 1) := by decide +kernel
theorem d_C_countOf_25 : decode c_C_countOf 25 = .ok (.iload_n 1, 1) := by decide +kernel
theorem d_C_countOf_26 : decode c_C_countOf 26 = .ok (.iload_n 3, 1) := by decide +kernel
theorem d_C_countOf_27 : decode c_C_countOf 27 = .ok (.invokevirtual 62, 3) := by decide +kernel
theorem d_C_countOf_30 : decode c_C_countOf 30 = .ok (.ifCond .eq 6, 3) := by decide +kernel
theorem d_C_countOf_33 : decode c_C_countOf 33 = .ok (.iinc 2 1, 3) := by decide +kernel
theorem d_C_countOf_36 : decode c_C_countOf 36 = .ok (.iinc 3 1, 3) := by decide +kernel
theorem d_C_countOf_39 : decode c_C_countOf 39 = .ok (.goto (-22), 3) := by decide +kernel
theorem d_C_countOf_42 : decode c_C_countOf 42 = .ok (.iload_n 2, 1) := by decide +kernel
theorem d_C_countOf_43 : decode c_C_countOf 43 = .ok (.ireturn, 1) := by decide +kernel
abbrev w_C_countOf : List Cond := mx_ws y_C_countOf c_C_countOf 4 (some .int)
abbrev rm_C_countOf : Room := { frames := 40, cells := 0, slots := 0, locals := 800 }
def t_C_countOf  (P : Option mx_V → mx_F → Prop) : List (Nat × mx_O) := [
  (0, mx_aload 0 1),
  (1, mx_get 1 0 4),
  (4, mx_iload 1 5),
  (5, mx_cv1 5 sp_W_has 0 0 8),
  (8, mx_if_ne 13 11),
  (11, mx_push (.inl (-1)) 12),
  (12, mx_iret P),
  (13, mx_push (.inl (nI 0)) 14),
  (14, mx_istore 2 15),
  (15, mx_push (.inl (nI 0)) 16),
  (16, mx_istore 3 17),
  (17, mx_iload 3 18),
  (18, mx_push (.inl (nI 512)) 21),
  (21, mx_ic_ge 42 24),
  (24, mx_aload 0 25),
  (25, mx_iload 1 26),
  (26, mx_iload 3 27),
  (27, mx_cv2 1 sp_C_stands 0 0 30),
  (30, mx_if_eq 36 33),
  (33, mx_iinc 2 (nI 1) 36),
  (36, mx_iinc 3 (nI 1) 39),
  (39, mx_goto 17),
  (42, mx_iload 2 43),
  (43, mx_iret P)]
set_option maxRecDepth 20000 in
theorem a_C_countOf  {p : Program} {l : Launch} {e : Env} {s : State} {m : MethodId} {args : Array Value} {below : List Frame} {meth : Method} {c : Code} {D : va_G} {tc : Nat → ClassId} {tb : Nat → Nat} {sz : Nat} {a0 : Nat → Nat} {G : mx_F} {P : Option mx_V → mx_F → Prop}  (C : mx_C p s m args c c_C_countOf y_C_countOf.cls w_C_countOf D tc tb (mx_A a0 G sz) 4 (mx_Ok0 a0 G)) (hr : meth.sig.returnType = (some .int)) (hlk : meth.locks = false) : mx_all (mx_W p l e rm_C_countOf s m args below meth c (MQ below (mx_Q D tc tb a0 G sz P) args s 0 0 (mx_A a0 G sz)) D tc tb (mx_A a0 G sz) 4 (mx_Ok0 a0 G)) (t_C_countOf  P) :=
  ⟨mx_s_aload_n C d_C_countOf_0 rfl,
  mx_s_get (T := T_C) (N := 2) (k := 0) C (fun w h => List.mem_cons_of_mem _ (in_C w h)) rfl (by decide) (List.mem_cons_of_mem _ fk_C_15) rfl d_C_countOf_1,
  mx_s_iload_n C d_C_countOf_4 rfl,
  mx_s_cv1 C (m_W_has l) rfl (cwV 1 C.2.2.2.2.1 (mx_gV (fun w h => List.mem_cons_of_mem _ h) mk_C_23 im_W_has se_W_has ic_W co_W_has) rfl rfl rfl (by decide +kernel) ⟨by decide, by decide⟩) d_C_countOf_5 ⟨Nat.zero_le _, Nat.zero_le _⟩,
  mx_s_if_ne C d_C_countOf_8 (by decide),
  mx_s_iconst C d_C_countOf_11 (by decide),
  mx_s_iret C hr hlk d_C_countOf_12,
  mx_s_iconst C d_C_countOf_13 (by decide),
  mx_s_istore_n C d_C_countOf_14 rfl (by decide),
  mx_s_iconst C d_C_countOf_15 (by decide),
  mx_s_istore_n C d_C_countOf_16 rfl (by decide),
  mx_s_iload_n C d_C_countOf_17 rfl,
  mx_s_sipush C d_C_countOf_18 (by decide),
  mx_s_ic_ge C d_C_countOf_21 (by decide),
  mx_s_aload_n C d_C_countOf_24 rfl,
  mx_s_iload_n C d_C_countOf_25 rfl,
  mx_s_iload_n C d_C_countOf_26 rfl,
  mx_s_cv2 C (m_C_stands l) rfl (cwV 2 C.2.2.2.2.1 (mx_gV (fun w h => List.mem_cons_of_mem _ h) mk_C_62 im_C_stands se_C_stands ic_C co_C_stands) rfl rfl rfl (by decide +kernel) ⟨by decide, by decide⟩) d_C_countOf_27 ⟨Nat.zero_le _, Nat.zero_le _⟩,
  mx_s_if_eq C d_C_countOf_30 (by decide),
  mx_s_iinc C d_C_countOf_33 (by decide) (by decide),
  mx_s_iinc C d_C_countOf_36 (by decide) (by decide),
  mx_s_goto C d_C_countOf_39 (by decide),
  mx_s_iload_n C d_C_countOf_42 rfl,
  mx_s_iret C hr hlk d_C_countOf_43,
  trivial⟩
set_option maxRecDepth 20000 in
set_option maxHeartbeats 2000000 in
theorem m_C_countOf (l : Launch) : mx_M l y_C_countOf w_C_countOf rm_C_countOf sp_C_countOf := by
  intro zD ztc ztb zad As F P sz0 h
  obtain ⟨n, N, ch, S, lt, st, g, w, rfl, h3, h4, h5, hw, h9, h10, ho, hz⟩ := h
  refine mx_run (cc := c_C_countOf) (maxL := 4) (ret := (some .int)) (tab := t_C_countOf  P) (by decide) rfl zD ztc ztb zad _ F P sz0 (Nat.le_of_ble_eq_true rfl) (fun p e s m args below meth c C hr hlk => a_C_countOf  C hr hlk) ?_
  intro Rr go
  have hF := mx_as5 h3 h4 h5 h9 h10
  rw [hF]
  have hn := hw.1.1
  refine go rfl ⟨_, rfl, ?_⟩
  refine go rfl ⟨_, _, _, _, rfl, rfl, rfl, ?_⟩
  refine go rfl ⟨_, rfl, ?_⟩
  refine go rfl ⟨_, _, _, _, rfl, rfl, rfl, rfl, rfl, ⟨n, w, rfl, rfl, fun c => ?_, fun c => ?_⟩⟩
  · refine go rfl ⟨_, _, rfl, fun e => ?_, fun e => ?_⟩
    · exact absurd rfl e
    refine go rfl ?_
    refine go rfl ⟨_, rfl, rfl, rfl, ?_⟩
    rw [← hF]
    exact hz c
  rcases pk_ix w (n := n) (by omega) with q | q | ⟨j, hj, rfl⟩
  · exact absurd (Or.inl q) c
  · exact absurd (Or.inr q) c
  refine go rfl ⟨_, _, rfl, fun e => ?_, fun e => ?_⟩
  rotate_left
  · exact absurd e (by decide)
  have loop : ∀ (m i : Nat), i + m = 512 → Rr 17 [some (mx_r 29), some (mx_i (nI j)), some (mx_i (nI (cnt (stA g (N j) (ch j)) i))), some (mx_i (nI i))] [] (mx_put (mx_put (mx_put (mx_put (mx_put F 3 (e_W n)) 4 (mx_ia 360 lt)) 5 (mx_ia 61 st)) 29 e_C) 30 (mx_ia 64 g)) 0 0 := by
    intro m
    induction m with
    | zero =>
      intro i hi
      refine go rfl ⟨_, rfl, ?_⟩
      refine go rfl ?_
      refine go rfl ⟨_, _, _, rfl, fun c => ?_, fun c => ?_⟩
      · refine go rfl ⟨_, rfl, ?_⟩
        refine go rfl ⟨_, rfl, rfl, rfl, ?_⟩
        rw [← hF, show i = 512 by omega]
        exact ho j hj rfl
      · exact absurd (nI_le (by omega) (by omega)) c
    | succ m ih =>
      intro i hi
      have ih := ih (i + 1) (by omega)
      refine go rfl ⟨_, rfl, ?_⟩
      refine go rfl ?_
      refine go rfl ⟨_, _, _, rfl, fun c => ?_, fun c => ?_⟩
      · exact absurd ((nI_leI (by omega) (by omega)).mp c) (by omega)
      refine go rfl ⟨_, rfl, ?_⟩
      refine go rfl ⟨_, rfl, ?_⟩
      refine go rfl ⟨_, rfl, ?_⟩
      refine go rfl ⟨_, _, _, _, _, rfl, rfl, rfl, rfl, rfl, ⟨n, N, ch, S, lt, st, g, j, i, rfl, rfl, rfl, rfl, hw, rfl, rfl, hj, by omega, fun hs => ?_, fun hs => ?_⟩⟩
      · rw [cnt_y hs] at ih
        refine go rfl ⟨_, _, rfl, fun e2 => ?_, fun e2 => ?_⟩
        · exact absurd e2 (by decide)
        refine go rfl ⟨_, rfl, ?_⟩
        refine go rfl ⟨_, rfl, ?_⟩
        refine go rfl ?_
        rw [nI_add, nI_add]
        exact ih
      · rw [cnt_n hs] at ih
        refine go rfl ⟨_, _, rfl, fun e2 => ?_, fun e2 => ?_⟩
        · refine go rfl ⟨_, rfl, ?_⟩
          refine go rfl ?_
          rw [nI_add]
          exact ih
        · exact absurd rfl e2
  refine go rfl ?_
  refine go rfl ⟨_, _, rfl, ?_⟩
  refine go rfl ?_
  refine go rfl ⟨_, _, rfl, ?_⟩
  exact loop 512 0 (by omega)
-- LadderWords$Grid.placeOf(II)I
def sp_C_placeOf : mx_Sp := fun As F P => ∃ (n : Nat) (N : Nat → Nat) (ch : Nat → Nat → Int32) (S : Nat → Nat) (lt st g : Nat → Int32) (w k : Int32), As = [mx_r 29, mx_i w, mx_i k] ∧ F 3 = some (e_W n) ∧ F 4 = some (mx_ia 360 lt) ∧ F 5 = some (mx_ia 61 st) ∧ wst n N ch S lt st ∧ F 29 = some e_C ∧ F 30 = some (mx_ia 64 g) ∧ (∀ j p, j < n → w = nI j → ¬ k < 0 → p < 512 → stA g (N j) (ch j) p → nI (cnt (stA g (N j) (ch j)) p) = k → (∀ q, q < p → ¬ (stA g (N j) (ch j) q ∧ nI (cnt (stA g (N j) (ch j)) q) = k)) → P (some (mx_i (nI p))) F) ∧ ((¬ ∃ j p, j < n ∧ w = nI j ∧ ¬ k < 0 ∧ p < 512 ∧ stA g (N j) (ch j) p ∧ nI (cnt (stA g (N j) (ch j)) p) = k) → P (some (mx_i (-1))) F)
theorem d_C_placeOf_0 : decode c_C_placeOf 0 = .ok (.aload_n 0, 1) := by decide +kernel
theorem d_C_placeOf_1 : decode c_C_placeOf 1 = .ok (.getfield 15, 3) := by decide +kernel
theorem d_C_placeOf_4 : decode c_C_placeOf 4 = .ok (.iload_n 1, 1) := by decide +kernel
theorem d_C_placeOf_5 : decode c_C_placeOf 5 = .ok (.invokevirtual 23, 3) := by decide +kernel
theorem d_C_placeOf_8 : decode c_C_placeOf 8 = .ok (.ifCond .eq 7, 3) := by decide +kernel
theorem d_C_placeOf_11 : decode c_C_placeOf 11 = .ok (.iload_n 2, 1) := by decide +kernel
theorem d_C_placeOf_12 : decode c_C_placeOf 12 = .ok (.ifCond .ge 5, 3) := by decide +kernel
theorem d_C_placeOf_15 : decode c_C_placeOf 15 = .ok (.iconst (-1), 1) := by decide +kernel
theorem d_C_placeOf_16 : decode c_C_placeOf 16 = .ok (.ireturn, 1) := by decide +kernel
theorem d_C_placeOf_17 : decode c_C_placeOf 17 = .ok (.iconst 0, 1) := by decide +kernel
theorem d_C_placeOf_18 : decode c_C_placeOf 18 = .ok (.istore_n 3, 1) := by decide +kernel
theorem d_C_placeOf_19 : decode c_C_placeOf 19 = .ok (.iconst 0, 1) := by decide +kernel
theorem d_C_placeOf_20 : decode c_C_placeOf 20 = .ok (.istore 4, 2) := by decide +kernel
theorem d_C_placeOf_22 : decode c_C_placeOf 22 = .ok (.iload 4, 2) := by decide +kernel
theorem d_C_placeOf_24 : decode c_C_placeOf 24 = .ok (.sipush 512, 3) := by decide +kernel
theorem d_C_placeOf_27 : decode c_C_placeOf 27 = .ok (.if_icmp .ge 30, 3) := by decide +kernel
theorem d_C_placeOf_30 : decode c_C_placeOf 30 = .ok (.aload_n 0, 1) := by decide +kernel
theorem d_C_placeOf_31 : decode c_C_placeOf 31 = .ok (.iload_n 1, 1) := by decide +kernel
theorem d_C_placeOf_32 : decode c_C_placeOf 32 = .ok (.iload 4, 2) := by decide +kernel
theorem d_C_placeOf_34 : decode c_C_placeOf 34 = .ok (.invokevirtual 62, 3) := by decide +kernel
theorem d_C_placeOf_37 : decode c_C_placeOf 37 = .ok (.ifCond .eq 14, 3) := by decide +kernel
theorem d_C_placeOf_40 : decode c_C_placeOf 40 = .ok (.iload_n 3, 1) := by decide +kernel
theorem d_C_placeOf_41 : decode c_C_placeOf 41 = .ok (.iload_n 2, 1) := by decide +kernel
theorem d_C_placeOf_42 : decode c_C_placeOf 42 = .ok (.if_icmp .ne 6, 3) := by decide +kernel
theorem d_C_placeOf_45 : decode c_C_placeOf 45 = .ok (.iload 4, 2) := by decide +kernel
theorem d_C_placeOf_47 : decode c_C_placeOf 47 = .ok (.ireturn, 1) := by decide +kernel
theorem d_C_placeOf_48 : decode c_C_placeOf 48 = .ok (.iinc 3 1, 3) := by decide +kernel
theorem d_C_placeOf_51 : decode c_C_placeOf 51 = .ok (.iinc 4 1, 3) := by decide +kernel
theorem d_C_placeOf_54 : decode c_C_placeOf 54 = .ok (.goto (-32), 3) := by decide +kernel
theorem d_C_placeOf_57 : decode c_C_placeOf 57 = .ok (.iconst (-1), 1) := by decide +kernel
theorem d_C_placeOf_58 : decode c_C_placeOf 58 = .ok (.ireturn, 1) := by decide +kernel
abbrev w_C_placeOf : List Cond := mx_ws y_C_placeOf c_C_placeOf 5 (some .int)
abbrev rm_C_placeOf : Room := { frames := 40, cells := 0, slots := 0, locals := 800 }
def t_C_placeOf  (P : Option mx_V → mx_F → Prop) : List (Nat × mx_O) := [
  (0, mx_aload 0 1),
  (1, mx_get 1 0 4),
  (4, mx_iload 1 5),
  (5, mx_cv1 5 sp_W_has 0 0 8),
  (8, mx_if_eq 15 11),
  (11, mx_iload 2 12),
  (12, mx_if_ge 17 15),
  (15, mx_push (.inl (-1)) 16),
  (16, mx_iret P),
  (17, mx_push (.inl (nI 0)) 18),
  (18, mx_istore 3 19),
  (19, mx_push (.inl (nI 0)) 20),
  (20, mx_istore 4 22),
  (22, mx_iload 4 24),
  (24, mx_push (.inl (nI 512)) 27),
  (27, mx_ic_ge 57 30),
  (30, mx_aload 0 31),
  (31, mx_iload 1 32),
  (32, mx_iload 4 34),
  (34, mx_cv2 1 sp_C_stands 0 0 37),
  (37, mx_if_eq 51 40),
  (40, mx_iload 3 41),
  (41, mx_iload 2 42),
  (42, mx_ic_ne 48 45),
  (45, mx_iload 4 47),
  (47, mx_iret P),
  (48, mx_iinc 3 (nI 1) 51),
  (51, mx_iinc 4 (nI 1) 54),
  (54, mx_goto 22),
  (57, mx_push (.inl (-1)) 58),
  (58, mx_iret P)]
set_option maxRecDepth 20000 in
theorem a_C_placeOf  {p : Program} {l : Launch} {e : Env} {s : State} {m : MethodId} {args : Array Value} {below : List Frame} {meth : Method} {c : Code} {D : va_G} {tc : Nat → ClassId} {tb : Nat → Nat} {sz : Nat} {a0 : Nat → Nat} {G : mx_F} {P : Option mx_V → mx_F → Prop}  (C : mx_C p s m args c c_C_placeOf y_C_placeOf.cls w_C_placeOf D tc tb (mx_A a0 G sz) 5 (mx_Ok0 a0 G)) (hr : meth.sig.returnType = (some .int)) (hlk : meth.locks = false) : mx_all (mx_W p l e rm_C_placeOf s m args below meth c (MQ below (mx_Q D tc tb a0 G sz P) args s 0 0 (mx_A a0 G sz)) D tc tb (mx_A a0 G sz) 5 (mx_Ok0 a0 G)) (t_C_placeOf  P) :=
  ⟨mx_s_aload_n C d_C_placeOf_0 rfl,
  mx_s_get (T := T_C) (N := 2) (k := 0) C (fun w h => List.mem_cons_of_mem _ (in_C w h)) rfl (by decide) (List.mem_cons_of_mem _ fk_C_15) rfl d_C_placeOf_1,
  mx_s_iload_n C d_C_placeOf_4 rfl,
  mx_s_cv1 C (m_W_has l) rfl (cwV 1 C.2.2.2.2.1 (mx_gV (fun w h => List.mem_cons_of_mem _ h) mk_C_23 im_W_has se_W_has ic_W co_W_has) rfl rfl rfl (by decide +kernel) ⟨by decide, by decide⟩) d_C_placeOf_5 ⟨Nat.zero_le _, Nat.zero_le _⟩,
  mx_s_if_eq C d_C_placeOf_8 (by decide),
  mx_s_iload_n C d_C_placeOf_11 rfl,
  mx_s_if_ge C d_C_placeOf_12 (by decide),
  mx_s_iconst C d_C_placeOf_15 (by decide),
  mx_s_iret C hr hlk d_C_placeOf_16,
  mx_s_iconst C d_C_placeOf_17 (by decide),
  mx_s_istore_n C d_C_placeOf_18 rfl (by decide),
  mx_s_iconst C d_C_placeOf_19 (by decide),
  mx_s_istore C d_C_placeOf_20 (by decide),
  mx_s_iload C d_C_placeOf_22,
  mx_s_sipush C d_C_placeOf_24 (by decide),
  mx_s_ic_ge C d_C_placeOf_27 (by decide),
  mx_s_aload_n C d_C_placeOf_30 rfl,
  mx_s_iload_n C d_C_placeOf_31 rfl,
  mx_s_iload C d_C_placeOf_32,
  mx_s_cv2 C (m_C_stands l) rfl (cwV 2 C.2.2.2.2.1 (mx_gV (fun w h => List.mem_cons_of_mem _ h) mk_C_62 im_C_stands se_C_stands ic_C co_C_stands) rfl rfl rfl (by decide +kernel) ⟨by decide, by decide⟩) d_C_placeOf_34 ⟨Nat.zero_le _, Nat.zero_le _⟩,
  mx_s_if_eq C d_C_placeOf_37 (by decide),
  mx_s_iload_n C d_C_placeOf_40 rfl,
  mx_s_iload_n C d_C_placeOf_41 rfl,
  mx_s_ic_ne C d_C_placeOf_42 (by decide),
  mx_s_iload C d_C_placeOf_45,
  mx_s_iret C hr hlk d_C_placeOf_47,
  mx_s_iinc C d_C_placeOf_48 (by decide) (by decide),
  mx_s_iinc C d_C_placeOf_51 (by decide) (by decide),
  mx_s_goto C d_C_placeOf_54 (by decide),
  mx_s_iconst C d_C_placeOf_57 (by decide),
  mx_s_iret C hr hlk d_C_placeOf_58,
  trivial⟩
set_option maxRecDepth 20000 in
set_option maxHeartbeats 2000000 in
theorem m_C_placeOf (l : Launch) : mx_M l y_C_placeOf w_C_placeOf rm_C_placeOf sp_C_placeOf := by
  intro zD ztc ztb zad As F P sz0 h
  obtain ⟨n, N, ch, S, lt, st, g, w, k, rfl, h3, h4, h5, hw, h9, h10, ho, hz⟩ := h
  refine mx_run (cc := c_C_placeOf) (maxL := 5) (ret := (some .int)) (tab := t_C_placeOf  P) (by decide) rfl zD ztc ztb zad _ F P sz0 (Nat.le_of_ble_eq_true rfl) (fun p e s m args below meth c C hr hlk => a_C_placeOf  C hr hlk) ?_
  intro Rr go
  have hF := mx_as5 h3 h4 h5 h9 h10
  rw [hF]
  have hn := hw.1.1
  have z : (¬ ∃ j p, j < n ∧ w = nI j ∧ ¬ k < 0 ∧ p < 512 ∧ stA g (N j) (ch j) p ∧ nI (cnt (stA g (N j) (ch j)) p) = k) → Rr 15 (mx_en [mx_r 29, mx_i w, mx_i k] 5) [] (mx_put (mx_put (mx_put (mx_put (mx_put F 3 (e_W n)) 4 (mx_ia 360 lt)) 5 (mx_ia 61 st)) 29 e_C) 30 (mx_ia 64 g)) 0 0 := by
    intro hc
    refine go rfl ?_
    refine go rfl ⟨_, rfl, rfl, rfl, ?_⟩
    rw [← hF]
    exact hz hc
  refine go rfl ⟨_, rfl, ?_⟩
  refine go rfl ⟨_, _, _, _, rfl, rfl, rfl, ?_⟩
  refine go rfl ⟨_, rfl, ?_⟩
  refine go rfl ⟨_, _, _, _, rfl, rfl, rfl, rfl, rfl, ⟨n, w, rfl, rfl, fun c => ?_, fun c => ?_⟩⟩
  · refine go rfl ⟨_, _, rfl, fun e => ?_, fun e => ?_⟩
    · refine z ?_
      rintro ⟨j, p, hj, rfl, _⟩
      rcases c with c | c
      · exact nI_pos (by omega) c
      · exact absurd ((nI_leI (by omega) (by omega)).mp c) (by omega)
    · exact absurd rfl e
  rcases pk_ix w (n := n) (by omega) with q | q | ⟨j, hj, rfl⟩
  · exact absurd (Or.inl q) c
  · exact absurd (Or.inr q) c
  refine go rfl ⟨_, _, rfl, fun e => ?_, fun e => ?_⟩
  · exact absurd e (by decide)
  refine go rfl ⟨_, rfl, ?_⟩
  refine go rfl ⟨_, _, rfl, fun c2 => ?_, fun c2 => ?_⟩
  rotate_left
  · refine z ?_
    rintro ⟨j', p, hj', e1, hk, _⟩
    exact c2 (Int32.not_lt.mp hk)
  have hk0 : ¬ k < 0 := Int32.not_lt.mpr c2
  have loop : ∀ (m i : Nat), i + m = 512 → (∀ q, q < i → ¬ (stA g (N j) (ch j) q ∧ nI (cnt (stA g (N j) (ch j)) q) = k)) → Rr 22 [some (mx_r 29), some (mx_i (nI j)), some (mx_i k), some (mx_i (nI (cnt (stA g (N j) (ch j)) i))), some (mx_i (nI i))] [] (mx_put (mx_put (mx_put (mx_put (mx_put F 3 (e_W n)) 4 (mx_ia 360 lt)) 5 (mx_ia 61 st)) 29 e_C) 30 (mx_ia 64 g)) 0 0 := by
    intro m
    induction m with
    | zero =>
      intro i hi hno
      refine go rfl ⟨_, rfl, ?_⟩
      refine go rfl ?_
      refine go rfl ⟨_, _, _, rfl, fun c => ?_, fun c => ?_⟩
      · refine go rfl ?_
        refine go rfl ⟨_, rfl, rfl, rfl, ?_⟩
        rw [← hF]
        refine hz ?_
        rintro ⟨j', p, hj', e1, hk, hp, hs, hc⟩
        have e1 := (nI_eq (by omega) (by omega)).mp e1
        subst e1
        exact hno p (by omega) ⟨hs, hc⟩
      · exact absurd (nI_le (by omega) (by omega)) c
    | succ m ih =>
      intro i hi hno
      have ih := ih (i + 1) (by omega)
      refine go rfl ⟨_, rfl, ?_⟩
      refine go rfl ?_
      refine go rfl ⟨_, _, _, rfl, fun c => ?_, fun c => ?_⟩
      · exact absurd ((nI_leI (by omega) (by omega)).mp c) (by omega)
      refine go rfl ⟨_, rfl, ?_⟩
      refine go rfl ⟨_, rfl, ?_⟩
      refine go rfl ⟨_, rfl, ?_⟩
      refine go rfl ⟨_, _, _, _, _, rfl, rfl, rfl, rfl, rfl, ⟨n, N, ch, S, lt, st, g, j, i, rfl, rfl, rfl, rfl, hw, rfl, rfl, hj, by omega, fun hs => ?_, fun hs => ?_⟩⟩
      · rw [cnt_y hs] at ih
        refine go rfl ⟨_, _, rfl, fun e2 => ?_, fun e2 => ?_⟩
        · exact absurd e2 (by decide)
        refine go rfl ⟨_, rfl, ?_⟩
        refine go rfl ⟨_, rfl, ?_⟩
        refine go rfl ⟨_, _, _, rfl, fun e3 => ?_, fun e3 => ?_⟩
        · refine go rfl ⟨_, rfl, ?_⟩
          refine go rfl ⟨_, rfl, ?_⟩
          refine go rfl ?_
          rw [nI_add, nI_add]
          refine ih (fun q hq => ?_)
          rcases Nat.lt_or_ge q i with w | w
          · exact hno q w
          · rw [show q = i by omega]
            exact fun h => e3 h.2
        · refine go rfl ⟨_, rfl, ?_⟩
          refine go rfl ⟨_, rfl, rfl, rfl, ?_⟩
          rw [← hF]
          exact ho j i hj rfl hk0 (by omega) hs e3 hno
      · rw [cnt_n hs] at ih
        refine go rfl ⟨_, _, rfl, fun e2 => ?_, fun e2 => ?_⟩
        · refine go rfl ⟨_, rfl, ?_⟩
          refine go rfl ?_
          rw [nI_add]
          refine ih (fun q hq => ?_)
          rcases Nat.lt_or_ge q i with w | w
          · exact hno q w
          · rw [show q = i by omega]
            exact fun h => hs h.1
        · exact absurd rfl e2
  refine go rfl ?_
  refine go rfl ⟨_, _, rfl, ?_⟩
  refine go rfl ?_
  refine go rfl ⟨_, _, rfl, ?_⟩
  exact loop 512 0 (by omega) (fun q hq => absurd hq (Nat.not_lt_zero q))
