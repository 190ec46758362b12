-- LadderWords$Grid.clear()V
def sp_C_clear : mx_Sp := fun As F P => ∃ f : Nat → Int32, As = [mx_r 29] ∧ F 29 = some e_C ∧ F 30 = some (mx_ia 64 f) ∧ ∀ f', P none (mx_put F 30 (mx_ia 64 f'))
theorem d_C_clear_0 : decode c_C_clear 0 = .ok (.iconst 0, 1) := by decide +kernel
theorem d_C_clear_1 : decode c_C_clear 1 = .ok (.istore_n 1, 1) := by decide +kernel
theorem d_C_clear_2 : decode c_C_clear 2 = .ok (.iload_n 1, 1) := by decide +kernel
theorem d_C_clear_3 : decode c_C_clear 3 = .ok (.aload_n 0, 1) := by decide +kernel
theorem d_C_clear_4 : decode c_C_clear 4 = .ok (.getfield 11, 3) := by decide +kernel
theorem d_C_clear_7 : decode c_C_clear 7 = .ok (.arraylength, 1) := by decide +kernel
theorem d_C_clear_8 : decode c_C_clear 8 = .ok (.if_icmp .ge 16, 3) := by decide +kernel
theorem d_C_clear_11 : decode c_C_clear 11 = .ok (.aload_n 0, 1) := by decide +kernel
theorem d_C_clear_12 : decode c_C_clear 12 = .ok (.getfield 11, 3) := by decide +kernel
theorem d_C_clear_15 : decode c_C_clear 15 = .ok (.iload_n 1, 1) := by decide +kernel
theorem d_C_clear_16 : decode c_C_clear 16 = .ok (.iconst 0, 1) := by decide +kernel
theorem d_C_clear_17 : decode c_C_clear 17 = .ok (.iastore, 1) := by decide +kernel
theorem d_C_clear_18 : decode c_C_clear 18 = .ok (.iinc 1 1, 3) := by decide +kernel
theorem d_C_clear_21 : decode c_C_clear 21 = .ok (.goto (-19), 3) := by decide +kernel
theorem d_C_clear_24 : decode c_C_clear 24 = .ok (.return_, 1) := by decide +kernel
abbrev w_C_clear : List Cond := mx_ws y_C_clear c_C_clear 2 none
abbrev rm_C_clear : Room := { frames := 10, cells := 0, slots := 0, locals := 200 }
def t_C_clear  (P : Option mx_V → mx_F → Prop) : List (Nat × mx_O) := [
  (0, mx_push (.inl (nI 0)) 1),
  (1, mx_istore 1 2),
  (2, mx_iload 1 3),
  (3, mx_aload 0 4),
  (4, mx_get 1 1 7),
  (7, mx_alen 8),
  (8, mx_ic_ge 24 11),
  (11, mx_aload 0 12),
  (12, mx_get 1 1 15),
  (15, mx_iload 1 16),
  (16, mx_push (.inl (nI 0)) 17),
  (17, mx_iast 18),
  (18, mx_iinc 1 (nI 1) 21),
  (21, mx_goto 2),
  (24, mx_ret P)]
set_option maxRecDepth 20000 in
theorem a_C_clear  {p : Program} {l : Launch} {e : Env} {s : State} {m : MethodId} {args : Array Value} {below : List Frame} {meth : Method} {c : Code} {D : va_G} {tc : Nat → ClassId} {tb : Nat → Nat} {sz : Nat} {a0 : Nat → Nat} {G : mx_F} {P : Option mx_V → mx_F → Prop}  (C : mx_C p s m args c c_C_clear y_C_clear.cls w_C_clear D tc tb (mx_A a0 G sz) 2 (mx_Ok0 a0 G)) (hr : meth.sig.returnType = none) (hlk : meth.locks = false) : mx_all (mx_W p l e rm_C_clear s m args below meth c (MQ below (mx_Q D tc tb a0 G sz P) args s 0 0 (mx_A a0 G sz)) D tc tb (mx_A a0 G sz) 2 (mx_Ok0 a0 G)) (t_C_clear  P) :=
  ⟨mx_s_iconst C d_C_clear_0 (by decide),
  mx_s_istore_n C d_C_clear_1 rfl (by decide),
  mx_s_iload_n C d_C_clear_2 rfl,
  mx_s_aload_n C d_C_clear_3 rfl,
  mx_s_get (T := T_C) (N := 2) (k := 1) C (fun w h => List.mem_cons_of_mem _ (in_C w h)) rfl (by decide) (List.mem_cons_of_mem _ (mx_in0 (by decide +kernel) rfl)) rfl d_C_clear_4,
  mx_s_alen C d_C_clear_7,
  mx_s_ic_ge C d_C_clear_8 (by decide),
  mx_s_aload_n C d_C_clear_11 rfl,
  mx_s_get (T := T_C) (N := 2) (k := 1) C (fun w h => List.mem_cons_of_mem _ (in_C w h)) rfl (by decide) (List.mem_cons_of_mem _ (mx_in0 (by decide +kernel) rfl)) rfl d_C_clear_12,
  mx_s_iload_n C d_C_clear_15 rfl,
  mx_s_iconst C d_C_clear_16 (by decide),
  mx_s_iast C d_C_clear_17,
  mx_s_iinc C d_C_clear_18 (by decide) (by decide),
  mx_s_goto C d_C_clear_21 (by decide),
  mx_s_ret C hr hlk d_C_clear_24,
  trivial⟩
set_option maxRecDepth 20000 in
set_option maxHeartbeats 2000000 in
theorem m_C_clear (l : Launch) : mx_M l y_C_clear w_C_clear rm_C_clear sp_C_clear := by
  intro D tc tb ad As F P sz0 h
  obtain ⟨f, rfl, h1, h2, hp⟩ := h
  refine mx_run (cc := c_C_clear) (maxL := 2) (ret := none) (tab := t_C_clear  P) (by decide) rfl D tc tb ad _ F P sz0 (Nat.le_of_ble_eq_true rfl) (fun p e s m args below meth c C hr hlk => a_C_clear  C hr hlk) ?_
  intro Rr go
  have hF := mx_as2 h1 h2
  rw [hF]
  have loop : ∀ (k i : Nat) (f : Nat → Int32), i + k = 64 → Rr 2 [some (mx_r 29), some (mx_i (nI i))] [] (mx_put (mx_put F 29 e_C) 30 (mx_ia 64 f)) 0 0 := by
    intro k
    induction k with
    | zero =>
      intro i f hi
      refine go rfl ⟨_, rfl, ?_⟩
      refine go rfl ⟨_, rfl, ?_⟩
      refine go rfl ⟨_, _, _, _, rfl, rfl, rfl, ?_⟩
      refine go rfl ⟨_, _, _, _, rfl, rfl, ?_⟩
      refine go rfl ⟨_, _, _, rfl, fun c => ?_, fun c => ?_⟩
      · refine go rfl ⟨rfl, rfl, rfl, ?_⟩
        rw [mx_self h1]
        exact hp f
      · exact absurd (nI_le (by omega) (by omega)) c
    | succ k ih =>
      intro i f hi
      refine go rfl ⟨_, rfl, ?_⟩
      refine go rfl ⟨_, rfl, ?_⟩
      refine go rfl ⟨_, _, _, _, rfl, rfl, rfl, ?_⟩
      refine go rfl ⟨_, _, _, _, rfl, rfl, ?_⟩
      refine go rfl ⟨_, _, _, rfl, fun c => ?_, fun c => ?_⟩
      · exact absurd ((nI_leI (by omega) (by omega)).mp c) (by omega)
      · refine go rfl ⟨_, rfl, ?_⟩
        refine go rfl ⟨_, _, _, _, rfl, rfl, rfl, ?_⟩
        refine go rfl ⟨_, rfl, ?_⟩
        refine go rfl ?_
        refine go rfl ⟨_, _, _, _, _, _, rfl, rfl, (vp_in_nI (by omega) (by omega)), ?_⟩
        rw [mx_pp]
        refine go rfl ⟨_, rfl, ?_⟩
        refine go rfl ?_
        rw [nI_add]
        exact ih (i + 1) _ (by omega)
  refine go rfl ?_
  refine go rfl ⟨_, _, rfl, ?_⟩
  exact loop 64 0 f rfl
-- LadderWords.wipe()V
def sp_L_wipe : mx_Sp := fun As F P => ∃ f : Nat → Int32, As = [mx_r 0] ∧ F 0 = some e_L ∧ F 29 = some e_C ∧ F 30 = some (mx_ia 64 f) ∧ ∀ f', P none (mx_put F 30 (mx_ia 64 f'))
theorem d_L_wipe_0 : decode c_L_wipe 0 = .ok (.aload_n 0, 1) := by decide +kernel
theorem d_L_wipe_1 : decode c_L_wipe 1 = .ok (.getfield 49, 3) := by decide +kernel
theorem d_L_wipe_4 : decode c_L_wipe 4 = .ok (.invokevirtual 107, 3) := by decide +kernel
theorem d_L_wipe_7 : decode c_L_wipe 7 = .ok (.return_, 1) := by decide +kernel
abbrev w_L_wipe : List Cond := mx_ws y_L_wipe c_L_wipe 1 none
abbrev rm_L_wipe : Room := { frames := 20, cells := 0, slots := 0, locals := 400 }
def t_L_wipe  (P : Option mx_V → mx_F → Prop) : List (Nat × mx_O) := [
  (0, mx_aload 0 1),
  (1, mx_get 6 5 4),
  (4, mx_cv0 1 sp_C_clear 0 0 7),
  (7, mx_ret P)]
set_option maxRecDepth 20000 in
theorem a_L_wipe  {p : Program} {l : Launch} {e : Env} {s : State} {m : MethodId} {args : Array Value} {below : List Frame} {meth : Method} {c : Code} {D : va_G} {tc : Nat → ClassId} {tb : Nat → Nat} {sz : Nat} {a0 : Nat → Nat} {G : mx_F} {P : Option mx_V → mx_F → Prop}  (C : mx_C p s m args c c_L_wipe y_L_wipe.cls w_L_wipe D tc tb (mx_A a0 G sz) 1 (mx_Ok0 a0 G)) (hr : meth.sig.returnType = none) (hlk : meth.locks = false) : mx_all (mx_W p l e rm_L_wipe s m args below meth c (MQ below (mx_Q D tc tb a0 G sz P) args s 0 0 (mx_A a0 G sz)) D tc tb (mx_A a0 G sz) 1 (mx_Ok0 a0 G)) (t_L_wipe  P) :=
  ⟨mx_s_aload_n C d_L_wipe_0 rfl,
  mx_s_get (T := T_L) (N := 6) (k := 5) C (fun w h => List.mem_cons_of_mem _ (in_L w h)) rfl (by decide) (List.mem_cons_of_mem _ (mx_in0 (by decide +kernel) rfl)) rfl d_L_wipe_1,
  mx_s_cv0 C (m_C_clear l) rfl (cwV 0 C.2.2.2.2.1 (mx_gV (fun w h => List.mem_cons_of_mem _ h) (mx_in0 (by decide +kernel) rfl) (mx_in0 (by decide +kernel) rfl) (mx_in0 (by decide +kernel) rfl) (mx_in0 (by decide +kernel) rfl) (mx_in0 (by decide +kernel) rfl)) rfl rfl rfl (by decide +kernel) ⟨by decide, by decide⟩) d_L_wipe_4 ⟨Nat.zero_le _, Nat.zero_le _⟩,
  mx_s_ret C hr hlk d_L_wipe_7,
  trivial⟩
set_option maxRecDepth 20000 in
set_option maxHeartbeats 2000000 in
theorem m_L_wipe (l : Launch) : mx_M l y_L_wipe w_L_wipe rm_L_wipe sp_L_wipe := by
  intro D tc tb ad As F P sz0 h
  obtain ⟨f, rfl, h0, h1, h2, hp⟩ := h
  refine mx_run (cc := c_L_wipe) (maxL := 1) (ret := none) (tab := t_L_wipe  P) (by decide) rfl D tc tb ad _ F P sz0 (Nat.le_of_ble_eq_true rfl) (fun p e s m args below meth c C hr hlk => a_L_wipe  C hr hlk) ?_
  intro Rr go
  have hF := mx_as3 h0 h1 h2
  rw [hF]
  refine go rfl ⟨_, rfl, ?_⟩
  refine go rfl ⟨_, _, _, _, rfl, rfl, rfl, ?_⟩
  refine go rfl ⟨_, _, _, rfl, rfl, rfl, rfl, rfl, ⟨f, rfl, rfl, rfl, fun f' => ?_⟩⟩
  refine go rfl ⟨rfl, rfl, rfl, ?_⟩
  rw [← hF]
  exact hp f'
-- LadderWords$Gatherings.heapOfRow(LLadderWords$Row;)J
/-- the row is empty -/
def sp_G_heapOfRow : mx_Sp := fun As F P => As = [mx_r 1] ∧ F 1 = some (e_R 0) ∧ P (some (mx_l 0)) F
theorem d_G_heapOfRow_0 : decode c_G_heapOfRow 0 = .ok (.lconst 0, 1) := by decide +kernel
theorem d_G_heapOfRow_1 : decode c_G_heapOfRow 1 = .ok (.lstore_n 1, 1) := by decide +kernel
theorem d_G_heapOfRow_2 : decode c_G_heapOfRow 2 = .ok (.iconst 0, 1) := by decide +kernel
theorem d_G_heapOfRow_3 : decode c_G_heapOfRow 3 = .ok (.istore_n 3, 1) := by decide +kernel
theorem d_G_heapOfRow_4 : decode c_G_heapOfRow 4 = .ok (.iload_n 3, 1) := by decide +kernel
theorem d_G_heapOfRow_5 : decode c_G_heapOfRow 5 = .ok (.aload_n 0, 1) := by decide +kernel
theorem d_G_heapOfRow_6 : decode c_G_heapOfRow 6 = .ok (.invokevirtual 57, 3) := by decide +kernel
theorem d_G_heapOfRow_9 : decode c_G_heapOfRow 9 = .ok (.if_icmp .ge 24, 3) := by decide +kernel
theorem d_G_heapOfRow_33 : decode c_G_heapOfRow 33 = .ok (.lload_n 1, 1) := by decide +kernel
theorem d_G_heapOfRow_34 : decode c_G_heapOfRow 34 = .ok (.lreturn, 1) := by decide +kernel
abbrev w_G_heapOfRow : List Cond := mx_ws y_G_heapOfRow c_G_heapOfRow 4 (some .long)
abbrev rm_G_heapOfRow : Room := { frames := 20, cells := 0, slots := 0, locals := 400 }
def t_G_heapOfRow  (P : Option mx_V → mx_F → Prop) : List (Nat × mx_O) := [
  (0, mx_push (.inr (.inl 0)) 1),
  (1, mx_lstore 1 2),
  (2, mx_push (.inl (nI 0)) 3),
  (3, mx_istore 3 4),
  (4, mx_iload 3 5),
  (5, mx_aload 0 6),
  (6, mx_cv0 3 sp_R_length 0 0 9),
  (9, mx_ic_ge 33 12),
  (33, mx_lload 1 34),
  (34, mx_lret P)]
set_option maxRecDepth 20000 in
theorem a_G_heapOfRow  {p : Program} {l : Launch} {e : Env} {s : State} {m : MethodId} {args : Array Value} {below : List Frame} {meth : Method} {c : Code} {D : va_G} {tc : Nat → ClassId} {tb : Nat → Nat} {sz : Nat} {a0 : Nat → Nat} {G : mx_F} {P : Option mx_V → mx_F → Prop}  (C : mx_C p s m args c c_G_heapOfRow y_G_heapOfRow.cls w_G_heapOfRow D tc tb (mx_A a0 G sz) 4 (mx_Ok0 a0 G)) (hr : meth.sig.returnType = (some .long)) (hlk : meth.locks = false) : mx_all (mx_W p l e rm_G_heapOfRow s m args below meth c (MQ below (mx_Q D tc tb a0 G sz P) args s 0 0 (mx_A a0 G sz)) D tc tb (mx_A a0 G sz) 4 (mx_Ok0 a0 G)) (t_G_heapOfRow  P) :=
  ⟨mx_s_lconst C d_G_heapOfRow_0 (by decide),
  mx_s_lstore_n C d_G_heapOfRow_1 rfl (by decide),
  mx_s_iconst C d_G_heapOfRow_2 (by decide),
  mx_s_istore_n C d_G_heapOfRow_3 rfl (by decide),
  mx_s_iload_n C d_G_heapOfRow_4 rfl,
  mx_s_aload_n C d_G_heapOfRow_5 rfl,
  mx_s_cv0 C (m_R_length l) rfl (cwV 0 C.2.2.2.2.1 (mx_gV (fun w h => List.mem_cons_of_mem _ h) (mx_in0 (by decide +kernel) rfl) (mx_in0 (by decide +kernel) rfl) (mx_in0 (by decide +kernel) rfl) (mx_in0 (by decide +kernel) rfl) (mx_in0 (by decide +kernel) rfl)) rfl rfl rfl (by decide +kernel) ⟨by decide, by decide⟩) d_G_heapOfRow_6 ⟨Nat.zero_le _, Nat.zero_le _⟩,
  mx_s_ic_ge C d_G_heapOfRow_9 (by decide),
  mx_s_lload_n C d_G_heapOfRow_33 rfl,
  mx_s_lret C hr hlk d_G_heapOfRow_34,
  trivial⟩
set_option maxRecDepth 20000 in
set_option maxHeartbeats 2000000 in
theorem m_G_heapOfRow (l : Launch) : mx_M l y_G_heapOfRow w_G_heapOfRow rm_G_heapOfRow sp_G_heapOfRow := by
  intro D tc tb ad As F P sz0 h
  obtain ⟨rfl, h1, hp⟩ := h
  refine mx_run (cc := c_G_heapOfRow) (maxL := 4) (ret := (some .long)) (tab := t_G_heapOfRow  P) (by decide) rfl D tc tb ad _ F P sz0 (Nat.le_of_ble_eq_true rfl) (fun p e s m args below meth c C hr hlk => a_G_heapOfRow  C hr hlk) ?_
  intro Rr go
  have hF := mx_as1 h1
  rw [hF]
  refine go rfl ?_
  refine go rfl ⟨_, _, rfl, ?_⟩
  refine go rfl ?_
  refine go rfl ⟨_, _, rfl, ?_⟩
  refine go rfl ⟨_, rfl, ?_⟩
  refine go rfl ⟨_, rfl, ?_⟩
  refine go rfl ⟨_, _, _, rfl, rfl, rfl, rfl, rfl, ⟨0, rfl, rfl, ?_⟩⟩
  refine go rfl ⟨_, _, _, rfl, fun c => ?_, fun c => ?_⟩
  · refine go rfl ⟨_, rfl, ?_⟩
    refine go rfl ⟨_, rfl, rfl, rfl, ?_⟩
    rw [← hF]
    exact hp
  · exact absurd (nI_le (Nat.le_refl _) (by decide)) c
-- LadderWords$Gatherings.listFitting(LLadderWords$Row;J)V
/-- without words -/
def sp_G_listFitting : mx_Sp := fun As F P => ∃ (fc kc tot wt : Int32) (x : Int64), As = [mx_r 10, mx_r 1, mx_l x] ∧ F 3 = some (e_W 0) ∧ F 10 = some (e_G fc kc tot wt) ∧ P none (mx_put F 10 (e_G (nI 0) kc tot wt))
theorem d_G_listFitting_0 : decode c_G_listFitting 0 = .ok (.aload_n 0, 1) := by decide +kernel
theorem d_G_listFitting_1 : decode c_G_listFitting 1 = .ok (.iconst 0, 1) := by decide +kernel
theorem d_G_listFitting_2 : decode c_G_listFitting 2 = .ok (.putfield 75, 3) := by decide +kernel
theorem d_G_listFitting_5 : decode c_G_listFitting 5 = .ok (.iconst 0, 1) := by decide +kernel
theorem d_G_listFitting_6 : decode c_G_listFitting 6 = .ok (.istore 4, 2) := by decide +kernel
theorem d_G_listFitting_8 : decode c_G_listFitting 8 = .ok (.iload 4, 2) := by decide +kernel
theorem d_G_listFitting_10 : decode c_G_listFitting 10 = .ok (.aload_n 0, 1) := by decide +kernel
theorem d_G_listFitting_11 : decode c_G_listFitting 11 = .ok (.getfield 25, 3) := by decide +kernel
theorem d_G_listFitting_14 : decode c_G_listFitting 14 = .ok (.invokevirtual 36, 3) := by decide +kernel
theorem d_G_listFitting_17 : decode c_G_listFitting 17 = .ok (.if_icmp .ge 68, 3) := by decide +kernel
theorem d_G_listFitting_85 : decode c_G_listFitting 85 = .ok (.return_, 1) := by decide +kernel
abbrev w_G_listFitting : List Cond := mx_ws y_G_listFitting c_G_listFitting 7 none
abbrev rm_G_listFitting : Room := { frames := 30, cells := 0, slots := 0, locals := 600 }
def t_G_listFitting  (P : Option mx_V → mx_F → Prop) : List (Nat × mx_O) := [
  (0, mx_aload 0 1),
  (1, mx_push (.inl (nI 0)) 2),
  (2, mx_puti 0 3 5),
  (5, mx_push (.inl (nI 0)) 6),
  (6, mx_istore 4 8),
  (8, mx_iload 4 10),
  (10, mx_aload 0 11),
  (11, mx_get 0 0 14),
  (14, mx_cv0 5 sp_W_count 0 0 17),
  (17, mx_ic_ge 85 20),
  (85, mx_ret P)]
set_option maxRecDepth 20000 in
theorem a_G_listFitting  {p : Program} {l : Launch} {e : Env} {s : State} {m : MethodId} {args : Array Value} {below : List Frame} {meth : Method} {c : Code} {D : va_G} {tc : Nat → ClassId} {tb : Nat → Nat} {sz : Nat} {a0 : Nat → Nat} {G : mx_F} {P : Option mx_V → mx_F → Prop}  (C : mx_C p s m args c c_G_listFitting y_G_listFitting.cls w_G_listFitting D tc tb (mx_A a0 G sz) 7 (mx_Ok0 a0 G)) (hr : meth.sig.returnType = none) (hlk : meth.locks = false) : mx_all (mx_W p l e rm_G_listFitting s m args below meth c (MQ below (mx_Q D tc tb a0 G sz P) args s 0 0 (mx_A a0 G sz)) D tc tb (mx_A a0 G sz) 7 (mx_Ok0 a0 G)) (t_G_listFitting  P) :=
  ⟨mx_s_aload_n C d_G_listFitting_0 rfl,
  mx_s_iconst C d_G_listFitting_1 (by decide),
  mx_s_puti (T := T_G) (N := 9) (k := 3) C (fun w h => List.mem_cons_of_mem _ (in_G w h)) rfl ty_G ok_G nm_G (by decide) (List.mem_cons_of_mem _ (mx_in0 (by decide +kernel) rfl)) rfl rfl (ok_G 3 (by decide)) d_G_listFitting_2,
  mx_s_iconst C d_G_listFitting_5 (by decide),
  mx_s_istore C d_G_listFitting_6 (by decide),
  mx_s_iload C d_G_listFitting_8,
  mx_s_aload_n C d_G_listFitting_10 rfl,
  mx_s_get (T := T_G) (N := 9) (k := 0) C (fun w h => List.mem_cons_of_mem _ (in_G w h)) rfl (by decide) (List.mem_cons_of_mem _ (mx_in0 (by decide +kernel) rfl)) rfl d_G_listFitting_11,
  mx_s_cv0 C (m_W_count l) rfl (cwV 0 C.2.2.2.2.1 (mx_gV (fun w h => List.mem_cons_of_mem _ h) (mx_in0 (by decide +kernel) rfl) (mx_in0 (by decide +kernel) rfl) (mx_in0 (by decide +kernel) rfl) (mx_in0 (by decide +kernel) rfl) (mx_in0 (by decide +kernel) rfl)) rfl rfl rfl (by decide +kernel) ⟨by decide, by decide⟩) d_G_listFitting_14 ⟨Nat.zero_le _, Nat.zero_le _⟩,
  mx_s_ic_ge C d_G_listFitting_17 (by decide),
  mx_s_ret C hr hlk d_G_listFitting_85,
  trivial⟩
set_option maxRecDepth 20000 in
set_option maxHeartbeats 2000000 in
theorem m_G_listFitting (l : Launch) : mx_M l y_G_listFitting w_G_listFitting rm_G_listFitting sp_G_listFitting := by
  intro D tc tb ad As F P sz0 h
  obtain ⟨fc, kc, tot, wt, x, rfl, h3, h1, hp⟩ := h
  refine mx_run (cc := c_G_listFitting) (maxL := 7) (ret := none) (tab := t_G_listFitting  P) (by decide) rfl D tc tb ad _ F P sz0 (Nat.le_of_ble_eq_true rfl) (fun p e s m args below meth c C hr hlk => a_G_listFitting  C hr hlk) ?_
  intro Rr go
  have hF := mx_as2 h3 h1
  rw [hF]
  refine go rfl ⟨_, rfl, ?_⟩
  refine go rfl ?_
  refine go rfl ⟨_, _, _, _, rfl, rfl, (Nat.le_of_ble_eq_true rfl), ?_⟩
  refine go rfl ?_
  refine go rfl ⟨_, _, rfl, ?_⟩
  refine go rfl ⟨_, rfl, ?_⟩
  refine go rfl ⟨_, rfl, ?_⟩
  refine go rfl ⟨_, _, _, _, rfl, rfl, rfl, ?_⟩
  refine go rfl ⟨_, _, _, rfl, rfl, rfl, rfl, rfl, ⟨0, rfl, rfl, ?_⟩⟩
  refine go rfl ⟨_, _, _, rfl, fun c => ?_, fun c => ?_⟩
  · refine go rfl ⟨rfl, rfl, rfl, ?_⟩
    rw [← hF]
    exact hp
  · exact absurd (nI_le (Nat.le_refl _) (by decide)) c
-- LadderWords$Gatherings.choose(IIIJ)V
/-- nothing fits -/
def sp_G_choose : mx_Sp := fun As F P => ∃ (kc tot wt most : Int32) (x : Int64), As = [mx_r 10, mx_i (nI 0), mx_i most, mx_i (nI 0), mx_l x] ∧ F 10 = some (e_G (nI 0) kc tot wt) ∧ P none F
theorem d_G_choose_0 : decode c_G_choose 0 = .ok (.iload_n 1, 1) := by decide +kernel
theorem d_G_choose_1 : decode c_G_choose 1 = .ok (.iload_n 2, 1) := by decide +kernel
theorem d_G_choose_2 : decode c_G_choose 2 = .ok (.if_icmp .ge 8, 3) := by decide +kernel
theorem d_G_choose_5 : decode c_G_choose 5 = .ok (.iload_n 1, 1) := by decide +kernel
theorem d_G_choose_6 : decode c_G_choose 6 = .ok (.iconst 4, 1) := by decide +kernel
theorem d_G_choose_7 : decode c_G_choose 7 = .ok (.if_icmp .lt 4, 3) := by decide +kernel
theorem d_G_choose_10 : decode c_G_choose 10 = .ok (.return_, 1) := by decide +kernel
theorem d_G_choose_11 : decode c_G_choose 11 = .ok (.iload_n 3, 1) := by decide +kernel
theorem d_G_choose_12 : decode c_G_choose 12 = .ok (.istore 6, 2) := by decide +kernel
theorem d_G_choose_14 : decode c_G_choose 14 = .ok (.iload 6, 2) := by decide +kernel
theorem d_G_choose_16 : decode c_G_choose 16 = .ok (.aload_n 0, 1) := by decide +kernel
theorem d_G_choose_17 : decode c_G_choose 17 = .ok (.getfield 75, 3) := by decide +kernel
theorem d_G_choose_20 : decode c_G_choose 20 = .ok (.if_icmp .ge 42, 3) := by decide +kernel
theorem d_G_choose_62 : decode c_G_choose 62 = .ok (.return_, 1) := by decide +kernel
abbrev w_G_choose : List Cond := mx_ws y_G_choose c_G_choose 7 none
abbrev rm_G_choose : Room := { frames := 30, cells := 0, slots := 0, locals := 600 }
def t_G_choose  (P : Option mx_V → mx_F → Prop) : List (Nat × mx_O) := [
  (0, mx_iload 1 1),
  (1, mx_iload 2 2),
  (2, mx_ic_ge 10 5),
  (5, mx_iload 1 6),
  (6, mx_push (.inl (nI 4)) 7),
  (7, mx_ic_lt 11 10),
  (10, mx_ret P),
  (11, mx_iload 3 12),
  (12, mx_istore 6 14),
  (14, mx_iload 6 16),
  (16, mx_aload 0 17),
  (17, mx_get 0 3 20),
  (20, mx_ic_ge 62 23),
  (62, mx_ret P)]
set_option maxRecDepth 20000 in
theorem a_G_choose  {p : Program} {l : Launch} {e : Env} {s : State} {m : MethodId} {args : Array Value} {below : List Frame} {meth : Method} {c : Code} {D : va_G} {tc : Nat → ClassId} {tb : Nat → Nat} {sz : Nat} {a0 : Nat → Nat} {G : mx_F} {P : Option mx_V → mx_F → Prop}  (C : mx_C p s m args c c_G_choose y_G_choose.cls w_G_choose D tc tb (mx_A a0 G sz) 7 (mx_Ok0 a0 G)) (hr : meth.sig.returnType = none) (hlk : meth.locks = false) : mx_all (mx_W p l e rm_G_choose s m args below meth c (MQ below (mx_Q D tc tb a0 G sz P) args s 0 0 (mx_A a0 G sz)) D tc tb (mx_A a0 G sz) 7 (mx_Ok0 a0 G)) (t_G_choose  P) :=
  ⟨mx_s_iload_n C d_G_choose_0 rfl,
  mx_s_iload_n C d_G_choose_1 rfl,
  mx_s_ic_ge C d_G_choose_2 (by decide),
  mx_s_iload_n C d_G_choose_5 rfl,
  mx_s_iconst C d_G_choose_6 (by decide),
  mx_s_ic_lt C d_G_choose_7 (by decide),
  mx_s_ret C hr hlk d_G_choose_10,
  mx_s_iload_n C d_G_choose_11 rfl,
  mx_s_istore C d_G_choose_12 (by decide),
  mx_s_iload C d_G_choose_14,
  mx_s_aload_n C d_G_choose_16 rfl,
  mx_s_get (T := T_G) (N := 9) (k := 3) C (fun w h => List.mem_cons_of_mem _ (in_G w h)) rfl (by decide) (List.mem_cons_of_mem _ (mx_in0 (by decide +kernel) rfl)) rfl d_G_choose_17,
  mx_s_ic_ge C d_G_choose_20 (by decide),
  mx_s_ret C hr hlk d_G_choose_62,
  trivial⟩
set_option maxRecDepth 20000 in
set_option maxHeartbeats 2000000 in
theorem m_G_choose (l : Launch) : mx_M l y_G_choose w_G_choose rm_G_choose sp_G_choose := by
  intro D tc tb ad As F P sz0 h
  obtain ⟨kc, tot, wt, most, x, rfl, h1, hp⟩ := h
  refine mx_run (cc := c_G_choose) (maxL := 7) (ret := none) (tab := t_G_choose  P) (by decide) rfl D tc tb ad _ F P sz0 (Nat.le_of_ble_eq_true rfl) (fun p e s m args below meth c C hr hlk => a_G_choose  C hr hlk) ?_
  intro Rr go
  have hF := mx_as1 h1
  rw [hF]
  refine go rfl ⟨_, rfl, ?_⟩
  refine go rfl ⟨_, rfl, ?_⟩
  refine go rfl ⟨_, _, _, rfl, fun c1 => ?_, fun c1 => ?_⟩
  · refine go rfl ⟨rfl, rfl, rfl, ?_⟩
    rw [← hF]
    exact hp
  refine go rfl ⟨_, rfl, ?_⟩
  refine go rfl ?_
  refine go rfl ⟨_, _, _, rfl, fun c2 => ?_, fun c2 => ?_⟩
  · refine go rfl ⟨_, rfl, ?_⟩
    refine go rfl ⟨_, _, rfl, ?_⟩
    refine go rfl ⟨_, rfl, ?_⟩
    refine go rfl ⟨_, rfl, ?_⟩
    refine go rfl ⟨_, _, _, _, rfl, rfl, rfl, ?_⟩
    refine go rfl ⟨_, _, _, rfl, fun c3 => ?_, fun c3 => ?_⟩
    · refine go rfl ⟨rfl, rfl, rfl, ?_⟩
      rw [← hF]
      exact hp
    · exact absurd (nI_le (Nat.le_refl _) (by decide)) c3
  · refine go rfl ⟨rfl, rfl, rfl, ?_⟩
    rw [← hF]
    exact hp
-- LadderWords$Gatherings.find(LLadderWords$Row;I)I
abbrev gm (most : Int32) : Prop := most < nI 1 ∨ ¬ most ≤ nI 4
def sp_G_find : mx_Sp := fun As F P => ∃ (fc kc tot wt most : Int32), As = [mx_r 10, mx_r 1, mx_i most] ∧ F 1 = some (e_R 0) ∧ F 3 = some (e_W 0) ∧ F 10 = some (e_G fc kc tot wt) ∧ (gm most → P (some (mx_i (-1))) F) ∧ (¬ gm most → ∀ x, P (some (mx_i (nI 0))) (mx_put F 10 x))
theorem d_G_find_0 : decode c_G_find 0 = .ok (.iload_n 2, 1) := by decide +kernel
theorem d_G_find_1 : decode c_G_find 1 = .ok (.iconst 1, 1) := by decide +kernel
theorem d_G_find_2 : decode c_G_find 2 = .ok (.if_icmp .lt 8, 3) := by decide +kernel
theorem d_G_find_5 : decode c_G_find 5 = .ok (.iload_n 2, 1) := by decide +kernel
theorem d_G_find_6 : decode c_G_find 6 = .ok (.iconst 4, 1) := by decide +kernel
theorem d_G_find_7 : decode c_G_find 7 = .ok (.if_icmp .le 5, 3) := by decide +kernel
theorem d_G_find_10 : decode c_G_find 10 = .ok (.iconst (-1), 1) := by decide +kernel
theorem d_G_find_11 : decode c_G_find 11 = .ok (.ireturn, 1) := by decide +kernel
theorem d_G_find_12 : decode c_G_find 12 = .ok (.aload_n 0, 1) := by decide +kernel
theorem d_G_find_13 : decode c_G_find 13 = .ok (.iconst 0, 1) := by decide +kernel
theorem d_G_find_14 : decode c_G_find 14 = .ok (.putfield 29, 3) := by decide +kernel
theorem d_G_find_17 : decode c_G_find 17 = .ok (.aload_n 0, 1) := by decide +kernel
theorem d_G_find_18 : decode c_G_find 18 = .ok (.iconst 0, 1) := by decide +kernel
theorem d_G_find_19 : decode c_G_find 19 = .ok (.putfield 33, 3) := by decide +kernel
theorem d_G_find_22 : decode c_G_find 22 = .ok (.aload_n 0, 1) := by decide +kernel
theorem d_G_find_23 : decode c_G_find 23 = .ok (.aload_n 0, 1) := by decide +kernel
theorem d_G_find_24 : decode c_G_find 24 = .ok (.getfield 25, 3) := by decide +kernel
theorem d_G_find_27 : decode c_G_find 27 = .ok (.invokevirtual 36, 3) := by decide +kernel
theorem d_G_find_30 : decode c_G_find 30 = .ok (.putfield 42, 3) := by decide +kernel
theorem d_G_find_33 : decode c_G_find 33 = .ok (.aload_n 1, 1) := by decide +kernel
theorem d_G_find_34 : decode c_G_find 34 = .ok (.invokestatic 45, 3) := by decide +kernel
theorem d_G_find_37 : decode c_G_find 37 = .ok (.lstore_n 3, 1) := by decide +kernel
theorem d_G_find_38 : decode c_G_find 38 = .ok (.aload_n 0, 1) := by decide +kernel
theorem d_G_find_39 : decode c_G_find 39 = .ok (.aload_n 1, 1) := by decide +kernel
theorem d_G_find_40 : decode c_G_find 40 = .ok (.lload_n 3, 1) := by decide +kernel
theorem d_G_find_41 : decode c_G_find 41 = .ok (.invokevirtual 49, 3) := by decide +kernel
theorem d_G_find_44 : decode c_G_find 44 = .ok (.aload_n 0, 1) := by decide +kernel
theorem d_G_find_45 : decode c_G_find 45 = .ok (.iconst 0, 1) := by decide +kernel
theorem d_G_find_46 : decode c_G_find 46 = .ok (.iload_n 2, 1) := by decide +kernel
theorem d_G_find_47 : decode c_G_find 47 = .ok (.iconst 0, 1) := by decide +kernel
theorem d_G_find_48 : decode c_G_find 48 = .ok (.lload_n 3, 1) := by decide +kernel
theorem d_G_find_49 : decode c_G_find 49 = .ok (.invokevirtual 53, 3) := by decide +kernel
theorem d_G_find_52 : decode c_G_find 52 = .ok (.aload_n 0, 1) := by decide +kernel
theorem d_G_find_53 : decode c_G_find 53 = .ok (.getfield 33, 3) := by decide +kernel
theorem d_G_find_56 : decode c_G_find 56 = .ok (.ireturn, 1) := by decide +kernel
abbrev w_G_find : List Cond := mx_ws y_G_find c_G_find 5 (some .int)
abbrev rm_G_find : Room := { frames := 40, cells := 0, slots := 0, locals := 800 }
def t_G_find  (P : Option mx_V → mx_F → Prop) : List (Nat × mx_O) := [
  (0, mx_iload 2 1),
  (1, mx_push (.inl (nI 1)) 2),
  (2, mx_ic_lt 10 5),
  (5, mx_iload 2 6),
  (6, mx_push (.inl (nI 4)) 7),
  (7, mx_ic_le 12 10),
  (10, mx_push (.inl (-1)) 11),
  (11, mx_iret P),
  (12, mx_aload 0 13),
  (13, mx_push (.inl (nI 0)) 14),
  (14, mx_puti 0 6 17),
  (17, mx_aload 0 18),
  (18, mx_push (.inl (nI 0)) 19),
  (19, mx_puti 0 7 22),
  (22, mx_aload 0 23),
  (23, mx_aload 0 24),
  (24, mx_get 0 0 27),
  (27, mx_cv0 5 sp_W_count 0 0 30),
  (30, mx_puti 0 8 33),
  (33, mx_aload 1 34),
  (34, mx_cs1 sp_G_heapOfRow 0 0 37),
  (37, mx_lstore 3 38),
  (38, mx_aload 0 39),
  (39, mx_aload 1 40),
  (40, mx_lload 3 41),
  (41, mx_cv2 0 sp_G_listFitting 0 0 44),
  (44, mx_aload 0 45),
  (45, mx_push (.inl (nI 0)) 46),
  (46, mx_iload 2 47),
  (47, mx_push (.inl (nI 0)) 48),
  (48, mx_lload 3 49),
  (49, mx_cv4 0 sp_G_choose 0 0 52),
  (52, mx_aload 0 53),
  (53, mx_get 0 7 56),
  (56, mx_iret P)]
set_option maxRecDepth 20000 in
theorem a_G_find  {p : Program} {l : Launch} {e : Env} {s : State} {m : MethodId} {args : Array Value} {below : List Frame} {meth : Method} {c : Code} {D : va_G} {tc : Nat → ClassId} {tb : Nat → Nat} {sz : Nat} {a0 : Nat → Nat} {G : mx_F} {P : Option mx_V → mx_F → Prop}  (C : mx_C p s m args c c_G_find y_G_find.cls w_G_find D tc tb (mx_A a0 G sz) 5 (mx_Ok0 a0 G)) (hr : meth.sig.returnType = (some .int)) (hlk : meth.locks = false) : mx_all (mx_W p l e rm_G_find s m args below meth c (MQ below (mx_Q D tc tb a0 G sz P) args s 0 0 (mx_A a0 G sz)) D tc tb (mx_A a0 G sz) 5 (mx_Ok0 a0 G)) (t_G_find  P) :=
  ⟨mx_s_iload_n C d_G_find_0 rfl,
  mx_s_iconst C d_G_find_1 (by decide),
  mx_s_ic_lt C d_G_find_2 (by decide),
  mx_s_iload_n C d_G_find_5 rfl,
  mx_s_iconst C d_G_find_6 (by decide),
  mx_s_ic_le C d_G_find_7 (by decide),
  mx_s_iconst C d_G_find_10 (by decide),
  mx_s_iret C hr hlk d_G_find_11,
  mx_s_aload_n C d_G_find_12 rfl,
  mx_s_iconst C d_G_find_13 (by decide),
  mx_s_puti (T := T_G) (N := 9) (k := 6) C (fun w h => List.mem_cons_of_mem _ (in_G w h)) rfl ty_G ok_G nm_G (by decide) (List.mem_cons_of_mem _ (mx_in0 (by decide +kernel) rfl)) rfl rfl (ok_G 6 (by decide)) d_G_find_14,
  mx_s_aload_n C d_G_find_17 rfl,
  mx_s_iconst C d_G_find_18 (by decide),
  mx_s_puti (T := T_G) (N := 9) (k := 7) C (fun w h => List.mem_cons_of_mem _ (in_G w h)) rfl ty_G ok_G nm_G (by decide) (List.mem_cons_of_mem _ (mx_in0 (by decide +kernel) rfl)) rfl rfl (ok_G 7 (by decide)) d_G_find_19,
  mx_s_aload_n C d_G_find_22 rfl,
  mx_s_aload_n C d_G_find_23 rfl,
  mx_s_get (T := T_G) (N := 9) (k := 0) C (fun w h => List.mem_cons_of_mem _ (in_G w h)) rfl (by decide) (List.mem_cons_of_mem _ (mx_in0 (by decide +kernel) rfl)) rfl d_G_find_24,
  mx_s_cv0 C (m_W_count l) rfl (cwV 0 C.2.2.2.2.1 (mx_gV (fun w h => List.mem_cons_of_mem _ h) (mx_in0 (by decide +kernel) rfl) (mx_in0 (by decide +kernel) rfl) (mx_in0 (by decide +kernel) rfl) (mx_in0 (by decide +kernel) rfl) (mx_in0 (by decide +kernel) rfl)) rfl rfl rfl (by decide +kernel) ⟨by decide, by decide⟩) d_G_find_27 ⟨Nat.zero_le _, Nat.zero_le _⟩,
  mx_s_puti (T := T_G) (N := 9) (k := 8) C (fun w h => List.mem_cons_of_mem _ (in_G w h)) rfl ty_G ok_G nm_G (by decide) (List.mem_cons_of_mem _ (mx_in0 (by decide +kernel) rfl)) rfl rfl (ok_G 8 (by decide)) d_G_find_30,
  mx_s_aload_n C d_G_find_33 rfl,
  mx_s_cs1 C (m_G_heapOfRow l) (cwS 1 C.2.2.2.2.1 (mx_gS (fun w h => List.mem_cons_of_mem _ h) (mx_in0 (by decide +kernel) rfl) (mx_in0 (by decide +kernel) rfl) (mx_in0 (by decide +kernel) rfl) (mx_in0 (by decide +kernel) rfl)) rfl rfl rfl (by decide +kernel) ⟨by decide, by decide⟩) d_G_find_34 ⟨Nat.zero_le _, Nat.zero_le _⟩,
  mx_s_lstore_n C d_G_find_37 rfl (by decide),
  mx_s_aload_n C d_G_find_38 rfl,
  mx_s_aload_n C d_G_find_39 rfl,
  mx_s_lload_n C d_G_find_40 rfl,
  mx_s_cv2 C (m_G_listFitting l) rfl (cwV 2 C.2.2.2.2.1 (mx_gV (fun w h => List.mem_cons_of_mem _ h) (mx_in0 (by decide +kernel) rfl) (mx_in0 (by decide +kernel) rfl) (mx_in0 (by decide +kernel) rfl) (mx_in0 (by decide +kernel) rfl) (mx_in0 (by decide +kernel) rfl)) rfl rfl rfl (by decide +kernel) ⟨by decide, by decide⟩) d_G_find_41 ⟨Nat.zero_le _, Nat.zero_le _⟩,
  mx_s_aload_n C d_G_find_44 rfl,
  mx_s_iconst C d_G_find_45 (by decide),
  mx_s_iload_n C d_G_find_46 rfl,
  mx_s_iconst C d_G_find_47 (by decide),
  mx_s_lload_n C d_G_find_48 rfl,
  mx_s_cv4 C (m_G_choose l) rfl (cwV 4 C.2.2.2.2.1 (mx_gV (fun w h => List.mem_cons_of_mem _ h) (mx_in0 (by decide +kernel) rfl) (mx_in0 (by decide +kernel) rfl) (mx_in0 (by decide +kernel) rfl) (mx_in0 (by decide +kernel) rfl) (mx_in0 (by decide +kernel) rfl)) rfl rfl rfl (by decide +kernel) ⟨by decide, by decide⟩) d_G_find_49 ⟨Nat.zero_le _, Nat.zero_le _⟩,
  mx_s_aload_n C d_G_find_52 rfl,
  mx_s_get (T := T_G) (N := 9) (k := 7) C (fun w h => List.mem_cons_of_mem _ (in_G w h)) rfl (by decide) (List.mem_cons_of_mem _ (mx_in0 (by decide +kernel) rfl)) rfl d_G_find_53,
  mx_s_iret C hr hlk d_G_find_56,
  trivial⟩
set_option maxRecDepth 20000 in
set_option maxHeartbeats 2000000 in
theorem m_G_find (l : Launch) : mx_M l y_G_find w_G_find rm_G_find sp_G_find := by
  intro D tc tb ad As F P sz0 h
  obtain ⟨fc, kc, tot, wt, most, rfl, h1, h3, h10, hz, ho⟩ := h
  refine mx_run (cc := c_G_find) (maxL := 5) (ret := (some .int)) (tab := t_G_find  P) (by decide) rfl D tc tb ad _ F P sz0 (Nat.le_of_ble_eq_true rfl) (fun p e s m args below meth c C hr hlk => a_G_find  C hr hlk) ?_
  intro Rr go
  have hF := mx_as3 h1 h3 h10
  rw [hF]
  have z : gm most → Rr 10 (mx_en [mx_r 10, mx_r 1, mx_i most] 5) [] (mx_put (mx_put (mx_put F 1 (e_R 0)) 3 (e_W 0)) 10 (e_G fc kc tot wt)) 0 0 := by
    intro hc
    refine go rfl ?_
    refine go rfl ⟨_, rfl, rfl, rfl, ?_⟩
    rw [← hF]
    exact hz hc
  refine go rfl ⟨_, rfl, ?_⟩
  refine go rfl ?_
  refine go rfl ⟨_, _, _, rfl, fun c1 => ?_, fun c1 => ?_⟩
  · exact z (Or.inl c1)
  refine go rfl ⟨_, rfl, ?_⟩
  refine go rfl ?_
  refine go rfl ⟨_, _, _, rfl, fun c2 => ?_, fun c2 => ?_⟩
  · refine go rfl ⟨_, rfl, ?_⟩
    refine go rfl ?_
    refine go rfl ⟨_, _, _, _, rfl, rfl, (Nat.le_of_ble_eq_true rfl), ?_⟩
    refine go rfl ⟨_, rfl, ?_⟩
    refine go rfl ?_
    refine go rfl ⟨_, _, _, _, rfl, rfl, (Nat.le_of_ble_eq_true rfl), ?_⟩
    refine go rfl ⟨_, rfl, ?_⟩
    refine go rfl ⟨_, rfl, ?_⟩
    refine go rfl ⟨_, _, _, _, rfl, rfl, rfl, ?_⟩
    refine go rfl ⟨_, _, _, rfl, rfl, rfl, rfl, rfl, ⟨0, rfl, rfl, ?_⟩⟩
    refine go rfl ⟨_, _, _, _, rfl, rfl, (Nat.le_of_ble_eq_true rfl), ?_⟩
    refine go rfl ⟨_, rfl, ?_⟩
    refine go rfl ⟨_, _, rfl, rfl, rfl, rfl, ⟨rfl, rfl, ?_⟩⟩
    refine go rfl ⟨_, _, rfl, ?_⟩
    refine go rfl ⟨_, rfl, ?_⟩
    refine go rfl ⟨_, rfl, ?_⟩
    refine go rfl ⟨_, rfl, ?_⟩
    refine go rfl ⟨_, _, _, _, _, rfl, rfl, rfl, rfl, rfl, ⟨_, _, _, _, _, rfl, rfl, rfl, ?_⟩⟩
    refine go rfl ⟨_, rfl, ?_⟩
    refine go rfl ?_
    refine go rfl ⟨_, rfl, ?_⟩
    refine go rfl ?_
    refine go rfl ⟨_, rfl, ?_⟩
    refine go rfl ⟨_, _, _, _, _, _, _, rfl, rfl, rfl, rfl, rfl, ⟨_, _, _, _, _, rfl, rfl, ?_⟩⟩
    refine go rfl ⟨_, rfl, ?_⟩
    refine go rfl ⟨_, _, _, _, rfl, rfl, rfl, ?_⟩
    refine go rfl ⟨_, rfl, rfl, rfl, ?_⟩
    rw [← hF]
    simp only [mx_pp]
    exact ho (fun h => h.elim c1 (fun q => q c2)) _
  · exact z (Or.inr c2)
-- LadderWords.gather(I)I
def sp_L_gather : mx_Sp := fun As F P => ∃ (fc kc tot wt most : Int32), As = [mx_r 0, mx_i most] ∧ F 0 = some e_L ∧ F 1 = some (e_R 0) ∧ F 3 = some (e_W 0) ∧ F 10 = some (e_G fc kc tot wt) ∧ (gm most → P (some (mx_i (-1))) F) ∧ (¬ gm most → ∀ x, P (some (mx_i (nI 0))) (mx_put F 10 x))
theorem d_L_gather_0 : decode c_L_gather 0 = .ok (.aload_n 0, 1) := by decide +kernel
theorem d_L_gather_1 : decode c_L_gather 1 = .ok (.getfield 35, 3) := by decide +kernel
theorem d_L_gather_4 : decode c_L_gather 4 = .ok (.aload_n 0, 1) := by decide +kernel
theorem d_L_gather_5 : decode c_L_gather 5 = .ok (.getfield 10, 3) := by decide +kernel
theorem d_L_gather_8 : decode c_L_gather 8 = .ok (.iload_n 1, 1) := by decide +kernel
theorem d_L_gather_9 : decode c_L_gather 9 = .ok (.invokevirtual 80, 3) := by decide +kernel
theorem d_L_gather_12 : decode c_L_gather 12 = .ok (.ireturn, 1) := by decide +kernel
abbrev w_L_gather : List Cond := mx_ws y_L_gather c_L_gather 2 (some .int)
abbrev rm_L_gather : Room := { frames := 50, cells := 0, slots := 0, locals := 1000 }
def t_L_gather  (P : Option mx_V → mx_F → Prop) : List (Nat × mx_O) := [
  (0, mx_aload 0 1),
  (1, mx_get 6 3 4),
  (4, mx_aload 0 5),
  (5, mx_get 6 0 8),
  (8, mx_iload 1 9),
  (9, mx_cv2 0 sp_G_find 0 0 12),
  (12, mx_iret P)]
set_option maxRecDepth 20000 in
theorem a_L_gather  {p : Program} {l : Launch} {e : Env} {s : State} {m : MethodId} {args : Array Value} {below : List Frame} {meth : Method} {c : Code} {D : va_G} {tc : Nat → ClassId} {tb : Nat → Nat} {sz : Nat} {a0 : Nat → Nat} {G : mx_F} {P : Option mx_V → mx_F → Prop}  (C : mx_C p s m args c c_L_gather y_L_gather.cls w_L_gather D tc tb (mx_A a0 G sz) 2 (mx_Ok0 a0 G)) (hr : meth.sig.returnType = (some .int)) (hlk : meth.locks = false) : mx_all (mx_W p l e rm_L_gather s m args below meth c (MQ below (mx_Q D tc tb a0 G sz P) args s 0 0 (mx_A a0 G sz)) D tc tb (mx_A a0 G sz) 2 (mx_Ok0 a0 G)) (t_L_gather  P) :=
  ⟨mx_s_aload_n C d_L_gather_0 rfl,
  mx_s_get (T := T_L) (N := 6) (k := 3) C (fun w h => List.mem_cons_of_mem _ (in_L w h)) rfl (by decide) (List.mem_cons_of_mem _ (mx_in0 (by decide +kernel) rfl)) rfl d_L_gather_1,
  mx_s_aload_n C d_L_gather_4 rfl,
  mx_s_get (T := T_L) (N := 6) (k := 0) C (fun w h => List.mem_cons_of_mem _ (in_L w h)) rfl (by decide) (List.mem_cons_of_mem _ (mx_in0 (by decide +kernel) rfl)) rfl d_L_gather_5,
  mx_s_iload_n C d_L_gather_8 rfl,
  mx_s_cv2 C (m_G_find l) rfl (cwV 2 C.2.2.2.2.1 (mx_gV (fun w h => List.mem_cons_of_mem _ h) (mx_in0 (by decide +kernel) rfl) (mx_in0 (by decide +kernel) rfl) (mx_in0 (by decide +kernel) rfl) (mx_in0 (by decide +kernel) rfl) (mx_in0 (by decide +kernel) rfl)) rfl rfl rfl (by decide +kernel) ⟨by decide, by decide⟩) d_L_gather_9 ⟨Nat.zero_le _, Nat.zero_le _⟩,
  mx_s_iret C hr hlk d_L_gather_12,
  trivial⟩
set_option maxRecDepth 20000 in
set_option maxHeartbeats 2000000 in
theorem m_L_gather (l : Launch) : mx_M l y_L_gather w_L_gather rm_L_gather sp_L_gather := by
  intro D tc tb ad As F P sz0 h
  obtain ⟨fc, kc, tot, wt, most, rfl, h0, h1, h3, h10, hz, ho⟩ := h
  refine mx_run (cc := c_L_gather) (maxL := 2) (ret := (some .int)) (tab := t_L_gather  P) (by decide) rfl D tc tb ad _ F P sz0 (Nat.le_of_ble_eq_true rfl) (fun p e s m args below meth c C hr hlk => a_L_gather  C hr hlk) ?_
  intro Rr go
  have hF := mx_as4 h0 h1 h3 h10
  rw [hF]
  refine go rfl ⟨_, rfl, ?_⟩
  refine go rfl ⟨_, _, _, _, rfl, rfl, rfl, ?_⟩
  refine go rfl ⟨_, rfl, ?_⟩
  refine go rfl ⟨_, _, _, _, rfl, rfl, rfl, ?_⟩
  refine go rfl ⟨_, rfl, ?_⟩
  refine go rfl ⟨_, _, _, _, _, rfl, rfl, rfl, rfl, rfl, ⟨fc, kc, tot, wt, most, rfl, rfl, rfl, rfl, fun hc => ?_, fun hc x => ?_⟩⟩
  · refine go rfl ⟨_, rfl, rfl, rfl, ?_⟩
    rw [← hF]
    exact hz hc
  · refine go rfl ⟨_, rfl, rfl, rfl, ?_⟩
    rw [← hF]
    exact ho hc x
-- LadderWords$Squares.openAll(I)V
abbrev qh : Nat → Option Nat := mx_g5 19
abbrev qo : Nat → Option Nat := mx_g5 24
/-- without words -/
def sp_Q_openAll : mx_Sp := fun As F P => ∃ (sz wt : Int32) (n : Nat) (f : Nat → Int64), As = [mx_r 15, mx_i (nI n)] ∧ n ≤ 5 ∧ F 3 = some (e_W 0) ∧ F 15 = some (e_Q sz wt) ∧ F 17 = some (mx_qa 2 5 qo) ∧ F 24 = some (mx_la 5 f) ∧ ∀ f', P none (mx_put F 24 (mx_la 5 f'))
theorem d_Q_openAll_0 : decode c_Q_openAll 0 = .ok (.lconst 0, 1) := by decide +kernel
theorem d_Q_openAll_1 : decode c_Q_openAll 1 = .ok (.lstore_n 2, 1) := by decide +kernel
theorem d_Q_openAll_2 : decode c_Q_openAll 2 = .ok (.iconst 0, 1) := by decide +kernel
theorem d_Q_openAll_3 : decode c_Q_openAll 3 = .ok (.istore 4, 2) := by decide +kernel
theorem d_Q_openAll_5 : decode c_Q_openAll 5 = .ok (.iload 4, 2) := by decide +kernel
theorem d_Q_openAll_7 : decode c_Q_openAll 7 = .ok (.aload_n 0, 1) := by decide +kernel
theorem d_Q_openAll_8 : decode c_Q_openAll 8 = .ok (.getfield 23, 3) := by decide +kernel
theorem d_Q_openAll_11 : decode c_Q_openAll 11 = .ok (.invokevirtual 39, 3) := by decide +kernel
theorem d_Q_openAll_14 : decode c_Q_openAll 14 = .ok (.if_icmp .ge 36, 3) := by decide +kernel
theorem d_Q_openAll_50 : decode c_Q_openAll 50 = .ok (.iconst 0, 1) := by decide +kernel
theorem d_Q_openAll_51 : decode c_Q_openAll 51 = .ok (.istore 4, 2) := by decide +kernel
theorem d_Q_openAll_53 : decode c_Q_openAll 53 = .ok (.iload 4, 2) := by decide +kernel
theorem d_Q_openAll_55 : decode c_Q_openAll 55 = .ok (.iload_n 1, 1) := by decide +kernel
theorem d_Q_openAll_56 : decode c_Q_openAll 56 = .ok (.if_icmp .ge 19, 3) := by decide +kernel
theorem d_Q_openAll_59 : decode c_Q_openAll 59 = .ok (.aload_n 0, 1) := by decide +kernel
theorem d_Q_openAll_60 : decode c_Q_openAll 60 = .ok (.getfield 16, 3) := by decide +kernel
theorem d_Q_openAll_63 : decode c_Q_openAll 63 = .ok (.iconst 0, 1) := by decide +kernel
theorem d_Q_openAll_64 : decode c_Q_openAll 64 = .ok (.aaload, 1) := by decide +kernel
theorem d_Q_openAll_65 : decode c_Q_openAll 65 = .ok (.iload 4, 2) := by decide +kernel
theorem d_Q_openAll_67 : decode c_Q_openAll 67 = .ok (.lload_n 2, 1) := by decide +kernel
theorem d_Q_openAll_68 : decode c_Q_openAll 68 = .ok (.lastore, 1) := by decide +kernel
theorem d_Q_openAll_69 : decode c_Q_openAll 69 = .ok (.iinc 4 1, 3) := by decide +kernel
theorem d_Q_openAll_72 : decode c_Q_openAll 72 = .ok (.goto (-19), 3) := by decide +kernel
theorem d_Q_openAll_75 : decode c_Q_openAll 75 = .ok (.return_, 1) := by decide +kernel
abbrev w_Q_openAll : List Cond := mx_ws y_Q_openAll c_Q_openAll 5 none
abbrev rm_Q_openAll : Room := { frames := 30, cells := 0, slots := 0, locals := 600 }
def t_Q_openAll  (P : Option mx_V → mx_F → Prop) : List (Nat × mx_O) := [
  (0, mx_push (.inr (.inl 0)) 1),
  (1, mx_lstore 2 2),
  (2, mx_push (.inl (nI 0)) 3),
  (3, mx_istore 4 5),
  (5, mx_iload 4 7),
  (7, mx_aload 0 8),
  (8, mx_get 4 0 11),
  (11, mx_cv0 5 sp_W_count 0 0 14),
  (14, mx_ic_ge 50 17),
  (50, mx_push (.inl (nI 0)) 51),
  (51, mx_istore 4 53),
  (53, mx_iload 4 55),
  (55, mx_iload 1 56),
  (56, mx_ic_ge 75 59),
  (59, mx_aload 0 60),
  (60, mx_get 4 2 63),
  (63, mx_push (.inl (nI 0)) 64),
  (64, mx_aald 65),
  (65, mx_iload 4 67),
  (67, mx_lload 2 68),
  (68, mx_last 69),
  (69, mx_iinc 4 (nI 1) 72),
  (72, mx_goto 53),
  (75, mx_ret P)]
set_option maxRecDepth 20000 in
theorem a_Q_openAll  {p : Program} {l : Launch} {e : Env} {s : State} {m : MethodId} {args : Array Value} {below : List Frame} {meth : Method} {c : Code} {D : va_G} {tc : Nat → ClassId} {tb : Nat → Nat} {sz : Nat} {a0 : Nat → Nat} {G : mx_F} {P : Option mx_V → mx_F → Prop}  (C : mx_C p s m args c c_Q_openAll y_Q_openAll.cls w_Q_openAll D tc tb (mx_A a0 G sz) 5 (mx_Ok0 a0 G)) (hr : meth.sig.returnType = none) (hlk : meth.locks = false) : mx_all (mx_W p l e rm_Q_openAll s m args below meth c (MQ below (mx_Q D tc tb a0 G sz P) args s 0 0 (mx_A a0 G sz)) D tc tb (mx_A a0 G sz) 5 (mx_Ok0 a0 G)) (t_Q_openAll  P) :=
  ⟨mx_s_lconst C d_Q_openAll_0 (by decide),
  mx_s_lstore_n C d_Q_openAll_1 rfl (by decide),
  mx_s_iconst C d_Q_openAll_2 (by decide),
  mx_s_istore C d_Q_openAll_3 (by decide),
  mx_s_iload C d_Q_openAll_5,
  mx_s_aload_n C d_Q_openAll_7 rfl,
  mx_s_get (T := T_Q) (N := 6) (k := 0) C (fun w h => List.mem_cons_of_mem _ (in_Q w h)) rfl (by decide) (List.mem_cons_of_mem _ (mx_in0 (by decide +kernel) rfl)) rfl d_Q_openAll_8,
  mx_s_cv0 C (m_W_count l) rfl (cwV 0 C.2.2.2.2.1 (mx_gV (fun w h => List.mem_cons_of_mem _ h) (mx_in0 (by decide +kernel) rfl) (mx_in0 (by decide +kernel) rfl) (mx_in0 (by decide +kernel) rfl) (mx_in0 (by decide +kernel) rfl) (mx_in0 (by decide +kernel) rfl)) rfl rfl rfl (by decide +kernel) ⟨by decide, by decide⟩) d_Q_openAll_11 ⟨Nat.zero_le _, Nat.zero_le _⟩,
  mx_s_ic_ge C d_Q_openAll_14 (by decide),
  mx_s_iconst C d_Q_openAll_50 (by decide),
  mx_s_istore C d_Q_openAll_51 (by decide),
  mx_s_iload C d_Q_openAll_53,
  mx_s_iload_n C d_Q_openAll_55 rfl,
  mx_s_ic_ge C d_Q_openAll_56 (by decide),
  mx_s_aload_n C d_Q_openAll_59 rfl,
  mx_s_get (T := T_Q) (N := 6) (k := 2) C (fun w h => List.mem_cons_of_mem _ (in_Q w h)) rfl (by decide) (List.mem_cons_of_mem _ (mx_in0 (by decide +kernel) rfl)) rfl d_Q_openAll_60,
  mx_s_iconst C d_Q_openAll_63 (by decide),
  mx_s_aald C d_Q_openAll_64,
  mx_s_iload C d_Q_openAll_65,
  mx_s_lload_n C d_Q_openAll_67 rfl,
  mx_s_last C d_Q_openAll_68,
  mx_s_iinc C d_Q_openAll_69 (by decide) (by decide),
  mx_s_goto C d_Q_openAll_72 (by decide),
  mx_s_ret C hr hlk d_Q_openAll_75,
  trivial⟩
set_option maxRecDepth 20000 in
set_option maxHeartbeats 2000000 in
theorem m_Q_openAll (l : Launch) : mx_M l y_Q_openAll w_Q_openAll rm_Q_openAll sp_Q_openAll := by
  intro D tc tb ad As F P sz0 h
  obtain ⟨sz, wt, n, f, rfl, hn, h3, h15, h17, h24, hp⟩ := h
  refine mx_run (cc := c_Q_openAll) (maxL := 5) (ret := none) (tab := t_Q_openAll  P) (by decide) rfl D tc tb ad _ F P sz0 (Nat.le_of_ble_eq_true rfl) (fun p e s m args below meth c C hr hlk => a_Q_openAll  C hr hlk) ?_
  intro Rr go
  have hF := mx_as4 h3 h15 h17 h24
  have hF3 := mx_as3 h3 h15 h17
  rw [hF]
  have loop : ∀ (k i : Nat) (f : Nat → Int64), i + k = n → Rr 53 [some (mx_r 15), some (mx_i (nI n)), some (mx_l 0), none, some (mx_i (nI i))] [] (mx_put (mx_put (mx_put (mx_put F 3 (e_W 0)) 15 (e_Q sz wt)) 17 (mx_qa 2 5 qo)) 24 (mx_la 5 f)) 0 0 := by
    intro k
    induction k with
    | zero =>
      intro i f hi
      refine go rfl ⟨_, rfl, ?_⟩
      refine go rfl ⟨_, rfl, ?_⟩
      refine go rfl ⟨_, _, _, rfl, fun c => ?_, fun c => ?_⟩
      · refine go rfl ⟨rfl, rfl, rfl, ?_⟩
        rw [← hF3]
        exact hp f
      · exact absurd (nI_le (by omega) (by omega)) c
    | succ k ih =>
      intro i f hi
      refine go rfl ⟨_, rfl, ?_⟩
      refine go rfl ⟨_, rfl, ?_⟩
      refine go rfl ⟨_, _, _, rfl, fun c => ?_, fun c => ?_⟩
      · exact absurd ((nI_leI (by omega) (by omega)).mp c) (by omega)
      · refine go rfl ⟨_, rfl, ?_⟩
        refine go rfl ⟨_, _, _, _, rfl, rfl, rfl, ?_⟩
        refine go rfl ?_
        refine go rfl ⟨_, _, _, _, _, _, _, rfl, rfl, ⟨_, rfl, rfl⟩, (vp_in_nI (by decide) (by decide)), (show mx_g5 24 _ = some 24 from rfl), ?_⟩
        refine go rfl ⟨_, rfl, ?_⟩
        refine go rfl ⟨_, rfl, ?_⟩
        refine go rfl ⟨_, _, _, _, _, _, rfl, rfl, (vp_in_nI (by omega) (by omega)), ?_⟩
        rw [mx_pp]
        refine go rfl ⟨_, rfl, ?_⟩
        refine go rfl ?_
        rw [nI_add]
        exact ih (i + 1) _ (by omega)
  refine go rfl ?_
  refine go rfl ⟨_, _, rfl, ?_⟩
  refine go rfl ?_
  refine go rfl ⟨_, _, rfl, ?_⟩
  refine go rfl ⟨_, rfl, ?_⟩
  refine go rfl ⟨_, rfl, ?_⟩
  refine go rfl ⟨_, _, _, _, rfl, rfl, rfl, ?_⟩
  refine go rfl ⟨_, _, _, rfl, rfl, rfl, rfl, rfl, ⟨0, rfl, rfl, ?_⟩⟩
  refine go rfl ⟨_, _, _, rfl, fun c => ?_, fun c => ?_⟩
  · refine go rfl ?_
    refine go rfl ⟨_, _, rfl, ?_⟩
    exact loop n 0 f (by omega)
  · exact absurd (nI_le (Nat.le_refl _) (by decide)) c
-- LadderWords$Squares.complete(II)Z
/-- without words -/
def sp_Q_complete : mx_Sp := fun As F P => ∃ (sz wt : Int32) (n : Nat), As = [mx_r 15, mx_i (nI 0), mx_i (nI n)] ∧ 1 ≤ n ∧ n ≤ 5 ∧ F 3 = some (e_W 0) ∧ F 15 = some (e_Q sz wt) ∧ P (some (mx_i (nI 0))) F
theorem d_Q_complete_0 : decode c_Q_complete 0 = .ok (.iload_n 1, 1) := by decide +kernel
theorem d_Q_complete_1 : decode c_Q_complete 1 = .ok (.iload_n 2, 1) := by decide +kernel
theorem d_Q_complete_2 : decode c_Q_complete 2 = .ok (.if_icmp .ge 8, 3) := by decide +kernel
theorem d_Q_complete_5 : decode c_Q_complete 5 = .ok (.iload_n 1, 1) := by decide +kernel
theorem d_Q_complete_6 : decode c_Q_complete 6 = .ok (.iconst 5, 1) := by decide +kernel
theorem d_Q_complete_7 : decode c_Q_complete 7 = .ok (.if_icmp .lt 5, 3) := by decide +kernel
theorem d_Q_complete_12 : decode c_Q_complete 12 = .ok (.iconst 0, 1) := by decide +kernel
theorem d_Q_complete_13 : decode c_Q_complete 13 = .ok (.istore_n 3, 1) := by decide +kernel
theorem d_Q_complete_14 : decode c_Q_complete 14 = .ok (.iload_n 3, 1) := by decide +kernel
theorem d_Q_complete_15 : decode c_Q_complete 15 = .ok (.aload_n 0, 1) := by decide +kernel
theorem d_Q_complete_16 : decode c_Q_complete 16 = .ok (.getfield 23, 3) := by decide +kernel
theorem d_Q_complete_19 : decode c_Q_complete 19 = .ok (.invokevirtual 39, 3) := by decide +kernel
theorem d_Q_complete_22 : decode c_Q_complete 22 = .ok (.if_icmp .ge 50, 3) := by decide +kernel
theorem d_Q_complete_72 : decode c_Q_complete 72 = .ok (.iconst 0, 1) := by decide +kernel
theorem d_Q_complete_73 : decode c_Q_complete 73 = .ok (.ireturn, 1) := by decide +kernel
abbrev w_Q_complete : List Cond := mx_ws y_Q_complete c_Q_complete 5 (some .boolean)
abbrev rm_Q_complete : Room := { frames := 30, cells := 0, slots := 0, locals := 600 }
def t_Q_complete  (P : Option mx_V → mx_F → Prop) : List (Nat × mx_O) := [
  (0, mx_iload 1 1),
  (1, mx_iload 2 2),
  (2, mx_ic_ge 10 5),
  (5, mx_iload 1 6),
  (6, mx_push (.inl (nI 5)) 7),
  (7, mx_ic_lt 12 10),
  (12, mx_push (.inl (nI 0)) 13),
  (13, mx_istore 3 14),
  (14, mx_iload 3 15),
  (15, mx_aload 0 16),
  (16, mx_get 4 0 19),
  (19, mx_cv0 5 sp_W_count 0 0 22),
  (22, mx_ic_ge 72 25),
  (72, mx_push (.inl (nI 0)) 73),
  (73, mx_zret P)]
set_option maxRecDepth 20000 in
theorem a_Q_complete  {p : Program} {l : Launch} {e : Env} {s : State} {m : MethodId} {args : Array Value} {below : List Frame} {meth : Method} {c : Code} {D : va_G} {tc : Nat → ClassId} {tb : Nat → Nat} {sz : Nat} {a0 : Nat → Nat} {G : mx_F} {P : Option mx_V → mx_F → Prop}  (C : mx_C p s m args c c_Q_complete y_Q_complete.cls w_Q_complete D tc tb (mx_A a0 G sz) 5 (mx_Ok0 a0 G)) (hr : meth.sig.returnType = (some .boolean)) (hlk : meth.locks = false) : mx_all (mx_W p l e rm_Q_complete s m args below meth c (MQ below (mx_Q D tc tb a0 G sz P) args s 0 0 (mx_A a0 G sz)) D tc tb (mx_A a0 G sz) 5 (mx_Ok0 a0 G)) (t_Q_complete  P) :=
  ⟨mx_s_iload_n C d_Q_complete_0 rfl,
  mx_s_iload_n C d_Q_complete_1 rfl,
  mx_s_ic_ge C d_Q_complete_2 (by decide),
  mx_s_iload_n C d_Q_complete_5 rfl,
  mx_s_iconst C d_Q_complete_6 (by decide),
  mx_s_ic_lt C d_Q_complete_7 (by decide),
  mx_s_iconst C d_Q_complete_12 (by decide),
  mx_s_istore_n C d_Q_complete_13 rfl (by decide),
  mx_s_iload_n C d_Q_complete_14 rfl,
  mx_s_aload_n C d_Q_complete_15 rfl,
  mx_s_get (T := T_Q) (N := 6) (k := 0) C (fun w h => List.mem_cons_of_mem _ (in_Q w h)) rfl (by decide) (List.mem_cons_of_mem _ (mx_in0 (by decide +kernel) rfl)) rfl d_Q_complete_16,
  mx_s_cv0 C (m_W_count l) rfl (cwV 0 C.2.2.2.2.1 (mx_gV (fun w h => List.mem_cons_of_mem _ h) (mx_in0 (by decide +kernel) rfl) (mx_in0 (by decide +kernel) rfl) (mx_in0 (by decide +kernel) rfl) (mx_in0 (by decide +kernel) rfl) (mx_in0 (by decide +kernel) rfl)) rfl rfl rfl (by decide +kernel) ⟨by decide, by decide⟩) d_Q_complete_19 ⟨Nat.zero_le _, Nat.zero_le _⟩,
  mx_s_ic_ge C d_Q_complete_22 (by decide),
  mx_s_iconst C d_Q_complete_72 (by decide),
  mx_s_zret C hr hlk d_Q_complete_73,
  trivial⟩
set_option maxRecDepth 20000 in
set_option maxHeartbeats 2000000 in
theorem m_Q_complete (l : Launch) : mx_M l y_Q_complete w_Q_complete rm_Q_complete sp_Q_complete := by
  intro D tc tb ad As F P sz0 h
  obtain ⟨sz, wt, n, rfl, hn1, hn, h3, h15, hp⟩ := h
  refine mx_run (cc := c_Q_complete) (maxL := 5) (ret := (some .boolean)) (tab := t_Q_complete  P) (by decide) rfl D tc tb ad _ F P sz0 (Nat.le_of_ble_eq_true rfl) (fun p e s m args below meth c C hr hlk => a_Q_complete  C hr hlk) ?_
  intro Rr go
  have hF := mx_as2 h3 h15
  rw [hF]
  refine go rfl ⟨_, rfl, ?_⟩
  refine go rfl ⟨_, rfl, ?_⟩
  refine go rfl ⟨_, _, _, rfl, fun c1 => ?_, fun c1 => ?_⟩
  · exact absurd ((nI_leI (by omega) (by omega)).mp c1) (by omega)
  refine go rfl ⟨_, rfl, ?_⟩
  refine go rfl ?_
  refine go rfl ⟨_, _, _, rfl, fun c2 => ?_, fun c2 => ?_⟩
  · refine go rfl ?_
    refine go rfl ⟨_, _, rfl, ?_⟩
    refine go rfl ⟨_, rfl, ?_⟩
    refine go rfl ⟨_, rfl, ?_⟩
    refine go rfl ⟨_, _, _, _, rfl, rfl, rfl, ?_⟩
    refine go rfl ⟨_, _, _, rfl, rfl, rfl, rfl, rfl, ⟨0, rfl, rfl, ?_⟩⟩
    refine go rfl ⟨_, _, _, rfl, fun c3 => ?_, fun c3 => ?_⟩
    · refine go rfl ?_
      refine go rfl ⟨_, rfl, rfl, rfl, (Or.inl rfl), ?_⟩
      rw [← hF]
      exact hp
    · exact absurd (nI_le (Nat.le_refl _) (by decide)) c3
  · exact absurd (nI_lt (by decide) (by decide)) c2
-- LadderWords$Squares.find(I)Z
def sp_Q_find : mx_Sp := fun As F P => ∃ (sz wt n : Int32) (f : Nat → Int64), As = [mx_r 15, mx_i n] ∧ F 3 = some (e_W 0) ∧ F 15 = some (e_Q sz wt) ∧ F 17 = some (mx_qa 2 5 qo) ∧ F 24 = some (mx_la 5 f) ∧ (∀ x, P (some (mx_i (nI 0))) (mx_put F 15 x)) ∧ (∀ x y, P (some (mx_i (nI 0))) (mx_put (mx_put F 15 x) 24 y))
theorem d_Q_find_0 : decode c_Q_find 0 = .ok (.aload_n 0, 1) := by decide +kernel
theorem d_Q_find_1 : decode c_Q_find 1 = .ok (.iconst 0, 1) := by decide +kernel
theorem d_Q_find_2 : decode c_Q_find 2 = .ok (.putfield 27, 3) := by decide +kernel
theorem d_Q_find_5 : decode c_Q_find 5 = .ok (.iload_n 1, 1) := by decide +kernel
theorem d_Q_find_6 : decode c_Q_find 6 = .ok (.iconst 2, 1) := by decide +kernel
theorem d_Q_find_7 : decode c_Q_find 7 = .ok (.if_icmp .lt 8, 3) := by decide +kernel
theorem d_Q_find_10 : decode c_Q_find 10 = .ok (.iload_n 1, 1) := by decide +kernel
theorem d_Q_find_11 : decode c_Q_find 11 = .ok (.iconst 5, 1) := by decide +kernel
theorem d_Q_find_12 : decode c_Q_find 12 = .ok (.if_icmp .le 5, 3) := by decide +kernel
theorem d_Q_find_15 : decode c_Q_find 15 = .ok (.iconst 0, 1) := by decide +kernel
theorem d_Q_find_16 : decode c_Q_find 16 = .ok (.ireturn, 1) := by decide +kernel
theorem d_Q_find_17 : decode c_Q_find 17 = .ok (.aload_n 0, 1) := by decide +kernel
theorem d_Q_find_18 : decode c_Q_find 18 = .ok (.iload_n 1, 1) := by decide +kernel
theorem d_Q_find_19 : decode c_Q_find 19 = .ok (.invokevirtual 31, 3) := by decide +kernel
theorem d_Q_find_22 : decode c_Q_find 22 = .ok (.aload_n 0, 1) := by decide +kernel
theorem d_Q_find_23 : decode c_Q_find 23 = .ok (.iconst 0, 1) := by decide +kernel
theorem d_Q_find_24 : decode c_Q_find 24 = .ok (.iload_n 1, 1) := by decide +kernel
theorem d_Q_find_25 : decode c_Q_find 25 = .ok (.invokevirtual 35, 3) := by decide +kernel
theorem d_Q_find_28 : decode c_Q_find 28 = .ok (.ifCond .ne 5, 3) := by decide +kernel
theorem d_Q_find_31 : decode c_Q_find 31 = .ok (.iconst 0, 1) := by decide +kernel
theorem d_Q_find_32 : decode c_Q_find 32 = .ok (.ireturn, 1) := by decide +kernel
abbrev w_Q_find : List Cond := mx_ws y_Q_find c_Q_find 2 (some .boolean)
abbrev rm_Q_find : Room := { frames := 40, cells := 0, slots := 0, locals := 800 }
def t_Q_find  (P : Option mx_V → mx_F → Prop) : List (Nat × mx_O) := [
  (0, mx_aload 0 1),
  (1, mx_push (.inl (nI 0)) 2),
  (2, mx_puti 4 4 5),
  (5, mx_iload 1 6),
  (6, mx_push (.inl (nI 2)) 7),
  (7, mx_ic_lt 15 10),
  (10, mx_iload 1 11),
  (11, mx_push (.inl (nI 5)) 12),
  (12, mx_ic_le 17 15),
  (15, mx_push (.inl (nI 0)) 16),
  (16, mx_zret P),
  (17, mx_aload 0 18),
  (18, mx_iload 1 19),
  (19, mx_cv1 4 sp_Q_openAll 0 0 22),
  (22, mx_aload 0 23),
  (23, mx_push (.inl (nI 0)) 24),
  (24, mx_iload 1 25),
  (25, mx_cv2 4 sp_Q_complete 0 0 28),
  (28, mx_if_ne 33 31),
  (31, mx_push (.inl (nI 0)) 32),
  (32, mx_zret P)]
set_option maxRecDepth 20000 in
theorem a_Q_find  {p : Program} {l : Launch} {e : Env} {s : State} {m : MethodId} {args : Array Value} {below : List Frame} {meth : Method} {c : Code} {D : va_G} {tc : Nat → ClassId} {tb : Nat → Nat} {sz : Nat} {a0 : Nat → Nat} {G : mx_F} {P : Option mx_V → mx_F → Prop}  (C : mx_C p s m args c c_Q_find y_Q_find.cls w_Q_find D tc tb (mx_A a0 G sz) 2 (mx_Ok0 a0 G)) (hr : meth.sig.returnType = (some .boolean)) (hlk : meth.locks = false) : mx_all (mx_W p l e rm_Q_find s m args below meth c (MQ below (mx_Q D tc tb a0 G sz P) args s 0 0 (mx_A a0 G sz)) D tc tb (mx_A a0 G sz) 2 (mx_Ok0 a0 G)) (t_Q_find  P) :=
  ⟨mx_s_aload_n C d_Q_find_0 rfl,
  mx_s_iconst C d_Q_find_1 (by decide),
  mx_s_puti (T := T_Q) (N := 6) (k := 4) C (fun w h => List.mem_cons_of_mem _ (in_Q w h)) rfl ty_Q ok_Q nm_Q (by decide) (List.mem_cons_of_mem _ (mx_in0 (by decide +kernel) rfl)) rfl rfl (ok_Q 4 (by decide)) d_Q_find_2,
  mx_s_iload_n C d_Q_find_5 rfl,
  mx_s_iconst C d_Q_find_6 (by decide),
  mx_s_ic_lt C d_Q_find_7 (by decide),
  mx_s_iload_n C d_Q_find_10 rfl,
  mx_s_iconst C d_Q_find_11 (by decide),
  mx_s_ic_le C d_Q_find_12 (by decide),
  mx_s_iconst C d_Q_find_15 (by decide),
  mx_s_zret C hr hlk d_Q_find_16,
  mx_s_aload_n C d_Q_find_17 rfl,
  mx_s_iload_n C d_Q_find_18 rfl,
  mx_s_cv1 C (m_Q_openAll l) rfl (cwV 1 C.2.2.2.2.1 (mx_gV (fun w h => List.mem_cons_of_mem _ h) (mx_in0 (by decide +kernel) rfl) (mx_in0 (by decide +kernel) rfl) (mx_in0 (by decide +kernel) rfl) (mx_in0 (by decide +kernel) rfl) (mx_in0 (by decide +kernel) rfl)) rfl rfl rfl (by decide +kernel) ⟨by decide, by decide⟩) d_Q_find_19 ⟨Nat.zero_le _, Nat.zero_le _⟩,
  mx_s_aload_n C d_Q_find_22 rfl,
  mx_s_iconst C d_Q_find_23 (by decide),
  mx_s_iload_n C d_Q_find_24 rfl,
  mx_s_cv2 C (m_Q_complete l) rfl (cwV 2 C.2.2.2.2.1 (mx_gV (fun w h => List.mem_cons_of_mem _ h) (mx_in0 (by decide +kernel) rfl) (mx_in0 (by decide +kernel) rfl) (mx_in0 (by decide +kernel) rfl) (mx_in0 (by decide +kernel) rfl) (mx_in0 (by decide +kernel) rfl)) rfl rfl rfl (by decide +kernel) ⟨by decide, by decide⟩) d_Q_find_25 ⟨Nat.zero_le _, Nat.zero_le _⟩,
  mx_s_if_ne C d_Q_find_28 (by decide),
  mx_s_iconst C d_Q_find_31 (by decide),
  mx_s_zret C hr hlk d_Q_find_32,
  trivial⟩
set_option maxRecDepth 20000 in
set_option maxHeartbeats 2000000 in
theorem m_Q_find (l : Launch) : mx_M l y_Q_find w_Q_find rm_Q_find sp_Q_find := by
  intro D tc tb ad As F P sz0 h
  obtain ⟨sz, wt, n, f, rfl, h3, h15, h17, h24, hz, ho⟩ := h
  refine mx_run (cc := c_Q_find) (maxL := 2) (ret := (some .boolean)) (tab := t_Q_find  P) (by decide) rfl D tc tb ad _ F P sz0 (Nat.le_of_ble_eq_true rfl) (fun p e s m args below meth c C hr hlk => a_Q_find  C hr hlk) ?_
  intro Rr go
  have hF := mx_as4 h3 h15 h17 h24
  rw [hF]
  refine go rfl ⟨_, rfl, ?_⟩
  refine go rfl ?_
  refine go rfl ⟨_, _, _, _, rfl, rfl, (Nat.le_of_ble_eq_true rfl), ?_⟩
  refine go rfl ⟨_, rfl, ?_⟩
  refine go rfl ?_
  refine go rfl ⟨_, _, _, rfl, fun c1 => ?_, fun c1 => ?_⟩
  · refine go rfl ?_
    refine go rfl ⟨_, rfl, rfl, rfl, (Or.inl rfl), ?_⟩
    rw [← hF]
    exact hz _
  refine go rfl ⟨_, rfl, ?_⟩
  refine go rfl ?_
  refine go rfl ⟨_, _, _, rfl, fun c2 => ?_, fun c2 => ?_⟩
  · obtain ⟨k, hk, rfl⟩ := nI_of2 (x := n) (M := nI 5) (n := 5) rfl (fun h => c1 (Int32.lt_trans h (by decide))) c2
    have hk2 : 2 ≤ k := by
      rcases Nat.lt_or_ge k 2 with q | q
      · exact absurd (nI_lt q (by decide)) c1
      · exact q
    refine go rfl ⟨_, rfl, ?_⟩
    refine go rfl ⟨_, rfl, ?_⟩
    refine go rfl ⟨_, _, _, _, rfl, rfl, rfl, rfl, rfl, ⟨_, _, k, f, rfl, hk, rfl, rfl, rfl, rfl, fun f' => ?_⟩⟩
    refine go rfl ⟨_, rfl, ?_⟩
    refine go rfl ?_
    refine go rfl ⟨_, rfl, ?_⟩
    refine go rfl ⟨_, _, _, _, _, rfl, rfl, rfl, rfl, rfl, ⟨_, _, k, rfl, by omega, hk, rfl, rfl, ?_⟩⟩
    refine go rfl ⟨_, _, rfl, fun c3 => ?_, fun c3 => ?_⟩
    · exact absurd rfl c3
    refine go rfl ?_
    refine go rfl ⟨_, rfl, rfl, rfl, (Or.inl rfl), ?_⟩
    rw [← hF]
    exact ho _ _
  · refine go rfl ?_
    refine go rfl ⟨_, rfl, rfl, rfl, (Or.inl rfl), ?_⟩
    rw [← hF]
    exact hz _
-- LadderWords.square(I)Z
def sp_L_square : mx_Sp := fun As F P => ∃ (sz wt n : Int32) (f : Nat → Int64), As = [mx_r 0, mx_i n] ∧ F 0 = some e_L ∧ F 3 = some (e_W 0) ∧ F 15 = some (e_Q sz wt) ∧ F 17 = some (mx_qa 2 5 qo) ∧ F 24 = some (mx_la 5 f) ∧ (∀ x, P (some (mx_i (nI 0))) (mx_put F 15 x)) ∧ (∀ x y, P (some (mx_i (nI 0))) (mx_put (mx_put F 15 x) 24 y))
theorem d_L_square_0 : decode c_L_square 0 = .ok (.aload_n 0, 1) := by decide +kernel
theorem d_L_square_1 : decode c_L_square 1 = .ok (.getfield 42, 3) := by decide +kernel
theorem d_L_square_4 : decode c_L_square 4 = .ok (.iload_n 1, 1) := by decide +kernel
theorem d_L_square_5 : decode c_L_square 5 = .ok (.invokevirtual 86, 3) := by decide +kernel
theorem d_L_square_8 : decode c_L_square 8 = .ok (.ireturn, 1) := by decide +kernel
abbrev w_L_square : List Cond := mx_ws y_L_square c_L_square 2 (some .boolean)
abbrev rm_L_square : Room := { frames := 50, cells := 0, slots := 0, locals := 1000 }
def t_L_square  (P : Option mx_V → mx_F → Prop) : List (Nat × mx_O) := [
  (0, mx_aload 0 1),
  (1, mx_get 6 4 4),
  (4, mx_iload 1 5),
  (5, mx_cv1 4 sp_Q_find 0 0 8),
  (8, mx_zret P)]
set_option maxRecDepth 20000 in
theorem a_L_square  {p : Program} {l : Launch} {e : Env} {s : State} {m : MethodId} {args : Array Value} {below : List Frame} {meth : Method} {c : Code} {D : va_G} {tc : Nat → ClassId} {tb : Nat → Nat} {sz : Nat} {a0 : Nat → Nat} {G : mx_F} {P : Option mx_V → mx_F → Prop}  (C : mx_C p s m args c c_L_square y_L_square.cls w_L_square D tc tb (mx_A a0 G sz) 2 (mx_Ok0 a0 G)) (hr : meth.sig.returnType = (some .boolean)) (hlk : meth.locks = false) : mx_all (mx_W p l e rm_L_square s m args below meth c (MQ below (mx_Q D tc tb a0 G sz P) args s 0 0 (mx_A a0 G sz)) D tc tb (mx_A a0 G sz) 2 (mx_Ok0 a0 G)) (t_L_square  P) :=
  ⟨mx_s_aload_n C d_L_square_0 rfl,
  mx_s_get (T := T_L) (N := 6) (k := 4) C (fun w h => List.mem_cons_of_mem _ (in_L w h)) rfl (by decide) (List.mem_cons_of_mem _ (mx_in0 (by decide +kernel) rfl)) rfl d_L_square_1,
  mx_s_iload_n C d_L_square_4 rfl,
  mx_s_cv1 C (m_Q_find l) rfl (cwV 1 C.2.2.2.2.1 (mx_gV (fun w h => List.mem_cons_of_mem _ h) (mx_in0 (by decide +kernel) rfl) (mx_in0 (by decide +kernel) rfl) (mx_in0 (by decide +kernel) rfl) (mx_in0 (by decide +kernel) rfl) (mx_in0 (by decide +kernel) rfl)) rfl rfl rfl (by decide +kernel) ⟨by decide, by decide⟩) d_L_square_5 ⟨Nat.zero_le _, Nat.zero_le _⟩,
  mx_s_zret C hr hlk d_L_square_8,
  trivial⟩
set_option maxRecDepth 20000 in
set_option maxHeartbeats 2000000 in
theorem m_L_square (l : Launch) : mx_M l y_L_square w_L_square rm_L_square sp_L_square := by
  intro D tc tb ad As F P sz0 h
  obtain ⟨sz, wt, n, f, rfl, h0, h3, h15, h17, h24, hz, ho⟩ := h
  refine mx_run (cc := c_L_square) (maxL := 2) (ret := (some .boolean)) (tab := t_L_square  P) (by decide) rfl D tc tb ad _ F P sz0 (Nat.le_of_ble_eq_true rfl) (fun p e s m args below meth c C hr hlk => a_L_square  C hr hlk) ?_
  intro Rr go
  have hF := mx_as5 h0 h3 h15 h17 h24
  rw [hF]
  refine go rfl ⟨_, rfl, ?_⟩
  refine go rfl ⟨_, _, _, _, rfl, rfl, rfl, ?_⟩
  refine go rfl ⟨_, rfl, ?_⟩
  refine go rfl ⟨_, _, _, _, rfl, rfl, rfl, rfl, rfl, ⟨sz, wt, n, f, rfl, rfl, rfl, rfl, rfl, fun x => ?_, fun x y => ?_⟩⟩
  · refine go rfl ⟨_, rfl, rfl, rfl, (Or.inl rfl), ?_⟩
    rw [← hF]
    exact hz x
  · refine go rfl ⟨_, rfl, rfl, rfl, (Or.inl rfl), ?_⟩
    rw [← hF]
    exact ho x y
