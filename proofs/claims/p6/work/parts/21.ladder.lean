theorem oi_b {n : Nat} {R : Nat → Nat → Prop} {t d w : Nat} (hd : d ≤ 60) : ∀ j, de n R t d w = some j → j < 2 ^ 31 := fun j h => by
  have := de_le h
  omega
theorem po_b {n : Nat} {R : Nat → Nat → Prop} {t d a b w : Nat} (hd : d ≤ 60) : ∀ j, po n R t d a b w = some j → j < 2 ^ 31 := fun j h => by
  cases hq : de n R t d w with
  | some k =>
    rw [po_old hq] at h
    cases h
    have := de_le hq
    omega
  | none =>
    rcases po_new (a := a) (b := b) hq with q | q
    · rw [q] at h
      cases h
    · rw [q] at h
      cases h
      omega
-- LadderWords$Ladders.spread(II)V
def sp_D_spread : mx_Sp := fun As F P => ∃ (n : Nat) (N : Nat → Nat) (ch : Nat → Nat → Int32) (S : Nat → Nat) (lt st : Nat → Int32) (rc : Int32) (sh : Int64) (wt : Int32) (ds : Nat → Int32) (cs : Nat → Int64) (kd t d a : Nat), As = [mx_r 6, mx_i (nI a), mx_i (nI kd)] ∧ F 3 = some (e_W n) ∧ F 4 = some (mx_ia 360 lt) ∧ F 5 = some (mx_ia 61 st) ∧ wst n N ch S lt st ∧ F 6 = some (e_D rc sh wt) ∧ F 7 = some (mx_ia 60 ds) ∧ F 8 = some (mx_la 60 cs) ∧ a < n ∧ kd ≤ 1 ∧ d < 60 ∧ de n (stepP N ch kd) t d a = some d ∧ (∀ w, w < n → ds w = oi (po n (stepP N ch kd) t d a 0 w)) ∧ ∀ ds' cs', (∀ w, w < n → ds' w = oi (po n (stepP N ch kd) t d a n w)) → P none (mx_put (mx_put F 7 (mx_ia 60 ds')) 8 (mx_la 60 cs'))
theorem d_D_spread_0 : decode c_D_spread 0 = .ok (.aload_n 0, 1) := by decide +kernel
theorem d_D_spread_1 : decode c_D_spread 1 = .ok (.getfield 9, 3) := by decide +kernel
theorem d_D_spread_4 : decode c_D_spread 4 = .ok (.iload_n 1, 1) := by decide +kernel
theorem d_D_spread_5 : decode c_D_spread 5 = .ok (.iaload, 1) := by decide +kernel
theorem d_D_spread_6 : decode c_D_spread 6 = .ok (.iconst 1, 1) := by decide +kernel
theorem d_D_spread_7 : decode c_D_spread 7 = .ok (.iadd, 1) := by decide +kernel
theorem d_D_spread_8 : decode c_D_spread 8 = .ok (.istore_n 3, 1) := by decide +kernel
theorem d_D_spread_9 : decode c_D_spread 9 = .ok (.iconst 0, 1) := by decide +kernel
theorem d_D_spread_10 : decode c_D_spread 10 = .ok (.istore 4, 2) := by decide +kernel
theorem d_D_spread_12 : decode c_D_spread 12 = .ok (.iload 4, 2) := by decide +kernel
theorem d_D_spread_14 : decode c_D_spread 14 = .ok (.aload_n 0, 1) := by decide +kernel
theorem d_D_spread_15 : decode c_D_spread 15 = .ok (.getfield 22, 3) := by decide +kernel
theorem d_D_spread_18 : decode c_D_spread 18 = .ok (.invokevirtual 48, 3) := by decide +kernel
theorem d_D_spread_21 : decode c_D_spread 21 = .ok (.if_icmp .ge 81, 3) := by decide +kernel
theorem d_D_spread_24 : decode c_D_spread 24 = .ok (.aload_n 0, 1) := by decide +kernel
theorem d_D_spread_25 : decode c_D_spread 25 = .ok (.getfield 9, 3) := by decide +kernel
theorem d_D_spread_28 : decode c_D_spread 28 = .ok (.iload 4, 2) := by decide +kernel
theorem d_D_spread_30 : decode c_D_spread 30 = .ok (.iaload, 1) := by decide +kernel
theorem d_D_spread_31 : decode c_D_spread 31 = .ok (.iconst (-1), 1) := by decide +kernel
theorem d_D_spread_32 : decode c_D_spread 32 = .ok (.if_icmp .eq 14, 3) := by decide +kernel
theorem d_D_spread_35 : decode c_D_spread 35 = .ok (.aload_n 0, 1) := by decide +kernel
theorem d_D_spread_36 : decode c_D_spread 36 = .ok (.getfield 9, 3) := by decide +kernel
theorem d_D_spread_39 : decode c_D_spread 39 = .ok (.iload 4, 2) := by decide +kernel
theorem d_D_spread_41 : decode c_D_spread 41 = .ok (.iaload, 1) := by decide +kernel
theorem d_D_spread_42 : decode c_D_spread 42 = .ok (.iload_n 3, 1) := by decide +kernel
theorem d_D_spread_43 : decode c_D_spread 43 = .ok (.if_icmp .ne 7, 3) := by decide +kernel
theorem d_D_spread_46 : decode c_D_spread 46 = .ok (.iconst 1, 1) := by decide +kernel
theorem d_D_spread_47 : decode c_D_spread 47 = .ok (.goto 4, 3) := by decide +kernel
theorem d_D_spread_50 : decode c_D_spread 50 = .ok (.iconst 0, 1) := by decide +kernel
theorem d_D_spread_51 : decode c_D_spread 51 = .ok (.istore 5, 2) := by decide +kernel
theorem d_D_spread_53 : decode c_D_spread 53 = .ok (.iload 5, 2) := by decide +kernel
theorem d_D_spread_55 : decode c_D_spread 55 = .ok (.ifCond .eq 41, 3) := by decide +kernel
theorem d_D_spread_58 : decode c_D_spread 58 = .ok (.aload_n 0, 1) := by decide +kernel
theorem d_D_spread_59 : decode c_D_spread 59 = .ok (.getfield 22, 3) := by decide +kernel
theorem d_D_spread_62 : decode c_D_spread 62 = .ok (.iload 4, 2) := by decide +kernel
theorem d_D_spread_64 : decode c_D_spread 64 = .ok (.iload_n 1, 1) := by decide +kernel
theorem d_D_spread_65 : decode c_D_spread 65 = .ok (.iload_n 2, 1) := by decide +kernel
theorem d_D_spread_66 : decode c_D_spread 66 = .ok (.invokevirtual 58, 3) := by decide +kernel
theorem d_D_spread_69 : decode c_D_spread 69 = .ok (.ifCond .eq 27, 3) := by decide +kernel
theorem d_D_spread_72 : decode c_D_spread 72 = .ok (.aload_n 0, 1) := by decide +kernel
theorem d_D_spread_73 : decode c_D_spread 73 = .ok (.getfield 9, 3) := by decide +kernel
theorem d_D_spread_76 : decode c_D_spread 76 = .ok (.iload 4, 2) := by decide +kernel
theorem d_D_spread_78 : decode c_D_spread 78 = .ok (.iload_n 3, 1) := by decide +kernel
theorem d_D_spread_79 : decode c_D_spread 79 = .ok (.iastore, 1) := by decide +kernel
theorem d_D_spread_80 : decode c_D_spread 80 = .ok (.aload_n 0, 1) := by decide +kernel
theorem d_D_spread_81 : decode c_D_spread 81 = .ok (.getfield 15, 3) := by decide +kernel
theorem d_D_spread_84 : decode c_D_spread 84 = .ok (.iload 4, 2) := by decide +kernel
theorem d_D_spread_86 : decode c_D_spread 86 = .ok (.dup2, 1) := by decide +kernel
theorem d_D_spread_87 : decode c_D_spread 87 = .ok (.laload, 1) := by decide +kernel
theorem d_D_spread_88 : decode c_D_spread 88 = .ok (.aload_n 0, 1) := by decide +kernel
theorem d_D_spread_89 : decode c_D_spread 89 = .ok (.getfield 15, 3) := by decide +kernel
theorem d_D_spread_92 : decode c_D_spread 92 = .ok (.iload_n 1, 1) := by decide +kernel
theorem d_D_spread_93 : decode c_D_spread 93 = .ok (.laload, 1) := by decide +kernel
theorem d_D_spread_94 : decode c_D_spread 94 = .ok (.ladd, 1) := by decide +kernel
theorem d_D_spread_95 : decode c_D_spread 95 = .ok (.lastore, 1) := by decide +kernel
theorem d_D_spread_96 : decode c_D_spread 96 = .ok (.iinc 4 1, 3) := by decide +kernel
theorem d_D_spread_99 : decode c_D_spread 99 = .ok (.goto (-87), 3) := by decide +kernel
theorem d_D_spread_102 : decode c_D_spread 102 = .ok (.return_, 1) := by decide +kernel
abbrev w_D_spread : List Cond := mx_ws y_D_spread c_D_spread 6 none
abbrev rm_D_spread : Room := { frames := 40, cells := 0, slots := 0, locals := 800 }
def t_D_spread  (P : Option mx_V → mx_F → Prop) : List (Nat × mx_O) := [
  (0, mx_aload 0 1),
  (1, mx_get 2 1 4),
  (4, mx_iload 1 5),
  (5, mx_iald 6),
  (6, mx_push (.inl (nI 1)) 7),
  (7, mx_iadd 8),
  (8, mx_istore 3 9),
  (9, mx_push (.inl (nI 0)) 10),
  (10, mx_istore 4 12),
  (12, mx_iload 4 14),
  (14, mx_aload 0 15),
  (15, mx_get 2 0 18),
  (18, mx_cv0 5 sp_W_count 0 0 21),
  (21, mx_ic_ge 102 24),
  (24, mx_aload 0 25),
  (25, mx_get 2 1 28),
  (28, mx_iload 4 30),
  (30, mx_iald 31),
  (31, mx_push (.inl (-1)) 32),
  (32, mx_ic_eq 46 35),
  (35, mx_aload 0 36),
  (36, mx_get 2 1 39),
  (39, mx_iload 4 41),
  (41, mx_iald 42),
  (42, mx_iload 3 43),
  (43, mx_ic_ne 50 46),
  (46, mx_push (.inl (nI 1)) 47),
  (47, mx_goto 51),
  (50, mx_push (.inl (nI 0)) 51),
  (51, mx_istore 5 53),
  (53, mx_iload 5 55),
  (55, mx_if_eq 96 58),
  (58, mx_aload 0 59),
  (59, mx_get 2 0 62),
  (62, mx_iload 4 64),
  (64, mx_iload 1 65),
  (65, mx_iload 2 66),
  (66, mx_cv3 5 sp_W_isStep 0 0 69),
  (69, mx_if_eq 96 72),
  (72, mx_aload 0 73),
  (73, mx_get 2 1 76),
  (76, mx_iload 4 78),
  (78, mx_iload 3 79),
  (79, mx_iast 80),
  (80, mx_aload 0 81),
  (81, mx_get 2 2 84),
  (84, mx_iload 4 86),
  (86, mx_dup2 87),
  (87, mx_lald 88),
  (88, mx_aload 0 89),
  (89, mx_get 2 2 92),
  (92, mx_iload 1 93),
  (93, mx_lald 94),
  (94, mx_ladd 95),
  (95, mx_last 96),
  (96, mx_iinc 4 (nI 1) 99),
  (99, mx_goto 12),
  (102, mx_ret P)]
set_option maxRecDepth 20000 in
theorem a_D_spread  {p : Program} {l : Launch} {e : Env} {s : State} {m : MethodId} {args : Array Value} {below : List Frame} {meth : Method} {c : Code} {D : va_G} {tc : Nat → ClassId} {tb : Nat → Nat} {sz : Nat} {a0 : Nat → Nat} {G : mx_F} {P : Option mx_V → mx_F → Prop}  (C : mx_C p s m args c c_D_spread y_D_spread.cls w_D_spread D tc tb (mx_A a0 G sz) 6 (mx_Ok0 a0 G)) (hr : meth.sig.returnType = none) (hlk : meth.locks = false) : mx_all (mx_W p l e rm_D_spread s m args below meth c (MQ below (mx_Q D tc tb a0 G sz P) args s 0 0 (mx_A a0 G sz)) D tc tb (mx_A a0 G sz) 6 (mx_Ok0 a0 G)) (t_D_spread  P) :=
  ⟨mx_s_aload_n C d_D_spread_0 rfl,
  mx_s_get (T := T_D) (N := 7) (k := 1) C (fun w h => List.mem_cons_of_mem _ (in_D w h)) rfl (by decide) (List.mem_cons_of_mem _ fk_D_9) rfl d_D_spread_1,
  mx_s_iload_n C d_D_spread_4 rfl,
  mx_s_iald C d_D_spread_5,
  mx_s_iconst C d_D_spread_6 (by decide),
  mx_s_iadd C d_D_spread_7,
  mx_s_istore_n C d_D_spread_8 rfl (by decide),
  mx_s_iconst C d_D_spread_9 (by decide),
  mx_s_istore C d_D_spread_10 (by decide),
  mx_s_iload C d_D_spread_12,
  mx_s_aload_n C d_D_spread_14 rfl,
  mx_s_get (T := T_D) (N := 7) (k := 0) C (fun w h => List.mem_cons_of_mem _ (in_D w h)) rfl (by decide) (List.mem_cons_of_mem _ fk_D_22) rfl d_D_spread_15,
  mx_s_cv0 C (m_W_count l) rfl (cwV 0 C.2.2.2.2.1 (mx_gV (fun w h => List.mem_cons_of_mem _ h) mk_D_48 im_W_count se_W_count ic_W co_W_count) rfl rfl rfl (by decide +kernel) ⟨by decide, by decide⟩) d_D_spread_18 ⟨Nat.zero_le _, Nat.zero_le _⟩,
  mx_s_ic_ge C d_D_spread_21 (by decide),
  mx_s_aload_n C d_D_spread_24 rfl,
  mx_s_get (T := T_D) (N := 7) (k := 1) C (fun w h => List.mem_cons_of_mem _ (in_D w h)) rfl (by decide) (List.mem_cons_of_mem _ fk_D_9) rfl d_D_spread_25,
  mx_s_iload C d_D_spread_28,
  mx_s_iald C d_D_spread_30,
  mx_s_iconst C d_D_spread_31 (by decide),
  mx_s_ic_eq C d_D_spread_32 (by decide),
  mx_s_aload_n C d_D_spread_35 rfl,
  mx_s_get (T := T_D) (N := 7) (k := 1) C (fun w h => List.mem_cons_of_mem _ (in_D w h)) rfl (by decide) (List.mem_cons_of_mem _ fk_D_9) rfl d_D_spread_36,
  mx_s_iload C d_D_spread_39,
  mx_s_iald C d_D_spread_41,
  mx_s_iload_n C d_D_spread_42 rfl,
  mx_s_ic_ne C d_D_spread_43 (by decide),
  mx_s_iconst C d_D_spread_46 (by decide),
  mx_s_goto C d_D_spread_47 (by decide),
  mx_s_iconst C d_D_spread_50 (by decide),
  mx_s_istore C d_D_spread_51 (by decide),
  mx_s_iload C d_D_spread_53,
  mx_s_if_eq C d_D_spread_55 (by decide),
  mx_s_aload_n C d_D_spread_58 rfl,
  mx_s_get (T := T_D) (N := 7) (k := 0) C (fun w h => List.mem_cons_of_mem _ (in_D w h)) rfl (by decide) (List.mem_cons_of_mem _ fk_D_22) rfl d_D_spread_59,
  mx_s_iload C d_D_spread_62,
  mx_s_iload_n C d_D_spread_64 rfl,
  mx_s_iload_n C d_D_spread_65 rfl,
  mx_s_cv3 C (m_W_isStep l) rfl (cwV 3 C.2.2.2.2.1 (mx_gV (fun w h => List.mem_cons_of_mem _ h) mk_D_58 im_W_isStep se_W_isStep ic_W co_W_isStep) rfl rfl rfl (by decide +kernel) ⟨by decide, by decide⟩) d_D_spread_66 ⟨Nat.zero_le _, Nat.zero_le _⟩,
  mx_s_if_eq C d_D_spread_69 (by decide),
  mx_s_aload_n C d_D_spread_72 rfl,
  mx_s_get (T := T_D) (N := 7) (k := 1) C (fun w h => List.mem_cons_of_mem _ (in_D w h)) rfl (by decide) (List.mem_cons_of_mem _ fk_D_9) rfl d_D_spread_73,
  mx_s_iload C d_D_spread_76,
  mx_s_iload_n C d_D_spread_78 rfl,
  mx_s_iast C d_D_spread_79,
  mx_s_aload_n C d_D_spread_80 rfl,
  mx_s_get (T := T_D) (N := 7) (k := 2) C (fun w h => List.mem_cons_of_mem _ (in_D w h)) rfl (by decide) (List.mem_cons_of_mem _ fk_D_15) rfl d_D_spread_81,
  mx_s_iload C d_D_spread_84,
  mx_s_dup2 C d_D_spread_86,
  mx_s_lald C d_D_spread_87,
  mx_s_aload_n C d_D_spread_88 rfl,
  mx_s_get (T := T_D) (N := 7) (k := 2) C (fun w h => List.mem_cons_of_mem _ (in_D w h)) rfl (by decide) (List.mem_cons_of_mem _ fk_D_15) rfl d_D_spread_89,
  mx_s_iload_n C d_D_spread_92 rfl,
  mx_s_lald C d_D_spread_93,
  mx_s_ladd C d_D_spread_94,
  mx_s_last C d_D_spread_95,
  mx_s_iinc C d_D_spread_96 (by decide) (by decide),
  mx_s_goto C d_D_spread_99 (by decide),
  mx_s_ret C hr hlk d_D_spread_102,
  trivial⟩
set_option maxRecDepth 20000 in
set_option maxHeartbeats 2000000 in
theorem m_D_spread (l : Launch) : mx_M l y_D_spread w_D_spread rm_D_spread sp_D_spread := by
  intro zD ztc ztb zad As F P sz0 h
  obtain ⟨n, N, ch, S, lt, st, rc, sh, wt, ds, cs, kd, t, d, a, rfl, h3, h4, h5, hw, h6, h7, h8, ha, hk, hd, hda, hds, hp⟩ := h
  refine mx_run (cc := c_D_spread) (maxL := 6) (ret := none) (tab := t_D_spread  P) (by decide) rfl zD ztc ztb zad _ F P sz0 (Nat.le_of_ble_eq_true rfl) (fun p e s m args below meth c C hr hlk => a_D_spread  C hr hlk) ?_
  intro Rr go
  have hF : F = (mx_put (mx_put (mx_put (mx_put (mx_put (mx_put F 3 (e_W n)) 4 (mx_ia 360 lt)) 5 (mx_ia 61 st)) 6 (e_D rc sh wt)) 7 (mx_ia 60 ds)) 8 (mx_la 60 cs)) := by rw [mx_self h3, mx_self h4, mx_self h5, mx_self h6, mx_self h7, mx_self h8]
  have hX : (mx_put (mx_put (mx_put (mx_put F 3 (e_W n)) 4 (mx_ia 360 lt)) 5 (mx_ia 61 st)) 6 (e_D rc sh wt)) = F := by rw [mx_self h3, mx_self h4, mx_self h5, mx_self h6]
  rw [hF]
  have hn := hw.1.1
  have loop : ∀ (m b : Nat) (ds' : Nat → Int32) (cs' : Nat → Int64) (jk : Option mx_V), b + m = n → (∀ w, w < n → ds' w = oi (po n (stepP N ch kd) t d a b w)) → Rr 12 [some (mx_r 6), some (mx_i (nI a)), some (mx_i (nI kd)), some (mx_i (nI (d + 1))), some (mx_i (nI b)), jk] [] (mx_put (mx_put (mx_put (mx_put (mx_put (mx_put F 3 (e_W n)) 4 (mx_ia 360 lt)) 5 (mx_ia 61 st)) 6 (e_D rc sh wt)) 7 (mx_ia 60 ds')) 8 (mx_la 60 cs')) 0 0 := by
    intro m
    induction m with
    | zero =>
      intro b ds' cs' jk hb hq
      refine go rfl ⟨_, rfl, ?_⟩
      refine go rfl ⟨_, rfl, ?_⟩
      refine go rfl ⟨_, _, _, _, rfl, rfl, rfl, ?_⟩
      refine go rfl ⟨_, _, _, rfl, rfl, rfl, rfl, rfl, ⟨n, rfl, rfl, ?_⟩⟩
      refine go rfl ⟨_, _, _, rfl, fun c => ?_, fun c => ?_⟩
      · refine go rfl ⟨rfl, rfl, rfl, ?_⟩
        rw [hX]
        exact hp ds' cs' (fun w hw2 => by rw [hq w hw2, show b = n by omega])
      · exact absurd (nI_le (by omega) (by omega)) c
    | succ m ih =>
      intro b ds' cs' jk hb hq
      refine go rfl ⟨_, rfl, ?_⟩
      refine go rfl ⟨_, rfl, ?_⟩
      refine go rfl ⟨_, _, _, _, rfl, rfl, rfl, ?_⟩
      refine go rfl ⟨_, _, _, rfl, rfl, rfl, rfl, rfl, ⟨n, rfl, rfl, ?_⟩⟩
      refine go rfl ⟨_, _, _, rfl, fun c => ?_, fun c => ?_⟩
      · exact absurd ((nI_leI (by omega) (by omega)).mp c) (by omega)
      have hb1 : b < n := by omega
      have skip : po n (stepP N ch kd) t d a (b + 1) b = po n (stepP N ch kd) t d a b b → ∀ jk : Option mx_V, Rr 96 [some (mx_r 6), some (mx_i (nI a)), some (mx_i (nI kd)), some (mx_i (nI (d + 1))), some (mx_i (nI b)), jk] [] (mx_put (mx_put (mx_put (mx_put (mx_put (mx_put F 3 (e_W n)) 4 (mx_ia 360 lt)) 5 (mx_ia 61 st)) 6 (e_D rc sh wt)) 7 (mx_ia 60 ds')) 8 (mx_la 60 cs')) 0 0 := by
        intro hs jk
        refine go rfl ⟨_, rfl, ?_⟩
        refine go rfl ?_
        rw [nI_add]
        refine ih (b + 1) ds' cs' _ (by omega) (fun w hw2 => ?_)
        rw [hq w hw2]
        by_cases e : w = b
        · rw [e, hs]
        · rw [po_same e]
      refine go rfl ⟨_, rfl, ?_⟩
      refine go rfl ⟨_, _, _, _, rfl, rfl, rfl, ?_⟩
      refine go rfl ⟨_, rfl, ?_⟩
      refine go rfl ⟨_, _, _, _, _, rfl, rfl, (vp_in_nI (show b < 60 by omega) (by omega)), ?_⟩
      rw [nI_clamp (by omega), hq b hb1]
      refine go rfl ?_
      have op : de n (stepP N ch kd) t d b = none → Rr 46 [some (mx_r 6), some (mx_i (nI a)), some (mx_i (nI kd)), some (mx_i (nI (d + 1))), some (mx_i (nI b)), jk] [] (mx_put (mx_put (mx_put (mx_put (mx_put (mx_put F 3 (e_W n)) 4 (mx_ia 360 lt)) 5 (mx_ia 61 st)) 6 (e_D rc sh wt)) 7 (mx_ia 60 ds')) 8 (mx_la 60 cs')) 0 0 := by
        intro hno
        refine go rfl ?_
        refine go rfl ?_
        refine go rfl ⟨_, _, rfl, ?_⟩
        refine go rfl ⟨_, rfl, ?_⟩
        refine go rfl ⟨_, _, rfl, fun e => ?_, fun e => ?_⟩
        · exact absurd e (by decide)
        refine go rfl ⟨_, rfl, ?_⟩
        refine go rfl ⟨_, _, _, _, rfl, rfl, rfl, ?_⟩
        refine go rfl ⟨_, rfl, ?_⟩
        refine go rfl ⟨_, rfl, ?_⟩
        refine go rfl ⟨_, rfl, ?_⟩
        refine go rfl ⟨_, _, _, _, _, _, rfl, rfl, rfl, rfl, rfl, ⟨n, N, ch, S, lt, st, b, a, kd, rfl, rfl, rfl, rfl, hw, hb1, ha, hk, fun hs => ?_, fun hs => ?_⟩⟩
        · refine go rfl ⟨_, _, rfl, fun e2 => ?_, fun e2 => ?_⟩
          · exact absurd e2 (by decide)
          refine go rfl ⟨_, rfl, ?_⟩
          refine go rfl ⟨_, _, _, _, rfl, rfl, rfl, ?_⟩
          refine go rfl ⟨_, rfl, ?_⟩
          refine go rfl ⟨_, rfl, ?_⟩
          refine go rfl ⟨_, _, _, _, _, _, rfl, rfl, (vp_in_nI (show b < 60 by omega) (by omega)), ?_⟩
          rw [nI_clamp (by omega), mx_pc _ _ _ (show (7 : Nat) ≠ 8 by decide), mx_pp]
          refine go rfl ⟨_, rfl, ?_⟩
          refine go rfl ⟨_, _, _, _, rfl, rfl, rfl, ?_⟩
          refine go rfl ⟨_, rfl, ?_⟩
          refine go rfl ⟨_, _, _, rfl, rfl, rfl, ?_⟩
          refine go rfl ⟨_, _, _, _, _, rfl, rfl, (vp_in_nI (show b < 60 by omega) (by omega)), ?_⟩
          refine go rfl ⟨_, rfl, ?_⟩
          refine go rfl ⟨_, _, _, _, rfl, rfl, rfl, ?_⟩
          refine go rfl ⟨_, rfl, ?_⟩
          refine go rfl ⟨_, _, _, _, _, rfl, rfl, (vp_in_nI (show a < 60 by omega) (by omega)), ?_⟩
          refine go rfl ⟨_, _, _, rfl, ?_⟩
          refine go rfl ⟨_, _, _, _, _, _, rfl, rfl, (vp_in_nI (show b < 60 by omega) (by omega)), ?_⟩
          rw [mx_pp]
          refine go rfl ⟨_, rfl, ?_⟩
          refine go rfl ?_
          rw [nI_add]
          refine ih (b + 1) _ _ _ (by omega) (fun w hw2 => ?_)
          by_cases e : w = b
          · rw [e, pk_us, po_set hno hda (stepP_c hs)]
            rfl
          · rw [pk_un e, po_same e]
            exact hq w hw2
        · refine go rfl ⟨_, _, rfl, fun e2 => ?_, fun e2 => ?_⟩
          · exact skip (po_nost (fun h => hs (stepP_c h))) _
          · exact absurd rfl e2
      refine go rfl ⟨_, _, _, rfl, fun e1 => ?_, fun e1 => ?_⟩
      · refine op ?_
        have e1 := (oi_m1 (po_b (by omega))).mp e1
        cases hq2 : de n (stepP N ch kd) t d b with
        | none => rfl
        | some k =>
          rw [po_old hq2] at e1
          cases e1
      refine go rfl ⟨_, rfl, ?_⟩
      refine go rfl ⟨_, _, _, _, rfl, rfl, rfl, ?_⟩
      refine go rfl ⟨_, rfl, ?_⟩
      refine go rfl ⟨_, _, _, _, _, rfl, rfl, (vp_in_nI (show b < 60 by omega) (by omega)), ?_⟩
      rw [nI_clamp (by omega), hq b hb1]
      refine go rfl ⟨_, rfl, ?_⟩
      refine go rfl ⟨_, _, _, rfl, fun e2 => ?_, fun e2 => ?_⟩
      · cases hq2 : de n (stepP N ch kd) t d b with
        | some k =>
          refine go rfl ?_
          refine go rfl ⟨_, _, rfl, ?_⟩
          refine go rfl ⟨_, rfl, ?_⟩
          refine go rfl ⟨_, _, rfl, fun e3 => ?_, fun e3 => ?_⟩
          · exact skip (by rw [po_old hq2, po_old hq2]) _
          · exact absurd rfl e3
        | none =>
          exfalso
          rcases po_new (a := a) (b := b) hq2 with q | q
          · rw [q] at e1
            exact e1 rfl
          · rw [q] at e2
            exact e2 rfl
      · refine op ?_
        have e2 := (oi_eq (by omega) (po_b (by omega))).mp e2
        cases hq2 : de n (stepP N ch kd) t d b with
        | none => rfl
        | some k =>
          rw [po_old hq2] at e2
          cases e2
          have := de_le hq2
          omega
  refine go rfl ⟨_, rfl, ?_⟩
  refine go rfl ⟨_, _, _, _, rfl, rfl, rfl, ?_⟩
  refine go rfl ⟨_, rfl, ?_⟩
  refine go rfl ⟨_, _, _, _, _, rfl, rfl, (vp_in_nI (show a < 60 by omega) (by omega)), ?_⟩
  rw [nI_clamp (by omega), hds a ha, po_old hda]
  show Rr 6 _ [mx_i (nI d)] _ 0 0
  refine go rfl ?_
  refine go rfl ⟨_, _, _, rfl, ?_⟩
  rw [nI_add]
  refine go rfl ⟨_, _, rfl, ?_⟩
  refine go rfl ?_
  refine go rfl ⟨_, _, rfl, ?_⟩
  exact loop n 0 ds cs none (by omega) hds
-- LadderWords$Ladders.measure(III)V
def sp_D_measure : mx_Sp := fun As F P => ∃ (n : Nat) (N : Nat → Nat) (ch : Nat → Nat → Int32) (S : Nat → Nat) (lt st : Nat → Int32) (rc : Int32) (sh : Int64) (wt : Int32) (ds : Nat → Int32) (cs : Nat → Int64) (kd t a : Nat), As = [mx_r 6, mx_i (nI a), mx_i (nI t), mx_i (nI kd)] ∧ F 3 = some (e_W n) ∧ F 4 = some (mx_ia 360 lt) ∧ F 5 = some (mx_ia 61 st) ∧ wst n N ch S lt st ∧ F 6 = some (e_D rc sh wt) ∧ F 7 = some (mx_ia 60 ds) ∧ F 8 = some (mx_la 60 cs) ∧ a < n ∧ t < n ∧ kd ≤ 1 ∧ ∀ ds' cs' D, D ≤ n → (∀ w, w < n → ds' w = oi (de n (stepP N ch kd) t D w)) → (∀ e, e < D → de n (stepP N ch kd) t e a = none) → (D = n ∨ ¬ de n (stepP N ch kd) t D a = none) → P none (mx_put (mx_put F 7 (mx_ia 60 ds')) 8 (mx_la 60 cs'))
theorem d_D_measure_0 : decode c_D_measure 0 = .ok (.iconst 0, 1) := by decide +kernel
theorem d_D_measure_1 : decode c_D_measure 1 = .ok (.istore 4, 2) := by decide +kernel
theorem d_D_measure_3 : decode c_D_measure 3 = .ok (.iload 4, 2) := by decide +kernel
theorem d_D_measure_5 : decode c_D_measure 5 = .ok (.aload_n 0, 1) := by decide +kernel
theorem d_D_measure_6 : decode c_D_measure 6 = .ok (.getfield 22, 3) := by decide +kernel
theorem d_D_measure_9 : decode c_D_measure 9 = .ok (.invokevirtual 48, 3) := by decide +kernel
theorem d_D_measure_12 : decode c_D_measure 12 = .ok (.if_icmp .ge 25, 3) := by decide +kernel
theorem d_D_measure_15 : decode c_D_measure 15 = .ok (.aload_n 0, 1) := by decide +kernel
theorem d_D_measure_16 : decode c_D_measure 16 = .ok (.getfield 9, 3) := by decide +kernel
theorem d_D_measure_19 : decode c_D_measure 19 = .ok (.iload 4, 2) := by decide +kernel
theorem d_D_measure_21 : decode c_D_measure 21 = .ok (.iconst (-1), 1) := by decide +kernel
theorem d_D_measure_22 : decode c_D_measure 22 = .ok (.iastore, 1) := by decide +kernel
theorem d_D_measure_23 : decode c_D_measure 23 = .ok (.aload_n 0, 1) := by decide +kernel
theorem d_D_measure_24 : decode c_D_measure 24 = .ok (.getfield 15, 3) := by decide +kernel
theorem d_D_measure_27 : decode c_D_measure 27 = .ok (.iload 4, 2) := by decide +kernel
theorem d_D_measure_29 : decode c_D_measure 29 = .ok (.lconst 0, 1) := by decide +kernel
theorem d_D_measure_30 : decode c_D_measure 30 = .ok (.lastore, 1) := by decide +kernel
theorem d_D_measure_31 : decode c_D_measure 31 = .ok (.iinc 4 1, 3) := by decide +kernel
theorem d_D_measure_34 : decode c_D_measure 34 = .ok (.goto (-31), 3) := by decide +kernel
theorem d_D_measure_37 : decode c_D_measure 37 = .ok (.aload_n 0, 1) := by decide +kernel
theorem d_D_measure_38 : decode c_D_measure 38 = .ok (.getfield 9, 3) := by decide +kernel
theorem d_D_measure_41 : decode c_D_measure 41 = .ok (.iload_n 2, 1) := by decide +kernel
theorem d_D_measure_42 : decode c_D_measure 42 = .ok (.iconst 0, 1) := by decide +kernel
theorem d_D_measure_43 : decode c_D_measure 43 = .ok (.iastore, 1) := by decide +kernel
theorem d_D_measure_44 : decode c_D_measure 44 = .ok (.aload_n 0, 1) := by decide +kernel
theorem d_D_measure_45 : decode c_D_measure 45 = .ok (.getfield 15, 3) := by decide +kernel
theorem d_D_measure_48 : decode c_D_measure 48 = .ok (.iload_n 2, 1) := by decide +kernel
theorem d_D_measure_49 : decode c_D_measure 49 = .ok (.lconst 1, 1) := by decide +kernel
theorem d_D_measure_50 : decode c_D_measure 50 = .ok (.lastore, 1) := by decide +kernel
theorem d_D_measure_51 : decode c_D_measure 51 = .ok (.iconst 0, 1) := by decide +kernel
theorem d_D_measure_52 : decode c_D_measure 52 = .ok (.istore 4, 2) := by decide +kernel
theorem d_D_measure_54 : decode c_D_measure 54 = .ok (.iload 4, 2) := by decide +kernel
theorem d_D_measure_56 : decode c_D_measure 56 = .ok (.aload_n 0, 1) := by decide +kernel
theorem d_D_measure_57 : decode c_D_measure 57 = .ok (.getfield 22, 3) := by decide +kernel
theorem d_D_measure_60 : decode c_D_measure 60 = .ok (.invokevirtual 48, 3) := by decide +kernel
theorem d_D_measure_63 : decode c_D_measure 63 = .ok (.if_icmp .ge 59, 3) := by decide +kernel
theorem d_D_measure_66 : decode c_D_measure 66 = .ok (.aload_n 0, 1) := by decide +kernel
theorem d_D_measure_67 : decode c_D_measure 67 = .ok (.getfield 9, 3) := by decide +kernel
theorem d_D_measure_70 : decode c_D_measure 70 = .ok (.iload_n 1, 1) := by decide +kernel
theorem d_D_measure_71 : decode c_D_measure 71 = .ok (.iaload, 1) := by decide +kernel
theorem d_D_measure_72 : decode c_D_measure 72 = .ok (.iconst (-1), 1) := by decide +kernel
theorem d_D_measure_73 : decode c_D_measure 73 = .ok (.if_icmp .ne 49, 3) := by decide +kernel
theorem d_D_measure_76 : decode c_D_measure 76 = .ok (.iconst 0, 1) := by decide +kernel
theorem d_D_measure_77 : decode c_D_measure 77 = .ok (.istore 5, 2) := by decide +kernel
theorem d_D_measure_79 : decode c_D_measure 79 = .ok (.iload 5, 2) := by decide +kernel
theorem d_D_measure_81 : decode c_D_measure 81 = .ok (.aload_n 0, 1) := by decide +kernel
theorem d_D_measure_82 : decode c_D_measure 82 = .ok (.getfield 22, 3) := by decide +kernel
theorem d_D_measure_85 : decode c_D_measure 85 = .ok (.invokevirtual 48, 3) := by decide +kernel
theorem d_D_measure_88 : decode c_D_measure 88 = .ok (.if_icmp .ge 28, 3) := by decide +kernel
theorem d_D_measure_91 : decode c_D_measure 91 = .ok (.aload_n 0, 1) := by decide +kernel
theorem d_D_measure_92 : decode c_D_measure 92 = .ok (.getfield 9, 3) := by decide +kernel
theorem d_D_measure_95 : decode c_D_measure 95 = .ok (.iload 5, 2) := by decide +kernel
theorem d_D_measure_97 : decode c_D_measure 97 = .ok (.iaload, 1) := by decide +kernel
theorem d_D_measure_98 : decode c_D_measure 98 = .ok (.iload 4, 2) := by decide +kernel
theorem d_D_measure_100 : decode c_D_measure 100 = .ok (.if_icmp .ne 10, 3) := by decide +kernel
theorem d_D_measure_103 : decode c_D_measure 103 = .ok (.aload_n 0, 1) := by decide +kernel
theorem d_D_measure_104 : decode c_D_measure 104 = .ok (.iload 5, 2) := by decide +kernel
theorem d_D_measure_106 : decode c_D_measure 106 = .ok (.iload_n 3, 1) := by decide +kernel
theorem d_D_measure_107 : decode c_D_measure 107 = .ok (.invokevirtual 55, 3) := by decide +kernel
theorem d_D_measure_110 : decode c_D_measure 110 = .ok (.iinc 5 1, 3) := by decide +kernel
theorem d_D_measure_113 : decode c_D_measure 113 = .ok (.goto (-34), 3) := by decide +kernel
theorem d_D_measure_116 : decode c_D_measure 116 = .ok (.iinc 4 1, 3) := by decide +kernel
theorem d_D_measure_119 : decode c_D_measure 119 = .ok (.goto (-65), 3) := by decide +kernel
theorem d_D_measure_122 : decode c_D_measure 122 = .ok (.return_, 1) := by decide +kernel
abbrev w_D_measure : List Cond := mx_ws y_D_measure c_D_measure 6 none
abbrev rm_D_measure : Room := { frames := 50, cells := 0, slots := 0, locals := 1000 }
def t_D_measure  (P : Option mx_V → mx_F → Prop) : List (Nat × mx_O) := [
  (0, mx_push (.inl (nI 0)) 1),
  (1, mx_istore 4 3),
  (3, mx_iload 4 5),
  (5, mx_aload 0 6),
  (6, mx_get 2 0 9),
  (9, mx_cv0 5 sp_W_count 0 0 12),
  (12, mx_ic_ge 37 15),
  (15, mx_aload 0 16),
  (16, mx_get 2 1 19),
  (19, mx_iload 4 21),
  (21, mx_push (.inl (-1)) 22),
  (22, mx_iast 23),
  (23, mx_aload 0 24),
  (24, mx_get 2 2 27),
  (27, mx_iload 4 29),
  (29, mx_push (.inr (.inl 0)) 30),
  (30, mx_last 31),
  (31, mx_iinc 4 (nI 1) 34),
  (34, mx_goto 3),
  (37, mx_aload 0 38),
  (38, mx_get 2 1 41),
  (41, mx_iload 2 42),
  (42, mx_push (.inl (nI 0)) 43),
  (43, mx_iast 44),
  (44, mx_aload 0 45),
  (45, mx_get 2 2 48),
  (48, mx_iload 2 49),
  (49, mx_push (.inr (.inl 1)) 50),
  (50, mx_last 51),
  (51, mx_push (.inl (nI 0)) 52),
  (52, mx_istore 4 54),
  (54, mx_iload 4 56),
  (56, mx_aload 0 57),
  (57, mx_get 2 0 60),
  (60, mx_cv0 5 sp_W_count 0 0 63),
  (63, mx_ic_ge 122 66),
  (66, mx_aload 0 67),
  (67, mx_get 2 1 70),
  (70, mx_iload 1 71),
  (71, mx_iald 72),
  (72, mx_push (.inl (-1)) 73),
  (73, mx_ic_ne 122 76),
  (76, mx_push (.inl (nI 0)) 77),
  (77, mx_istore 5 79),
  (79, mx_iload 5 81),
  (81, mx_aload 0 82),
  (82, mx_get 2 0 85),
  (85, mx_cv0 5 sp_W_count 0 0 88),
  (88, mx_ic_ge 116 91),
  (91, mx_aload 0 92),
  (92, mx_get 2 1 95),
  (95, mx_iload 5 97),
  (97, mx_iald 98),
  (98, mx_iload 4 100),
  (100, mx_ic_ne 110 103),
  (103, mx_aload 0 104),
  (104, mx_iload 5 106),
  (106, mx_iload 3 107),
  (107, mx_cv2 2 sp_D_spread 0 0 110),
  (110, mx_iinc 5 (nI 1) 113),
  (113, mx_goto 79),
  (116, mx_iinc 4 (nI 1) 119),
  (119, mx_goto 54),
  (122, mx_ret P)]
set_option maxRecDepth 20000 in
theorem a_D_measure  {p : Program} {l : Launch} {e : Env} {s : State} {m : MethodId} {args : Array Value} {below : List Frame} {meth : Method} {c : Code} {D : va_G} {tc : Nat → ClassId} {tb : Nat → Nat} {sz : Nat} {a0 : Nat → Nat} {G : mx_F} {P : Option mx_V → mx_F → Prop}  (C : mx_C p s m args c c_D_measure y_D_measure.cls w_D_measure D tc tb (mx_A a0 G sz) 6 (mx_Ok0 a0 G)) (hr : meth.sig.returnType = none) (hlk : meth.locks = false) : mx_all (mx_W p l e rm_D_measure s m args below meth c (MQ below (mx_Q D tc tb a0 G sz P) args s 0 0 (mx_A a0 G sz)) D tc tb (mx_A a0 G sz) 6 (mx_Ok0 a0 G)) (t_D_measure  P) :=
  ⟨mx_s_iconst C d_D_measure_0 (by decide),
  mx_s_istore C d_D_measure_1 (by decide),
  mx_s_iload C d_D_measure_3,
  mx_s_aload_n C d_D_measure_5 rfl,
  mx_s_get (T := T_D) (N := 7) (k := 0) C (fun w h => List.mem_cons_of_mem _ (in_D w h)) rfl (by decide) (List.mem_cons_of_mem _ fk_D_22) rfl d_D_measure_6,
  mx_s_cv0 C (m_W_count l) rfl (cwV 0 C.2.2.2.2.1 (mx_gV (fun w h => List.mem_cons_of_mem _ h) mk_D_48 im_W_count se_W_count ic_W co_W_count) rfl rfl rfl (by decide +kernel) ⟨by decide, by decide⟩) d_D_measure_9 ⟨Nat.zero_le _, Nat.zero_le _⟩,
  mx_s_ic_ge C d_D_measure_12 (by decide),
  mx_s_aload_n C d_D_measure_15 rfl,
  mx_s_get (T := T_D) (N := 7) (k := 1) C (fun w h => List.mem_cons_of_mem _ (in_D w h)) rfl (by decide) (List.mem_cons_of_mem _ fk_D_9) rfl d_D_measure_16,
  mx_s_iload C d_D_measure_19,
  mx_s_iconst C d_D_measure_21 (by decide),
  mx_s_iast C d_D_measure_22,
  mx_s_aload_n C d_D_measure_23 rfl,
  mx_s_get (T := T_D) (N := 7) (k := 2) C (fun w h => List.mem_cons_of_mem _ (in_D w h)) rfl (by decide) (List.mem_cons_of_mem _ fk_D_15) rfl d_D_measure_24,
  mx_s_iload C d_D_measure_27,
  mx_s_lconst C d_D_measure_29 (by decide),
  mx_s_last C d_D_measure_30,
  mx_s_iinc C d_D_measure_31 (by decide) (by decide),
  mx_s_goto C d_D_measure_34 (by decide),
  mx_s_aload_n C d_D_measure_37 rfl,
  mx_s_get (T := T_D) (N := 7) (k := 1) C (fun w h => List.mem_cons_of_mem _ (in_D w h)) rfl (by decide) (List.mem_cons_of_mem _ fk_D_9) rfl d_D_measure_38,
  mx_s_iload_n C d_D_measure_41 rfl,
  mx_s_iconst C d_D_measure_42 (by decide),
  mx_s_iast C d_D_measure_43,
  mx_s_aload_n C d_D_measure_44 rfl,
  mx_s_get (T := T_D) (N := 7) (k := 2) C (fun w h => List.mem_cons_of_mem _ (in_D w h)) rfl (by decide) (List.mem_cons_of_mem _ fk_D_15) rfl d_D_measure_45,
  mx_s_iload_n C d_D_measure_48 rfl,
  mx_s_lconst C d_D_measure_49 (by decide),
  mx_s_last C d_D_measure_50,
  mx_s_iconst C d_D_measure_51 (by decide),
  mx_s_istore C d_D_measure_52 (by decide),
  mx_s_iload C d_D_measure_54,
  mx_s_aload_n C d_D_measure_56 rfl,
  mx_s_get (T := T_D) (N := 7) (k := 0) C (fun w h => List.mem_cons_of_mem _ (in_D w h)) rfl (by decide) (List.mem_cons_of_mem _ fk_D_22) rfl d_D_measure_57,
  mx_s_cv0 C (m_W_count l) rfl (cwV 0 C.2.2.2.2.1 (mx_gV (fun w h => List.mem_cons_of_mem _ h) mk_D_48 im_W_count se_W_count ic_W co_W_count) rfl rfl rfl (by decide +kernel) ⟨by decide, by decide⟩) d_D_measure_60 ⟨Nat.zero_le _, Nat.zero_le _⟩,
  mx_s_ic_ge C d_D_measure_63 (by decide),
  mx_s_aload_n C d_D_measure_66 rfl,
  mx_s_get (T := T_D) (N := 7) (k := 1) C (fun w h => List.mem_cons_of_mem _ (in_D w h)) rfl (by decide) (List.mem_cons_of_mem _ fk_D_9) rfl d_D_measure_67,
  mx_s_iload_n C d_D_measure_70 rfl,
  mx_s_iald C d_D_measure_71,
  mx_s_iconst C d_D_measure_72 (by decide),
  mx_s_ic_ne C d_D_measure_73 (by decide),
  mx_s_iconst C d_D_measure_76 (by decide),
  mx_s_istore C d_D_measure_77 (by decide),
  mx_s_iload C d_D_measure_79,
  mx_s_aload_n C d_D_measure_81 rfl,
  mx_s_get (T := T_D) (N := 7) (k := 0) C (fun w h => List.mem_cons_of_mem _ (in_D w h)) rfl (by decide) (List.mem_cons_of_mem _ fk_D_22) rfl d_D_measure_82,
  mx_s_cv0 C (m_W_count l) rfl (cwV 0 C.2.2.2.2.1 (mx_gV (fun w h => List.mem_cons_of_mem _ h) mk_D_48 im_W_count se_W_count ic_W co_W_count) rfl rfl rfl (by decide +kernel) ⟨by decide, by decide⟩) d_D_measure_85 ⟨Nat.zero_le _, Nat.zero_le _⟩,
  mx_s_ic_ge C d_D_measure_88 (by decide),
  mx_s_aload_n C d_D_measure_91 rfl,
  mx_s_get (T := T_D) (N := 7) (k := 1) C (fun w h => List.mem_cons_of_mem _ (in_D w h)) rfl (by decide) (List.mem_cons_of_mem _ fk_D_9) rfl d_D_measure_92,
  mx_s_iload C d_D_measure_95,
  mx_s_iald C d_D_measure_97,
  mx_s_iload C d_D_measure_98,
  mx_s_ic_ne C d_D_measure_100 (by decide),
  mx_s_aload_n C d_D_measure_103 rfl,
  mx_s_iload C d_D_measure_104,
  mx_s_iload_n C d_D_measure_106 rfl,
  mx_s_cv2 C (m_D_spread l) rfl (cwV 2 C.2.2.2.2.1 (mx_gV (fun w h => List.mem_cons_of_mem _ h) mk_D_55 im_D_spread se_D_spread ic_D co_D_spread) rfl rfl rfl (by decide +kernel) ⟨by decide, by decide⟩) d_D_measure_107 ⟨Nat.zero_le _, Nat.zero_le _⟩,
  mx_s_iinc C d_D_measure_110 (by decide) (by decide),
  mx_s_goto C d_D_measure_113 (by decide),
  mx_s_iinc C d_D_measure_116 (by decide) (by decide),
  mx_s_goto C d_D_measure_119 (by decide),
  mx_s_ret C hr hlk d_D_measure_122,
  trivial⟩
set_option maxRecDepth 20000 in
set_option maxHeartbeats 2000000 in
theorem m_D_measure (l : Launch) : mx_M l y_D_measure w_D_measure rm_D_measure sp_D_measure := by
  intro zD ztc ztb zad As F P sz0 h
  obtain ⟨n, N, ch, S, lt, st, rc, sh, wt, ds, cs, kd, t, a, rfl, h3, h4, h5, hw, h6, h7, h8, ha, ht, hk, hp⟩ := h
  refine mx_run (cc := c_D_measure) (maxL := 6) (ret := none) (tab := t_D_measure  P) (by decide) rfl zD ztc ztb zad _ F P sz0 (Nat.le_of_ble_eq_true rfl) (fun p e s m args below meth c C hr hlk => a_D_measure  C hr hlk) ?_
  intro Rr go
  have hF : F = (mx_put (mx_put (mx_put (mx_put (mx_put (mx_put F 3 (e_W n)) 4 (mx_ia 360 lt)) 5 (mx_ia 61 st)) 6 (e_D rc sh wt)) 7 (mx_ia 60 ds)) 8 (mx_la 60 cs)) := by rw [mx_self h3, mx_self h4, mx_self h5, mx_self h6, mx_self h7, mx_self h8]
  have hX : (mx_put (mx_put (mx_put (mx_put F 3 (e_W n)) 4 (mx_ia 360 lt)) 5 (mx_ia 61 st)) 6 (e_D rc sh wt)) = F := by rw [mx_self h3, mx_self h4, mx_self h5, mx_self h6]
  rw [hF]
  have hn := hw.1.1
  have outer : ∀ (m d : Nat) (ds' : Nat → Int32) (cs' : Nat → Int64) (jk : Option mx_V), d + m = n → (∀ w, w < n → ds' w = oi (de n (stepP N ch kd) t d w)) → (∀ e, e < d → de n (stepP N ch kd) t e a = none) → Rr 54 [some (mx_r 6), some (mx_i (nI a)), some (mx_i (nI t)), some (mx_i (nI kd)), some (mx_i (nI d)), jk] [] (mx_put (mx_put (mx_put (mx_put (mx_put (mx_put F 3 (e_W n)) 4 (mx_ia 360 lt)) 5 (mx_ia 61 st)) 6 (e_D rc sh wt)) 7 (mx_ia 60 ds')) 8 (mx_la 60 cs')) 0 0 := by
    intro m
    induction m with
    | zero =>
      intro d ds' cs' jk hd hq hno
      refine go rfl ⟨_, rfl, ?_⟩
      refine go rfl ⟨_, rfl, ?_⟩
      refine go rfl ⟨_, _, _, _, rfl, rfl, rfl, ?_⟩
      refine go rfl ⟨_, _, _, rfl, rfl, rfl, rfl, rfl, ⟨n, rfl, rfl, ?_⟩⟩
      refine go rfl ⟨_, _, _, rfl, fun c => ?_, fun c => ?_⟩
      · refine go rfl ⟨rfl, rfl, rfl, ?_⟩
        rw [hX]
        exact hp ds' cs' d (by omega) hq hno (Or.inl (by omega))
      · exact absurd (nI_le (by omega) (by omega)) c
    | succ m ih =>
      intro d ds' cs' jk hd hq hno
      refine go rfl ⟨_, rfl, ?_⟩
      refine go rfl ⟨_, rfl, ?_⟩
      refine go rfl ⟨_, _, _, _, rfl, rfl, rfl, ?_⟩
      refine go rfl ⟨_, _, _, rfl, rfl, rfl, rfl, rfl, ⟨n, rfl, rfl, ?_⟩⟩
      refine go rfl ⟨_, _, _, rfl, fun c => ?_, fun c => ?_⟩
      · exact absurd ((nI_leI (by omega) (by omega)).mp c) (by omega)
      refine go rfl ⟨_, rfl, ?_⟩
      refine go rfl ⟨_, _, _, _, rfl, rfl, rfl, ?_⟩
      refine go rfl ⟨_, rfl, ?_⟩
      refine go rfl ⟨_, _, _, _, _, rfl, rfl, (vp_in_nI (show a < 60 by omega) (by omega)), ?_⟩
      rw [nI_clamp (by omega), hq a ha]
      refine go rfl ?_
      refine go rfl ⟨_, _, _, rfl, fun c2 => ?_, fun c2 => ?_⟩
      · refine go rfl ⟨rfl, rfl, rfl, ?_⟩
        rw [hX]
        exact hp ds' cs' d (by omega) hq hno (Or.inr (fun h => c2 (by rw [h]; rfl)))
      have c2 := (oi_m1 (oi_b (by omega))).mp c2
      have inner : ∀ (k v : Nat) (ds' : Nat → Int32) (cs' : Nat → Int64), v + k = n → (∀ w, w < n → ds' w = oi (po n (stepP N ch kd) t d v 0 w)) → Rr 79 [some (mx_r 6), some (mx_i (nI a)), some (mx_i (nI t)), some (mx_i (nI kd)), some (mx_i (nI d)), some (mx_i (nI v))] [] (mx_put (mx_put (mx_put (mx_put (mx_put (mx_put F 3 (e_W n)) 4 (mx_ia 360 lt)) 5 (mx_ia 61 st)) 6 (e_D rc sh wt)) 7 (mx_ia 60 ds')) 8 (mx_la 60 cs')) 0 0 := by
        intro k
        induction k with
        | zero =>
          intro v ds' cs' hv hq2
          refine go rfl ⟨_, rfl, ?_⟩
          refine go rfl ⟨_, rfl, ?_⟩
          refine go rfl ⟨_, _, _, _, rfl, rfl, rfl, ?_⟩
          refine go rfl ⟨_, _, _, rfl, rfl, rfl, rfl, rfl, ⟨n, rfl, rfl, ?_⟩⟩
          refine go rfl ⟨_, _, _, rfl, fun e => ?_, fun e => ?_⟩
          · refine go rfl ⟨_, rfl, ?_⟩
            refine go rfl ?_
            rw [nI_add]
            refine ih (d + 1) ds' cs' _ (by omega) (fun w hw2 => ?_) (fun e he => ?_)
            · rw [hq2 w hw2, show v = n by omega, po_n]
            · rcases Nat.lt_or_ge e d with q | q
              · exact hno e q
              · rw [show e = d by omega]
                exact c2
          · exact absurd (nI_le (by omega) (by omega)) e
        | succ k ih2 =>
          intro v ds' cs' hv hq2
          refine go rfl ⟨_, rfl, ?_⟩
          refine go rfl ⟨_, rfl, ?_⟩
          refine go rfl ⟨_, _, _, _, rfl, rfl, rfl, ?_⟩
          refine go rfl ⟨_, _, _, rfl, rfl, rfl, rfl, rfl, ⟨n, rfl, rfl, ?_⟩⟩
          refine go rfl ⟨_, _, _, rfl, fun e => ?_, fun e => ?_⟩
          · exact absurd ((nI_leI (by omega) (by omega)).mp e) (by omega)
          have hvn : v < n := by omega
          refine go rfl ⟨_, rfl, ?_⟩
          refine go rfl ⟨_, _, _, _, rfl, rfl, rfl, ?_⟩
          refine go rfl ⟨_, rfl, ?_⟩
          refine go rfl ⟨_, _, _, _, _, rfl, rfl, (vp_in_nI (show v < 60 by omega) (by omega)), ?_⟩
          rw [nI_clamp (by omega), hq2 v hvn]
          refine go rfl ⟨_, rfl, ?_⟩
          refine go rfl ⟨_, _, _, rfl, fun e2 => ?_, fun e2 => ?_⟩
          · have e2 : ¬ de n (stepP N ch kd) t d v = some d := fun h => e2 (by rw [po_old h]; rfl)
            refine go rfl ⟨_, rfl, ?_⟩
            refine go rfl ?_
            rw [nI_add]
            refine ih2 (v + 1) ds' cs' (by omega) (fun w hw2 => ?_)
            rw [hq2 w hw2, po_skip e2]
          · have e2 := po_d ((oi_eq (by omega) (po_b (by omega))).mp e2)
            refine go rfl ⟨_, rfl, ?_⟩
            refine go rfl ⟨_, rfl, ?_⟩
            refine go rfl ⟨_, rfl, ?_⟩
            refine go rfl ⟨_, _, _, _, _, rfl, rfl, rfl, rfl, rfl, ⟨n, N, ch, S, lt, st, rc, sh, wt, ds', cs', kd, t, d, v, rfl, rfl, rfl, rfl, hw, rfl, rfl, rfl, hvn, hk, by omega, e2, hq2, fun ds2 cs2 hq3 => ?_⟩⟩
            rw [mx_pc _ _ _ (show (7 : Nat) ≠ 8 by decide), mx_pp, mx_pp]
            refine go rfl ⟨_, rfl, ?_⟩
            refine go rfl ?_
            rw [nI_add]
            refine ih2 (v + 1) ds2 cs2 (by omega) (fun w hw2 => ?_)
            rw [hq3 w hw2, po_next hw2]
      refine go rfl ?_
      refine go rfl ⟨_, _, rfl, ?_⟩
      refine inner n 0 ds' cs' (by omega) (fun w hw2 => ?_)
      rw [hq w hw2, po_0]
  have clear : ∀ (m v : Nat) (ds' : Nat → Int32) (cs' : Nat → Int64) (jk : Option mx_V), v + m = n → (∀ w, w < v → ds' w = -1) → Rr 3 [some (mx_r 6), some (mx_i (nI a)), some (mx_i (nI t)), some (mx_i (nI kd)), some (mx_i (nI v)), jk] [] (mx_put (mx_put (mx_put (mx_put (mx_put (mx_put F 3 (e_W n)) 4 (mx_ia 360 lt)) 5 (mx_ia 61 st)) 6 (e_D rc sh wt)) 7 (mx_ia 60 ds')) 8 (mx_la 60 cs')) 0 0 := by
    intro m
    induction m with
    | zero =>
      intro v ds' cs' jk hv hq
      refine go rfl ⟨_, rfl, ?_⟩
      refine go rfl ⟨_, rfl, ?_⟩
      refine go rfl ⟨_, _, _, _, rfl, rfl, rfl, ?_⟩
      refine go rfl ⟨_, _, _, rfl, rfl, rfl, rfl, rfl, ⟨n, rfl, rfl, ?_⟩⟩
      refine go rfl ⟨_, _, _, rfl, fun c => ?_, fun c => ?_⟩
      · refine go rfl ⟨_, rfl, ?_⟩
        refine go rfl ⟨_, _, _, _, rfl, rfl, rfl, ?_⟩
        refine go rfl ⟨_, rfl, ?_⟩
        refine go rfl ?_
        refine go rfl ⟨_, _, _, _, _, _, rfl, rfl, (vp_in_nI (show t < 60 by omega) (by omega)), ?_⟩
        rw [nI_clamp (by omega), mx_pc _ _ _ (show (7 : Nat) ≠ 8 by decide), mx_pp]
        refine go rfl ⟨_, rfl, ?_⟩
        refine go rfl ⟨_, _, _, _, rfl, rfl, rfl, ?_⟩
        refine go rfl ⟨_, rfl, ?_⟩
        refine go rfl ?_
        refine go rfl ⟨_, _, _, _, _, _, rfl, rfl, (vp_in_nI (show t < 60 by omega) (by omega)), ?_⟩
        rw [mx_pp]
        refine go rfl ?_
        refine go rfl ⟨_, _, rfl, ?_⟩
        refine outer n 0 _ _ _ (by omega) (fun w hw2 => ?_) (fun e he => absurd he (Nat.not_lt_zero e))
        rw [de_0]
        by_cases e : w = t
        · rw [e, pk_us, if_pos rfl]
          rfl
        · rw [pk_un e, if_neg e, hq w (by omega)]
          rfl
      · exact absurd (nI_le (by omega) (by omega)) c
    | succ m ih =>
      intro v ds' cs' jk hv hq
      refine go rfl ⟨_, rfl, ?_⟩
      refine go rfl ⟨_, rfl, ?_⟩
      refine go rfl ⟨_, _, _, _, rfl, rfl, rfl, ?_⟩
      refine go rfl ⟨_, _, _, rfl, rfl, rfl, rfl, rfl, ⟨n, rfl, rfl, ?_⟩⟩
      refine go rfl ⟨_, _, _, rfl, fun c => ?_, fun c => ?_⟩
      · exact absurd ((nI_leI (by omega) (by omega)).mp c) (by omega)
      refine go rfl ⟨_, rfl, ?_⟩
      refine go rfl ⟨_, _, _, _, rfl, rfl, rfl, ?_⟩
      refine go rfl ⟨_, rfl, ?_⟩
      refine go rfl ?_
      refine go rfl ⟨_, _, _, _, _, _, rfl, rfl, (vp_in_nI (show v < 60 by omega) (by omega)), ?_⟩
      rw [nI_clamp (by omega), mx_pc _ _ _ (show (7 : Nat) ≠ 8 by decide), mx_pp]
      refine go rfl ⟨_, rfl, ?_⟩
      refine go rfl ⟨_, _, _, _, rfl, rfl, rfl, ?_⟩
      refine go rfl ⟨_, rfl, ?_⟩
      refine go rfl ?_
      refine go rfl ⟨_, _, _, _, _, _, rfl, rfl, (vp_in_nI (show v < 60 by omega) (by omega)), ?_⟩
      rw [mx_pp]
      refine go rfl ⟨_, rfl, ?_⟩
      refine go rfl ?_
      rw [nI_add]
      refine ih (v + 1) _ _ _ (by omega) (fun w hw2 => ?_)
      by_cases e : w = v
      · rw [e, pk_us]
      · rw [pk_un e]
        exact hq w (by omega)
  refine go rfl ?_
  refine go rfl ⟨_, _, rfl, ?_⟩
  exact clear n 0 ds cs none (by omega) (fun w hw2 => absurd hw2 (Nat.not_lt_zero w))
-- LadderWords$Ladders.leastNext(III)I
def sp_D_leastNext : mx_Sp := fun As F P => ∃ (n : Nat) (N : Nat → Nat) (ch : Nat → Nat → Int32) (S : Nat → Nat) (lt st : Nat → Int32) (rc : Int32) (sh : Int64) (wt : Int32) (ds : Nat → Int32) (cs : Nat → Int64) (kd t D j a : Nat), As = [mx_r 6, mx_i (nI a), mx_i (nI j), mx_i (nI kd)] ∧ F 3 = some (e_W n) ∧ F 4 = some (mx_ia 360 lt) ∧ F 5 = some (mx_ia 61 st) ∧ wst n N ch S lt st ∧ F 6 = some (e_D rc sh wt) ∧ F 7 = some (mx_ia 60 ds) ∧ F 8 = some (mx_la 60 cs) ∧ a < n ∧ kd ≤ 1 ∧ D ≤ 60 ∧ j ≤ D ∧ (∀ w, w < n → ds w = oi (de n (stepP N ch kd) t D w)) ∧ (∃ v, v < n ∧ de n (stepP N ch kd) t j v = some j ∧ stepP N ch kd a v) ∧ P (some (mx_i (nI (lst (fun v => de n (stepP N ch kd) t j v = some j ∧ stepP N ch kd a v) n)))) F
theorem d_D_leastNext_0 : decode c_D_leastNext 0 = .ok (.iconst 0, 1) := by decide +kernel
theorem d_D_leastNext_1 : decode c_D_leastNext 1 = .ok (.istore 4, 2) := by decide +kernel
theorem d_D_leastNext_3 : decode c_D_leastNext 3 = .ok (.iload 4, 2) := by decide +kernel
theorem d_D_leastNext_5 : decode c_D_leastNext 5 = .ok (.aload_n 0, 1) := by decide +kernel
theorem d_D_leastNext_6 : decode c_D_leastNext 6 = .ok (.getfield 22, 3) := by decide +kernel
theorem d_D_leastNext_9 : decode c_D_leastNext 9 = .ok (.invokevirtual 48, 3) := by decide +kernel
theorem d_D_leastNext_12 : decode c_D_leastNext 12 = .ok (.if_icmp .ge 37, 3) := by decide +kernel
theorem d_D_leastNext_15 : decode c_D_leastNext 15 = .ok (.aload_n 0, 1) := by decide +kernel
theorem d_D_leastNext_16 : decode c_D_leastNext 16 = .ok (.getfield 9, 3) := by decide +kernel
theorem d_D_leastNext_19 : decode c_D_leastNext 19 = .ok (.iload 4, 2) := by decide +kernel
theorem d_D_leastNext_21 : decode c_D_leastNext 21 = .ok (.iaload, 1) := by decide +kernel
theorem d_D_leastNext_22 : decode c_D_leastNext 22 = .ok (.iload_n 2, 1) := by decide +kernel
theorem d_D_leastNext_23 : decode c_D_leastNext 23 = .ok (.if_icmp .ne 20, 3) := by decide +kernel
theorem d_D_leastNext_26 : decode c_D_leastNext 26 = .ok (.aload_n 0, 1) := by decide +kernel
theorem d_D_leastNext_27 : decode c_D_leastNext 27 = .ok (.getfield 22, 3) := by decide +kernel
theorem d_D_leastNext_30 : decode c_D_leastNext 30 = .ok (.iload_n 1, 1) := by decide +kernel
theorem d_D_leastNext_31 : decode c_D_leastNext 31 = .ok (.iload 4, 2) := by decide +kernel
theorem d_D_leastNext_33 : decode c_D_leastNext 33 = .ok (.iload_n 3, 1) := by decide +kernel
theorem d_D_leastNext_34 : decode c_D_leastNext 34 = .ok (.invokevirtual 58, 3) := by decide +kernel
theorem d_D_leastNext_37 : decode c_D_leastNext 37 = .ok (.ifCond .eq 6, 3) := by decide +kernel
theorem d_D_leastNext_40 : decode c_D_leastNext 40 = .ok (.iload 4, 2) := by decide +kernel
theorem d_D_leastNext_42 : decode c_D_leastNext 42 = .ok (.ireturn, 1) := by decide +kernel
theorem d_D_leastNext_43 : decode c_D_leastNext 43 = .ok (.iinc 4 1, 3) := by decide +kernel
theorem d_D_leastNext_46 : decode c_D_leastNext 46 = .ok (.goto (-43), 3) := by decide +kernel
abbrev w_D_leastNext : List Cond := mx_ws y_D_leastNext c_D_leastNext 5 (some .int)
abbrev rm_D_leastNext : Room := { frames := 40, cells := 0, slots := 0, locals := 800 }
def t_D_leastNext  (P : Option mx_V → mx_F → Prop) : List (Nat × mx_O) := [
  (0, mx_push (.inl (nI 0)) 1),
  (1, mx_istore 4 3),
  (3, mx_iload 4 5),
  (5, mx_aload 0 6),
  (6, mx_get 2 0 9),
  (9, mx_cv0 5 sp_W_count 0 0 12),
  (12, mx_ic_ge 49 15),
  (15, mx_aload 0 16),
  (16, mx_get 2 1 19),
  (19, mx_iload 4 21),
  (21, mx_iald 22),
  (22, mx_iload 2 23),
  (23, mx_ic_ne 43 26),
  (26, mx_aload 0 27),
  (27, mx_get 2 0 30),
  (30, mx_iload 1 31),
  (31, mx_iload 4 33),
  (33, mx_iload 3 34),
  (34, mx_cv3 5 sp_W_isStep 0 0 37),
  (37, mx_if_eq 43 40),
  (40, mx_iload 4 42),
  (42, mx_iret P),
  (43, mx_iinc 4 (nI 1) 46),
  (46, mx_goto 3)]
set_option maxRecDepth 20000 in
theorem a_D_leastNext  {p : Program} {l : Launch} {e : Env} {s : State} {m : MethodId} {args : Array Value} {below : List Frame} {meth : Method} {c : Code} {D : va_G} {tc : Nat → ClassId} {tb : Nat → Nat} {sz : Nat} {a0 : Nat → Nat} {G : mx_F} {P : Option mx_V → mx_F → Prop}  (C : mx_C p s m args c c_D_leastNext y_D_leastNext.cls w_D_leastNext D tc tb (mx_A a0 G sz) 5 (mx_Ok0 a0 G)) (hr : meth.sig.returnType = (some .int)) (hlk : meth.locks = false) : mx_all (mx_W p l e rm_D_leastNext s m args below meth c (MQ below (mx_Q D tc tb a0 G sz P) args s 0 0 (mx_A a0 G sz)) D tc tb (mx_A a0 G sz) 5 (mx_Ok0 a0 G)) (t_D_leastNext  P) :=
  ⟨mx_s_iconst C d_D_leastNext_0 (by decide),
  mx_s_istore C d_D_leastNext_1 (by decide),
  mx_s_iload C d_D_leastNext_3,
  mx_s_aload_n C d_D_leastNext_5 rfl,
  mx_s_get (T := T_D) (N := 7) (k := 0) C (fun w h => List.mem_cons_of_mem _ (in_D w h)) rfl (by decide) (List.mem_cons_of_mem _ fk_D_22) rfl d_D_leastNext_6,
  mx_s_cv0 C (m_W_count l) rfl (cwV 0 C.2.2.2.2.1 (mx_gV (fun w h => List.mem_cons_of_mem _ h) mk_D_48 im_W_count se_W_count ic_W co_W_count) rfl rfl rfl (by decide +kernel) ⟨by decide, by decide⟩) d_D_leastNext_9 ⟨Nat.zero_le _, Nat.zero_le _⟩,
  mx_s_ic_ge C d_D_leastNext_12 (by decide),
  mx_s_aload_n C d_D_leastNext_15 rfl,
  mx_s_get (T := T_D) (N := 7) (k := 1) C (fun w h => List.mem_cons_of_mem _ (in_D w h)) rfl (by decide) (List.mem_cons_of_mem _ fk_D_9) rfl d_D_leastNext_16,
  mx_s_iload C d_D_leastNext_19,
  mx_s_iald C d_D_leastNext_21,
  mx_s_iload_n C d_D_leastNext_22 rfl,
  mx_s_ic_ne C d_D_leastNext_23 (by decide),
  mx_s_aload_n C d_D_leastNext_26 rfl,
  mx_s_get (T := T_D) (N := 7) (k := 0) C (fun w h => List.mem_cons_of_mem _ (in_D w h)) rfl (by decide) (List.mem_cons_of_mem _ fk_D_22) rfl d_D_leastNext_27,
  mx_s_iload_n C d_D_leastNext_30 rfl,
  mx_s_iload C d_D_leastNext_31,
  mx_s_iload_n C d_D_leastNext_33 rfl,
  mx_s_cv3 C (m_W_isStep l) rfl (cwV 3 C.2.2.2.2.1 (mx_gV (fun w h => List.mem_cons_of_mem _ h) mk_D_58 im_W_isStep se_W_isStep ic_W co_W_isStep) rfl rfl rfl (by decide +kernel) ⟨by decide, by decide⟩) d_D_leastNext_34 ⟨Nat.zero_le _, Nat.zero_le _⟩,
  mx_s_if_eq C d_D_leastNext_37 (by decide),
  mx_s_iload C d_D_leastNext_40,
  mx_s_iret C hr hlk d_D_leastNext_42,
  mx_s_iinc C d_D_leastNext_43 (by decide) (by decide),
  mx_s_goto C d_D_leastNext_46 (by decide),
  trivial⟩
set_option maxRecDepth 20000 in
set_option maxHeartbeats 2000000 in
theorem m_D_leastNext (l : Launch) : mx_M l y_D_leastNext w_D_leastNext rm_D_leastNext sp_D_leastNext := by
  intro zD ztc ztb zad As F P sz0 h
  obtain ⟨n, N, ch, S, lt, st, rc, sh, wt, ds, cs, kd, t, D, j, a, rfl, h3, h4, h5, hw, h6, h7, h8, ha, hk, hD, hj, hq, hex, hp⟩ := h
  refine mx_run (cc := c_D_leastNext) (maxL := 5) (ret := (some .int)) (tab := t_D_leastNext  P) (by decide) rfl zD ztc ztb zad _ F P sz0 (Nat.le_of_ble_eq_true rfl) (fun p e s m args below meth c C hr hlk => a_D_leastNext  C hr hlk) ?_
  intro Rr go
  have hF : F = (mx_put (mx_put (mx_put (mx_put (mx_put (mx_put F 3 (e_W n)) 4 (mx_ia 360 lt)) 5 (mx_ia 61 st)) 6 (e_D rc sh wt)) 7 (mx_ia 60 ds)) 8 (mx_la 60 cs)) := by rw [mx_self h3, mx_self h4, mx_self h5, mx_self h6, mx_self h7, mx_self h8]
  rw [hF]
  have hn := hw.1.1
  have loop : ∀ (m v : Nat), v + m = n → (∀ c, c < v → ¬ (de n (stepP N ch kd) t j c = some j ∧ stepP N ch kd a c)) → Rr 3 [some (mx_r 6), some (mx_i (nI a)), some (mx_i (nI j)), some (mx_i (nI kd)), some (mx_i (nI v))] [] (mx_put (mx_put (mx_put (mx_put (mx_put (mx_put F 3 (e_W n)) 4 (mx_ia 360 lt)) 5 (mx_ia 61 st)) 6 (e_D rc sh wt)) 7 (mx_ia 60 ds)) 8 (mx_la 60 cs)) 0 0 := by
    intro m
    induction m with
    | zero =>
      intro v hv hno
      exfalso
      obtain ⟨u, h1, h2⟩ := hex
      exact hno u (by omega) h2
    | succ m ih =>
      intro v hv hno
      refine go rfl ⟨_, rfl, ?_⟩
      refine go rfl ⟨_, rfl, ?_⟩
      refine go rfl ⟨_, _, _, _, rfl, rfl, rfl, ?_⟩
      refine go rfl ⟨_, _, _, rfl, rfl, rfl, rfl, rfl, ⟨n, rfl, rfl, ?_⟩⟩
      refine go rfl ⟨_, _, _, rfl, fun c => ?_, fun c => ?_⟩
      · exact absurd ((nI_leI (by omega) (by omega)).mp c) (by omega)
      have hvn : v < n := by omega
      have next : ¬ (de n (stepP N ch kd) t j v = some j ∧ stepP N ch kd a v) → Rr 43 [some (mx_r 6), some (mx_i (nI a)), some (mx_i (nI j)), some (mx_i (nI kd)), some (mx_i (nI v))] [] (mx_put (mx_put (mx_put (mx_put (mx_put (mx_put F 3 (e_W n)) 4 (mx_ia 360 lt)) 5 (mx_ia 61 st)) 6 (e_D rc sh wt)) 7 (mx_ia 60 ds)) 8 (mx_la 60 cs)) 0 0 := by
        intro hn2
        refine go rfl ⟨_, rfl, ?_⟩
        refine go rfl ?_
        rw [nI_add]
        refine ih (v + 1) (by omega) (fun c hc => ?_)
        rcases Nat.lt_or_ge c v with w | w
        · exact hno c w
        · rw [show c = v by omega]
          exact hn2
      refine go rfl ⟨_, rfl, ?_⟩
      refine go rfl ⟨_, _, _, _, rfl, rfl, rfl, ?_⟩
      refine go rfl ⟨_, rfl, ?_⟩
      refine go rfl ⟨_, _, _, _, _, rfl, rfl, (vp_in_nI (show v < 60 by omega) (by omega)), ?_⟩
      rw [nI_clamp (by omega), hq v hvn]
      refine go rfl ⟨_, rfl, ?_⟩
      refine go rfl ⟨_, _, _, rfl, fun e => ?_, fun e => ?_⟩
      · exact next (fun h => e (by rw [(de_iff hj).mpr h.1]; rfl))
      have e := (de_iff hj).mp ((oi_eq (by omega) (oi_b hD)).mp e)
      refine go rfl ⟨_, rfl, ?_⟩
      refine go rfl ⟨_, _, _, _, rfl, rfl, rfl, ?_⟩
      refine go rfl ⟨_, rfl, ?_⟩
      refine go rfl ⟨_, rfl, ?_⟩
      refine go rfl ⟨_, rfl, ?_⟩
      refine go rfl ⟨_, _, _, _, _, _, rfl, rfl, rfl, rfl, rfl, ⟨n, N, ch, S, lt, st, a, v, kd, rfl, rfl, rfl, rfl, hw, ha, hvn, hk, fun hs => ?_, fun hs => ?_⟩⟩
      · refine go rfl ⟨_, _, rfl, fun e2 => ?_, fun e2 => ?_⟩
        · exact absurd e2 (by decide)
        refine go rfl ⟨_, rfl, ?_⟩
        refine go rfl ⟨_, rfl, rfl, rfl, ?_⟩
        rw [← hF]
        rw [lst_eq (Q := fun v => de n (stepP N ch kd) t j v = some j ∧ stepP N ch kd a v) ⟨e, hs⟩ hno n hvn] at hp
        exact hp
      · refine go rfl ⟨_, _, rfl, fun e2 => ?_, fun e2 => ?_⟩
        · exact next (fun h => hs h.2)
        · exact absurd rfl e2
  refine go rfl ?_
  refine go rfl ⟨_, _, rfl, ?_⟩
  exact loop n 0 (by omega) (fun c hc => absurd hc (Nat.not_lt_zero c))
-- LadderWords$Ladders.climb(II)V
def sp_D_climb : mx_Sp := fun As F P => ∃ (n : Nat) (N : Nat → Nat) (ch : Nat → Nat → Int32) (S : Nat → Nat) (lt st : Nat → Int32) (rc : Int32) (sh : Int64) (wt : Int32) (ds rg : Nat → Int32) (cs : Nat → Int64) (kd t D a : Nat), As = [mx_r 6, mx_i (nI a), mx_i (nI kd)] ∧ F 3 = some (e_W n) ∧ F 4 = some (mx_ia 360 lt) ∧ F 5 = some (mx_ia 61 st) ∧ wst n N ch S lt st ∧ F 6 = some (e_D rc sh wt) ∧ F 7 = some (mx_ia 60 ds) ∧ F 8 = some (mx_la 60 cs) ∧ F 9 = some (mx_ia 60 rg) ∧ a < n ∧ kd ≤ 1 ∧ D < 60 ∧ (∀ w, w < n → ds w = oi (de n (stepP N ch kd) t D w)) ∧ de n (stepP N ch kd) t D a = some D ∧ ∀ rg', (∀ k, k ≤ D → rg' k = nI (lad n (stepP N ch kd) t a D k)) → P none (mx_put (mx_put F 9 (mx_ia 60 rg')) 6 (e_D (nI (D + 1)) sh wt))
theorem d_D_climb_0 : decode c_D_climb 0 = .ok (.aload_n 0, 1) := by decide +kernel
theorem d_D_climb_1 : decode c_D_climb 1 = .ok (.getfield 19, 3) := by decide +kernel
theorem d_D_climb_4 : decode c_D_climb 4 = .ok (.iconst 0, 1) := by decide +kernel
theorem d_D_climb_5 : decode c_D_climb 5 = .ok (.iload_n 1, 1) := by decide +kernel
theorem d_D_climb_6 : decode c_D_climb 6 = .ok (.iastore, 1) := by decide +kernel
theorem d_D_climb_7 : decode c_D_climb 7 = .ok (.aload_n 0, 1) := by decide +kernel
theorem d_D_climb_8 : decode c_D_climb 8 = .ok (.iconst 1, 1) := by decide +kernel
theorem d_D_climb_9 : decode c_D_climb 9 = .ok (.putfield 26, 3) := by decide +kernel
theorem d_D_climb_12 : decode c_D_climb 12 = .ok (.aload_n 0, 1) := by decide +kernel
theorem d_D_climb_13 : decode c_D_climb 13 = .ok (.getfield 9, 3) := by decide +kernel
theorem d_D_climb_16 : decode c_D_climb 16 = .ok (.iload_n 1, 1) := by decide +kernel
theorem d_D_climb_17 : decode c_D_climb 17 = .ok (.iaload, 1) := by decide +kernel
theorem d_D_climb_18 : decode c_D_climb 18 = .ok (.iconst 1, 1) := by decide +kernel
theorem d_D_climb_19 : decode c_D_climb 19 = .ok (.isub, 1) := by decide +kernel
theorem d_D_climb_20 : decode c_D_climb 20 = .ok (.istore_n 3, 1) := by decide +kernel
theorem d_D_climb_21 : decode c_D_climb 21 = .ok (.iload_n 3, 1) := by decide +kernel
theorem d_D_climb_22 : decode c_D_climb 22 = .ok (.ifCond .lt 57, 3) := by decide +kernel
theorem d_D_climb_25 : decode c_D_climb 25 = .ok (.aload_n 0, 1) := by decide +kernel
theorem d_D_climb_26 : decode c_D_climb 26 = .ok (.getfield 26, 3) := by decide +kernel
theorem d_D_climb_29 : decode c_D_climb 29 = .ok (.aload_n 0, 1) := by decide +kernel
theorem d_D_climb_30 : decode c_D_climb 30 = .ok (.getfield 19, 3) := by decide +kernel
theorem d_D_climb_33 : decode c_D_climb 33 = .ok (.arraylength, 1) := by decide +kernel
theorem d_D_climb_34 : decode c_D_climb 34 = .ok (.if_icmp .ge 45, 3) := by decide +kernel
theorem d_D_climb_37 : decode c_D_climb 37 = .ok (.aload_n 0, 1) := by decide +kernel
theorem d_D_climb_38 : decode c_D_climb 38 = .ok (.getfield 19, 3) := by decide +kernel
theorem d_D_climb_41 : decode c_D_climb 41 = .ok (.aload_n 0, 1) := by decide +kernel
theorem d_D_climb_42 : decode c_D_climb 42 = .ok (.getfield 26, 3) := by decide +kernel
theorem d_D_climb_45 : decode c_D_climb 45 = .ok (.aload_n 0, 1) := by decide +kernel
theorem d_D_climb_46 : decode c_D_climb 46 = .ok (.aload_n 0, 1) := by decide +kernel
theorem d_D_climb_47 : decode c_D_climb 47 = .ok (.getfield 19, 3) := by decide +kernel
theorem d_D_climb_50 : decode c_D_climb 50 = .ok (.aload_n 0, 1) := by decide +kernel
theorem d_D_climb_51 : decode c_D_climb 51 = .ok (.getfield 26, 3) := by decide +kernel
theorem d_D_climb_54 : decode c_D_climb 54 = .ok (.iconst 1, 1) := by decide +kernel
theorem d_D_climb_55 : decode c_D_climb 55 = .ok (.isub, 1) := by decide +kernel
theorem d_D_climb_56 : decode c_D_climb 56 = .ok (.iaload, 1) := by decide +kernel
theorem d_D_climb_57 : decode c_D_climb 57 = .ok (.iload_n 3, 1) := by decide +kernel
theorem d_D_climb_58 : decode c_D_climb 58 = .ok (.iload_n 2, 1) := by decide +kernel
theorem d_D_climb_59 : decode c_D_climb 59 = .ok (.invokevirtual 62, 3) := by decide +kernel
theorem d_D_climb_62 : decode c_D_climb 62 = .ok (.iastore, 1) := by decide +kernel
theorem d_D_climb_63 : decode c_D_climb 63 = .ok (.aload_n 0, 1) := by decide +kernel
theorem d_D_climb_64 : decode c_D_climb 64 = .ok (.dup, 1) := by decide +kernel
theorem d_D_climb_65 : decode c_D_climb 65 = .ok (.getfield 26, 3) := by decide +kernel
theorem d_D_climb_68 : decode c_D_climb 68 = .ok (.iconst 1, 1) := by decide +kernel
theorem d_D_climb_69 : decode c_D_climb 69 = .ok (.iadd, 1) := by decide +kernel
theorem d_D_climb_70 : decode c_D_climb 70 = .ok (.putfield 26, 3) := by decide +kernel
theorem d_D_climb_73 : decode c_D_climb 73 = .ok (.iinc 3 (-1), 3) := by decide +kernel
theorem d_D_climb_76 : decode c_D_climb 76 = .ok (.goto (-55), 3) := by decide +kernel
theorem d_D_climb_79 : decode c_D_climb 79 = .ok (.return_, 1) := by decide +kernel
abbrev w_D_climb : List Cond := mx_ws y_D_climb c_D_climb 4 none
abbrev rm_D_climb : Room := { frames := 50, cells := 0, slots := 0, locals := 1000 }
def t_D_climb  (P : Option mx_V → mx_F → Prop) : List (Nat × mx_O) := [
  (0, mx_aload 0 1),
  (1, mx_get 2 3 4),
  (4, mx_push (.inl (nI 0)) 5),
  (5, mx_iload 1 6),
  (6, mx_iast 7),
  (7, mx_aload 0 8),
  (8, mx_push (.inl (nI 1)) 9),
  (9, mx_puti 2 4 12),
  (12, mx_aload 0 13),
  (13, mx_get 2 1 16),
  (16, mx_iload 1 17),
  (17, mx_iald 18),
  (18, mx_push (.inl (nI 1)) 19),
  (19, mx_isub 20),
  (20, mx_istore 3 21),
  (21, mx_iload 3 22),
  (22, mx_if_lt 79 25),
  (25, mx_aload 0 26),
  (26, mx_get 2 4 29),
  (29, mx_aload 0 30),
  (30, mx_get 2 3 33),
  (33, mx_alen 34),
  (34, mx_ic_ge 79 37),
  (37, mx_aload 0 38),
  (38, mx_get 2 3 41),
  (41, mx_aload 0 42),
  (42, mx_get 2 4 45),
  (45, mx_aload 0 46),
  (46, mx_aload 0 47),
  (47, mx_get 2 3 50),
  (50, mx_aload 0 51),
  (51, mx_get 2 4 54),
  (54, mx_push (.inl (nI 1)) 55),
  (55, mx_isub 56),
  (56, mx_iald 57),
  (57, mx_iload 3 58),
  (58, mx_iload 2 59),
  (59, mx_cv3 2 sp_D_leastNext 0 0 62),
  (62, mx_iast 63),
  (63, mx_aload 0 64),
  (64, mx_dup 65),
  (65, mx_get 2 4 68),
  (68, mx_push (.inl (nI 1)) 69),
  (69, mx_iadd 70),
  (70, mx_puti 2 4 73),
  (73, mx_iinc 3 (-1) 76),
  (76, mx_goto 21),
  (79, mx_ret P)]
set_option maxRecDepth 20000 in
theorem a_D_climb  {p : Program} {l : Launch} {e : Env} {s : State} {m : MethodId} {args : Array Value} {below : List Frame} {meth : Method} {c : Code} {D : va_G} {tc : Nat → ClassId} {tb : Nat → Nat} {sz : Nat} {a0 : Nat → Nat} {G : mx_F} {P : Option mx_V → mx_F → Prop}  (C : mx_C p s m args c c_D_climb y_D_climb.cls w_D_climb D tc tb (mx_A a0 G sz) 4 (mx_Ok0 a0 G)) (hr : meth.sig.returnType = none) (hlk : meth.locks = false) : mx_all (mx_W p l e rm_D_climb s m args below meth c (MQ below (mx_Q D tc tb a0 G sz P) args s 0 0 (mx_A a0 G sz)) D tc tb (mx_A a0 G sz) 4 (mx_Ok0 a0 G)) (t_D_climb  P) :=
  ⟨mx_s_aload_n C d_D_climb_0 rfl,
  mx_s_get (T := T_D) (N := 7) (k := 3) C (fun w h => List.mem_cons_of_mem _ (in_D w h)) rfl (by decide) (List.mem_cons_of_mem _ fk_D_19) rfl d_D_climb_1,
  mx_s_iconst C d_D_climb_4 (by decide),
  mx_s_iload_n C d_D_climb_5 rfl,
  mx_s_iast C d_D_climb_6,
  mx_s_aload_n C d_D_climb_7 rfl,
  mx_s_iconst C d_D_climb_8 (by decide),
  mx_s_puti (T := T_D) (N := 7) (k := 4) C (fun w h => List.mem_cons_of_mem _ (in_D w h)) rfl ty_D ok_D nm_D (by decide) (List.mem_cons_of_mem _ fk_D_26) rfl rfl (ok_D 4 (by decide)) d_D_climb_9,
  mx_s_aload_n C d_D_climb_12 rfl,
  mx_s_get (T := T_D) (N := 7) (k := 1) C (fun w h => List.mem_cons_of_mem _ (in_D w h)) rfl (by decide) (List.mem_cons_of_mem _ fk_D_9) rfl d_D_climb_13,
  mx_s_iload_n C d_D_climb_16 rfl,
  mx_s_iald C d_D_climb_17,
  mx_s_iconst C d_D_climb_18 (by decide),
  mx_s_isub C d_D_climb_19,
  mx_s_istore_n C d_D_climb_20 rfl (by decide),
  mx_s_iload_n C d_D_climb_21 rfl,
  mx_s_if_lt C d_D_climb_22 (by decide),
  mx_s_aload_n C d_D_climb_25 rfl,
  mx_s_get (T := T_D) (N := 7) (k := 4) C (fun w h => List.mem_cons_of_mem _ (in_D w h)) rfl (by decide) (List.mem_cons_of_mem _ fk_D_26) rfl d_D_climb_26,
  mx_s_aload_n C d_D_climb_29 rfl,
  mx_s_get (T := T_D) (N := 7) (k := 3) C (fun w h => List.mem_cons_of_mem _ (in_D w h)) rfl (by decide) (List.mem_cons_of_mem _ fk_D_19) rfl d_D_climb_30,
  mx_s_alen C d_D_climb_33,
  mx_s_ic_ge C d_D_climb_34 (by decide),
  mx_s_aload_n C d_D_climb_37 rfl,
  mx_s_get (T := T_D) (N := 7) (k := 3) C (fun w h => List.mem_cons_of_mem _ (in_D w h)) rfl (by decide) (List.mem_cons_of_mem _ fk_D_19) rfl d_D_climb_38,
  mx_s_aload_n C d_D_climb_41 rfl,
  mx_s_get (T := T_D) (N := 7) (k := 4) C (fun w h => List.mem_cons_of_mem _ (in_D w h)) rfl (by decide) (List.mem_cons_of_mem _ fk_D_26) rfl d_D_climb_42,
  mx_s_aload_n C d_D_climb_45 rfl,
  mx_s_aload_n C d_D_climb_46 rfl,
  mx_s_get (T := T_D) (N := 7) (k := 3) C (fun w h => List.mem_cons_of_mem _ (in_D w h)) rfl (by decide) (List.mem_cons_of_mem _ fk_D_19) rfl d_D_climb_47,
  mx_s_aload_n C d_D_climb_50 rfl,
  mx_s_get (T := T_D) (N := 7) (k := 4) C (fun w h => List.mem_cons_of_mem _ (in_D w h)) rfl (by decide) (List.mem_cons_of_mem _ fk_D_26) rfl d_D_climb_51,
  mx_s_iconst C d_D_climb_54 (by decide),
  mx_s_isub C d_D_climb_55,
  mx_s_iald C d_D_climb_56,
  mx_s_iload_n C d_D_climb_57 rfl,
  mx_s_iload_n C d_D_climb_58 rfl,
  mx_s_cv3 C (m_D_leastNext l) rfl (cwV 3 C.2.2.2.2.1 (mx_gV (fun w h => List.mem_cons_of_mem _ h) mk_D_62 im_D_leastNext se_D_leastNext ic_D co_D_leastNext) rfl rfl rfl (by decide +kernel) ⟨by decide, by decide⟩) d_D_climb_59 ⟨Nat.zero_le _, Nat.zero_le _⟩,
  mx_s_iast C d_D_climb_62,
  mx_s_aload_n C d_D_climb_63 rfl,
  mx_s_dup C d_D_climb_64,
  mx_s_get (T := T_D) (N := 7) (k := 4) C (fun w h => List.mem_cons_of_mem _ (in_D w h)) rfl (by decide) (List.mem_cons_of_mem _ fk_D_26) rfl d_D_climb_65,
  mx_s_iconst C d_D_climb_68 (by decide),
  mx_s_iadd C d_D_climb_69,
  mx_s_puti (T := T_D) (N := 7) (k := 4) C (fun w h => List.mem_cons_of_mem _ (in_D w h)) rfl ty_D ok_D nm_D (by decide) (List.mem_cons_of_mem _ fk_D_26) rfl rfl (ok_D 4 (by decide)) d_D_climb_70,
  mx_s_iinc C d_D_climb_73 (by decide) (by decide),
  mx_s_goto C d_D_climb_76 (by decide),
  mx_s_ret C hr hlk d_D_climb_79,
  trivial⟩
set_option maxRecDepth 20000 in
set_option maxHeartbeats 2000000 in
theorem m_D_climb (l : Launch) : mx_M l y_D_climb w_D_climb rm_D_climb sp_D_climb := by
  intro zD ztc ztb zad As F P sz0 h
  obtain ⟨n, N, ch, S, lt, st, rc, sh, wt, ds, rg, cs, kd, t, D, a, rfl, h3, h4, h5, hw, h6, h7, h8, h9, ha, hk, hD, hq, hda, hp⟩ := h
  refine mx_run (cc := c_D_climb) (maxL := 4) (ret := none) (tab := t_D_climb  P) (by decide) rfl zD ztc ztb zad _ F P sz0 (Nat.le_of_ble_eq_true rfl) (fun p e s m args below meth c C hr hlk => a_D_climb  C hr hlk) ?_
  intro Rr go
  have hF : F = (mx_put (mx_put (mx_put (mx_put (mx_put (mx_put (mx_put F 3 (e_W n)) 4 (mx_ia 360 lt)) 5 (mx_ia 61 st)) 7 (mx_ia 60 ds)) 8 (mx_la 60 cs)) 6 (e_D rc sh wt)) 9 (mx_ia 60 rg)) := by rw [mx_self h3, mx_self h4, mx_self h5, mx_self h7, mx_self h8, mx_self h6, mx_self h9]
  have hX : (mx_put (mx_put (mx_put (mx_put (mx_put F 3 (e_W n)) 4 (mx_ia 360 lt)) 5 (mx_ia 61 st)) 7 (mx_ia 60 ds)) 8 (mx_la 60 cs)) = F := by rw [mx_self h3, mx_self h4, mx_self h5, mx_self h7, mx_self h8]
  rw [hF]
  have hn := hw.1.1
  have hR : ∀ x y, (stepP N ch kd) x y → (stepP N ch kd) y x := fun x y h => stepP_c h
  have loop : ∀ (m k : Nat) (rg' : Nat → Int32), k + m = D → (∀ q, q ≤ k → rg' q = nI (lad n (stepP N ch kd) t a D q)) → Rr 21 [some (mx_r 6), some (mx_i (nI a)), some (mx_i (nI kd)), some (mx_i (nI m - nI 1))] [] (mx_put (mx_put (mx_put (mx_put (mx_put (mx_put (mx_put F 3 (e_W n)) 4 (mx_ia 360 lt)) 5 (mx_ia 61 st)) 7 (mx_ia 60 ds)) 8 (mx_la 60 cs)) 9 (mx_ia 60 rg')) 6 (e_D (nI (k + 1)) sh wt)) 0 0 := by
    intro m
    induction m with
    | zero =>
      intro k rg' hm hr
      refine go rfl ⟨_, rfl, ?_⟩
      refine go rfl ⟨_, _, rfl, fun c => ?_, fun c => ?_⟩
      · refine go rfl ⟨rfl, rfl, rfl, ?_⟩
        rw [hX, show k = D by omega]
        exact hp rg' (fun q hq2 => hr q (by omega))
      · exact absurd (by decide) c
    | succ m ih =>
      intro k rg' hm hr
      have ih := ih (k + 1)
      rw [show nI (m + 1) - nI 1 = nI m from pk_sub (by omega)]
      refine go rfl ⟨_, rfl, ?_⟩
      refine go rfl ⟨_, _, rfl, fun c => ?_, fun c => ?_⟩
      · exact absurd c (nI_pos (by omega))
      refine go rfl ⟨_, rfl, ?_⟩
      refine go rfl ⟨_, _, _, _, rfl, rfl, rfl, ?_⟩
      refine go rfl ⟨_, rfl, ?_⟩
      refine go rfl ⟨_, _, _, _, rfl, rfl, rfl, ?_⟩
      refine go rfl ⟨_, _, _, _, rfl, rfl, ?_⟩
      refine go rfl ⟨_, _, _, rfl, fun c2 => ?_, fun c2 => ?_⟩
      · exact absurd ((nI_leI (by omega) (by omega)).mp c2) (by omega)
      have hl := lad_ok hR ha hda k (by omega)
      refine go rfl ⟨_, rfl, ?_⟩
      refine go rfl ⟨_, _, _, _, rfl, rfl, rfl, ?_⟩
      refine go rfl ⟨_, rfl, ?_⟩
      refine go rfl ⟨_, _, _, _, rfl, rfl, rfl, ?_⟩
      refine go rfl ⟨_, rfl, ?_⟩
      refine go rfl ⟨_, rfl, ?_⟩
      refine go rfl ⟨_, _, _, _, rfl, rfl, rfl, ?_⟩
      refine go rfl ⟨_, rfl, ?_⟩
      refine go rfl ⟨_, _, _, _, rfl, rfl, rfl, ?_⟩
      refine go rfl ?_
      refine go rfl ⟨_, _, _, rfl, ?_⟩
      rw [pk_sub (by omega), show k + 1 - 1 = k by omega]
      refine go rfl ⟨_, _, _, _, _, rfl, rfl, (vp_in_nI (show k < 60 by omega) (by omega)), ?_⟩
      rw [nI_clamp (by omega), hr k (Nat.le_refl k)]
      refine go rfl ⟨_, rfl, ?_⟩
      refine go rfl ⟨_, rfl, ?_⟩
      have em : D - (k + 1) = m := by omega
      have hex := lad_ex hR ha hda (show k < D by omega)
      rw [em] at hex
      refine go rfl ⟨_, _, _, _, _, _, rfl, rfl, rfl, rfl, rfl, ⟨n, N, ch, S, lt, st, _, _, _, ds, cs, kd, t, D, m, _, rfl, rfl, rfl, rfl, hw, rfl, rfl, rfl, hl.1, hk, by omega, by omega, hq, hex, ?_⟩⟩
      rw [show lst (fun v => de n (stepP N ch kd) t m v = some m ∧ stepP N ch kd (lad n (stepP N ch kd) t a D k) v) n = lad n (stepP N ch kd) t a D (k + 1) by rw [← em]; rfl]
      refine go rfl ⟨_, _, _, _, _, _, rfl, rfl, (vp_in_nI (show k + 1 < 60 by omega) (by omega)), ?_⟩
      rw [nI_clamp (by omega), mx_pc _ _ _ (show (9 : Nat) ≠ 6 by decide), mx_pp]
      refine go rfl ⟨_, rfl, ?_⟩
      refine go rfl ⟨_, _, rfl, rfl, ?_⟩
      refine go rfl ⟨_, _, _, _, rfl, rfl, rfl, ?_⟩
      refine go rfl ?_
      refine go rfl ⟨_, _, _, rfl, ?_⟩
      rw [nI_add]
      refine go rfl ⟨_, _, _, _, rfl, rfl, (Nat.le_of_ble_eq_true rfl), ?_⟩
      rw [mx_pp]
      refine go rfl ⟨_, rfl, ?_⟩
      refine go rfl ?_
      rw [show nI m + -1 = nI m - nI 1 by rw [Int32.sub_eq_add_neg, show -nI 1 = (-1 : Int32) by decide]]
      refine ih _ (by omega) (fun q hq2 => ?_)
      by_cases e : q = k + 1
      · rw [e, pk_us]
      · rw [pk_un e]
        exact hr q (by omega)
  refine go rfl ⟨_, rfl, ?_⟩
  refine go rfl ⟨_, _, _, _, rfl, rfl, rfl, ?_⟩
  refine go rfl ?_
  refine go rfl ⟨_, rfl, ?_⟩
  refine go rfl ⟨_, _, _, _, _, _, rfl, rfl, (vp_in_nI (show 0 < 60 by omega) (by omega)), ?_⟩
  rw [nI_clamp (by omega), mx_pp]
  refine go rfl ⟨_, rfl, ?_⟩
  refine go rfl ?_
  refine go rfl ⟨_, _, _, _, rfl, rfl, (Nat.le_of_ble_eq_true rfl), ?_⟩
  rw [mx_pc _ _ _ (show (9 : Nat) ≠ 6 by decide), mx_pp]
  refine go rfl ⟨_, rfl, ?_⟩
  refine go rfl ⟨_, _, _, _, rfl, rfl, rfl, ?_⟩
  refine go rfl ⟨_, rfl, ?_⟩
  refine go rfl ⟨_, _, _, _, _, rfl, rfl, (vp_in_nI (show a < 60 by omega) (by omega)), ?_⟩
  rw [nI_clamp (by omega), hq a ha, hda]
  show Rr 18 _ [mx_i (nI D)] _ 0 0
  refine go rfl ?_
  refine go rfl ⟨_, _, _, rfl, ?_⟩
  refine go rfl ⟨_, _, rfl, ?_⟩
  refine loop D 0 _ (by omega) (fun q hq2 => ?_)
  rw [show q = 0 by omega, pk_us]
  rfl
-- LadderWords$Ladders.find(III)I
def sp_D_find : mx_Sp := fun As F P => ∃ (n : Nat) (N : Nat → Nat) (ch : Nat → Nat → Int32) (S : Nat → Nat) (lt st : Nat → Int32) (rc : Int32) (sh : Int64) (wt : Int32) (ds rg : Nat → Int32) (cs : Nat → Int64) (x y z : Int32), As = [mx_r 6, mx_i x, mx_i y, mx_i z] ∧ F 3 = some (e_W n) ∧ F 4 = some (mx_ia 360 lt) ∧ F 5 = some (mx_ia 61 st) ∧ wst n N ch S lt st ∧ F 6 = some (e_D rc sh wt) ∧ F 7 = some (mx_ia 60 ds) ∧ F 8 = some (mx_la 60 cs) ∧ F 9 = some (mx_ia 60 rg) ∧ ((¬ ∃ a t kd, a < n ∧ t < n ∧ kd ≤ 1 ∧ x = nI a ∧ y = nI t ∧ z = nI kd) → P (some (mx_i (-1))) (mx_put F 6 (e_D (nI 0) 0 wt))) ∧ ∀ a t kd, a < n → t < n → kd ≤ 1 → x = nI a → y = nI t → z = nI kd → ((∀ d, de n (stepP N ch kd) t d a = none) → ∀ ds' cs', P (some (mx_i (-1))) (mx_put (mx_put (mx_put F 6 (e_D (nI 0) 0 wt)) 7 (mx_ia 60 ds')) 8 (mx_la 60 cs'))) ∧ (∀ D, de n (stepP N ch kd) t D a = some D → ∀ ds' cs' rg' sh', (∀ k, k ≤ D → rg' k = nI (lad n (stepP N ch kd) t a D k)) → P (some (mx_i (nI D))) (mx_put (mx_put (mx_put (mx_put F 7 (mx_ia 60 ds')) 8 (mx_la 60 cs')) 9 (mx_ia 60 rg')) 6 (e_D (nI (D + 1)) sh' (nI n))))
theorem d_D_find_0 : decode c_D_find 0 = .ok (.aload_n 0, 1) := by decide +kernel
theorem d_D_find_1 : decode c_D_find 1 = .ok (.iconst 0, 1) := by decide +kernel
theorem d_D_find_2 : decode c_D_find 2 = .ok (.putfield 26, 3) := by decide +kernel
theorem d_D_find_5 : decode c_D_find 5 = .ok (.aload_n 0, 1) := by decide +kernel
theorem d_D_find_6 : decode c_D_find 6 = .ok (.lconst 0, 1) := by decide +kernel
theorem d_D_find_7 : decode c_D_find 7 = .ok (.putfield 30, 3) := by decide +kernel
theorem d_D_find_10 : decode c_D_find 10 = .ok (.aload_n 0, 1) := by decide +kernel
theorem d_D_find_11 : decode c_D_find 11 = .ok (.getfield 22, 3) := by decide +kernel
theorem d_D_find_14 : decode c_D_find 14 = .ok (.iload_n 1, 1) := by decide +kernel
theorem d_D_find_15 : decode c_D_find 15 = .ok (.invokevirtual 34, 3) := by decide +kernel
theorem d_D_find_18 : decode c_D_find 18 = .ok (.ifCond .eq 23, 3) := by decide +kernel
theorem d_D_find_21 : decode c_D_find 21 = .ok (.aload_n 0, 1) := by decide +kernel
theorem d_D_find_22 : decode c_D_find 22 = .ok (.getfield 22, 3) := by decide +kernel
theorem d_D_find_25 : decode c_D_find 25 = .ok (.iload_n 2, 1) := by decide +kernel
theorem d_D_find_26 : decode c_D_find 26 = .ok (.invokevirtual 34, 3) := by decide +kernel
theorem d_D_find_29 : decode c_D_find 29 = .ok (.ifCond .eq 12, 3) := by decide +kernel
theorem d_D_find_32 : decode c_D_find 32 = .ok (.iload_n 3, 1) := by decide +kernel
theorem d_D_find_33 : decode c_D_find 33 = .ok (.ifCond .eq 10, 3) := by decide +kernel
theorem d_D_find_36 : decode c_D_find 36 = .ok (.iload_n 3, 1) := by decide +kernel
theorem d_D_find_37 : decode c_D_find 37 = .ok (.iconst 1, 1) := by decide +kernel
theorem d_D_find_38 : decode c_D_find 38 = .ok (.if_icmp .eq 5, 3) := by decide +kernel
theorem d_D_find_41 : decode c_D_find 41 = .ok (.iconst (-1), 1) := by decide +kernel
theorem d_D_find_42 : decode c_D_find 42 = .ok (.ireturn, 1) := by decide +kernel
theorem d_D_find_43 : decode c_D_find 43 = .ok (.aload_n 0, 1) := by decide +kernel
theorem d_D_find_44 : decode c_D_find 44 = .ok (.iload_n 1, 1) := by decide +kernel
theorem d_D_find_45 : decode c_D_find 45 = .ok (.iload_n 2, 1) := by decide +kernel
theorem d_D_find_46 : decode c_D_find 46 = .ok (.iload_n 3, 1) := by decide +kernel
theorem d_D_find_47 : decode c_D_find 47 = .ok (.invokevirtual 40, 3) := by decide +kernel
theorem d_D_find_50 : decode c_D_find 50 = .ok (.aload_n 0, 1) := by decide +kernel
theorem d_D_find_51 : decode c_D_find 51 = .ok (.getfield 9, 3) := by decide +kernel
theorem d_D_find_54 : decode c_D_find 54 = .ok (.iload_n 1, 1) := by decide +kernel
theorem d_D_find_55 : decode c_D_find 55 = .ok (.iaload, 1) := by decide +kernel
theorem d_D_find_56 : decode c_D_find 56 = .ok (.iconst (-1), 1) := by decide +kernel
theorem d_D_find_57 : decode c_D_find 57 = .ok (.if_icmp .ne 5, 3) := by decide +kernel
theorem d_D_find_60 : decode c_D_find 60 = .ok (.iconst (-1), 1) := by decide +kernel
theorem d_D_find_61 : decode c_D_find 61 = .ok (.ireturn, 1) := by decide +kernel
theorem d_D_find_62 : decode c_D_find 62 = .ok (.aload_n 0, 1) := by decide +kernel
theorem d_D_find_63 : decode c_D_find 63 = .ok (.iload_n 1, 1) := by decide +kernel
theorem d_D_find_64 : decode c_D_find 64 = .ok (.iload_n 3, 1) := by decide +kernel
theorem d_D_find_65 : decode c_D_find 65 = .ok (.invokevirtual 44, 3) := by decide +kernel
theorem d_D_find_68 : decode c_D_find 68 = .ok (.aload_n 0, 1) := by decide +kernel
theorem d_D_find_69 : decode c_D_find 69 = .ok (.aload_n 0, 1) := by decide +kernel
theorem d_D_find_70 : decode c_D_find 70 = .ok (.getfield 15, 3) := by decide +kernel
theorem d_D_find_73 : decode c_D_find 73 = .ok (.iload_n 1, 1) := by decide +kernel
theorem d_D_find_74 : decode c_D_find 74 = .ok (.laload, 1) := by decide +kernel
theorem d_D_find_75 : decode c_D_find 75 = .ok (.putfield 30, 3) := by decide +kernel
theorem d_D_find_78 : decode c_D_find 78 = .ok (.aload_n 0, 1) := by decide +kernel
theorem d_D_find_79 : decode c_D_find 79 = .ok (.aload_n 0, 1) := by decide +kernel
theorem d_D_find_80 : decode c_D_find 80 = .ok (.getfield 22, 3) := by decide +kernel
theorem d_D_find_83 : decode c_D_find 83 = .ok (.invokevirtual 48, 3) := by decide +kernel
theorem d_D_find_86 : decode c_D_find 86 = .ok (.putfield 52, 3) := by decide +kernel
theorem d_D_find_89 : decode c_D_find 89 = .ok (.aload_n 0, 1) := by decide +kernel
theorem d_D_find_90 : decode c_D_find 90 = .ok (.getfield 9, 3) := by decide +kernel
theorem d_D_find_93 : decode c_D_find 93 = .ok (.iload_n 1, 1) := by decide +kernel
theorem d_D_find_94 : decode c_D_find 94 = .ok (.iaload, 1) := by decide +kernel
theorem d_D_find_95 : decode c_D_find 95 = .ok (.ireturn, 1) := by decide +kernel
abbrev w_D_find : List Cond := mx_ws y_D_find c_D_find 4 (some .int)
abbrev rm_D_find : Room := { frames := 60, cells := 0, slots := 0, locals := 1200 }
def t_D_find  (P : Option mx_V → mx_F → Prop) : List (Nat × mx_O) := [
  (0, mx_aload 0 1),
  (1, mx_push (.inl (nI 0)) 2),
  (2, mx_puti 2 4 5),
  (5, mx_aload 0 6),
  (6, mx_push (.inr (.inl 0)) 7),
  (7, mx_putl 2 5 10),
  (10, mx_aload 0 11),
  (11, mx_get 2 0 14),
  (14, mx_iload 1 15),
  (15, mx_cv1 5 sp_W_has 0 0 18),
  (18, mx_if_eq 41 21),
  (21, mx_aload 0 22),
  (22, mx_get 2 0 25),
  (25, mx_iload 2 26),
  (26, mx_cv1 5 sp_W_has 0 0 29),
  (29, mx_if_eq 41 32),
  (32, mx_iload 3 33),
  (33, mx_if_eq 43 36),
  (36, mx_iload 3 37),
  (37, mx_push (.inl (nI 1)) 38),
  (38, mx_ic_eq 43 41),
  (41, mx_push (.inl (-1)) 42),
  (42, mx_iret P),
  (43, mx_aload 0 44),
  (44, mx_iload 1 45),
  (45, mx_iload 2 46),
  (46, mx_iload 3 47),
  (47, mx_cv3 2 sp_D_measure 0 0 50),
  (50, mx_aload 0 51),
  (51, mx_get 2 1 54),
  (54, mx_iload 1 55),
  (55, mx_iald 56),
  (56, mx_push (.inl (-1)) 57),
  (57, mx_ic_ne 62 60),
  (60, mx_push (.inl (-1)) 61),
  (61, mx_iret P),
  (62, mx_aload 0 63),
  (63, mx_iload 1 64),
  (64, mx_iload 3 65),
  (65, mx_cv2 2 sp_D_climb 0 0 68),
  (68, mx_aload 0 69),
  (69, mx_aload 0 70),
  (70, mx_get 2 2 73),
  (73, mx_iload 1 74),
  (74, mx_lald 75),
  (75, mx_putl 2 5 78),
  (78, mx_aload 0 79),
  (79, mx_aload 0 80),
  (80, mx_get 2 0 83),
  (83, mx_cv0 5 sp_W_count 0 0 86),
  (86, mx_puti 2 6 89),
  (89, mx_aload 0 90),
  (90, mx_get 2 1 93),
  (93, mx_iload 1 94),
  (94, mx_iald 95),
  (95, mx_iret P)]
set_option maxRecDepth 20000 in
theorem a_D_find  {p : Program} {l : Launch} {e : Env} {s : State} {m : MethodId} {args : Array Value} {below : List Frame} {meth : Method} {c : Code} {D : va_G} {tc : Nat → ClassId} {tb : Nat → Nat} {sz : Nat} {a0 : Nat → Nat} {G : mx_F} {P : Option mx_V → mx_F → Prop}  (C : mx_C p s m args c c_D_find y_D_find.cls w_D_find D tc tb (mx_A a0 G sz) 4 (mx_Ok0 a0 G)) (hr : meth.sig.returnType = (some .int)) (hlk : meth.locks = false) : mx_all (mx_W p l e rm_D_find s m args below meth c (MQ below (mx_Q D tc tb a0 G sz P) args s 0 0 (mx_A a0 G sz)) D tc tb (mx_A a0 G sz) 4 (mx_Ok0 a0 G)) (t_D_find  P) :=
  ⟨mx_s_aload_n C d_D_find_0 rfl,
  mx_s_iconst C d_D_find_1 (by decide),
  mx_s_puti (T := T_D) (N := 7) (k := 4) C (fun w h => List.mem_cons_of_mem _ (in_D w h)) rfl ty_D ok_D nm_D (by decide) (List.mem_cons_of_mem _ fk_D_26) rfl rfl (ok_D 4 (by decide)) d_D_find_2,
  mx_s_aload_n C d_D_find_5 rfl,
  mx_s_lconst C d_D_find_6 (by decide),
  mx_s_putl (T := T_D) (N := 7) (k := 5) C (fun w h => List.mem_cons_of_mem _ (in_D w h)) rfl ty_D ok_D nm_D (by decide) (List.mem_cons_of_mem _ fk_D_30) rfl rfl (ok_D 5 (by decide)) d_D_find_7,
  mx_s_aload_n C d_D_find_10 rfl,
  mx_s_get (T := T_D) (N := 7) (k := 0) C (fun w h => List.mem_cons_of_mem _ (in_D w h)) rfl (by decide) (List.mem_cons_of_mem _ fk_D_22) rfl d_D_find_11,
  mx_s_iload_n C d_D_find_14 rfl,
  mx_s_cv1 C (m_W_has l) rfl (cwV 1 C.2.2.2.2.1 (mx_gV (fun w h => List.mem_cons_of_mem _ h) mk_D_34 im_W_has se_W_has ic_W co_W_has) rfl rfl rfl (by decide +kernel) ⟨by decide, by decide⟩) d_D_find_15 ⟨Nat.zero_le _, Nat.zero_le _⟩,
  mx_s_if_eq C d_D_find_18 (by decide),
  mx_s_aload_n C d_D_find_21 rfl,
  mx_s_get (T := T_D) (N := 7) (k := 0) C (fun w h => List.mem_cons_of_mem _ (in_D w h)) rfl (by decide) (List.mem_cons_of_mem _ fk_D_22) rfl d_D_find_22,
  mx_s_iload_n C d_D_find_25 rfl,
  mx_s_cv1 C (m_W_has l) rfl (cwV 1 C.2.2.2.2.1 (mx_gV (fun w h => List.mem_cons_of_mem _ h) mk_D_34 im_W_has se_W_has ic_W co_W_has) rfl rfl rfl (by decide +kernel) ⟨by decide, by decide⟩) d_D_find_26 ⟨Nat.zero_le _, Nat.zero_le _⟩,
  mx_s_if_eq C d_D_find_29 (by decide),
  mx_s_iload_n C d_D_find_32 rfl,
  mx_s_if_eq C d_D_find_33 (by decide),
  mx_s_iload_n C d_D_find_36 rfl,
  mx_s_iconst C d_D_find_37 (by decide),
  mx_s_ic_eq C d_D_find_38 (by decide),
  mx_s_iconst C d_D_find_41 (by decide),
  mx_s_iret C hr hlk d_D_find_42,
  mx_s_aload_n C d_D_find_43 rfl,
  mx_s_iload_n C d_D_find_44 rfl,
  mx_s_iload_n C d_D_find_45 rfl,
  mx_s_iload_n C d_D_find_46 rfl,
  mx_s_cv3 C (m_D_measure l) rfl (cwV 3 C.2.2.2.2.1 (mx_gV (fun w h => List.mem_cons_of_mem _ h) mk_D_40 im_D_measure se_D_measure ic_D co_D_measure) rfl rfl rfl (by decide +kernel) ⟨by decide, by decide⟩) d_D_find_47 ⟨Nat.zero_le _, Nat.zero_le _⟩,
  mx_s_aload_n C d_D_find_50 rfl,
  mx_s_get (T := T_D) (N := 7) (k := 1) C (fun w h => List.mem_cons_of_mem _ (in_D w h)) rfl (by decide) (List.mem_cons_of_mem _ fk_D_9) rfl d_D_find_51,
  mx_s_iload_n C d_D_find_54 rfl,
  mx_s_iald C d_D_find_55,
  mx_s_iconst C d_D_find_56 (by decide),
  mx_s_ic_ne C d_D_find_57 (by decide),
  mx_s_iconst C d_D_find_60 (by decide),
  mx_s_iret C hr hlk d_D_find_61,
  mx_s_aload_n C d_D_find_62 rfl,
  mx_s_iload_n C d_D_find_63 rfl,
  mx_s_iload_n C d_D_find_64 rfl,
  mx_s_cv2 C (m_D_climb l) rfl (cwV 2 C.2.2.2.2.1 (mx_gV (fun w h => List.mem_cons_of_mem _ h) mk_D_44 im_D_climb se_D_climb ic_D co_D_climb) rfl rfl rfl (by decide +kernel) ⟨by decide, by decide⟩) d_D_find_65 ⟨Nat.zero_le _, Nat.zero_le _⟩,
  mx_s_aload_n C d_D_find_68 rfl,
  mx_s_aload_n C d_D_find_69 rfl,
  mx_s_get (T := T_D) (N := 7) (k := 2) C (fun w h => List.mem_cons_of_mem _ (in_D w h)) rfl (by decide) (List.mem_cons_of_mem _ fk_D_15) rfl d_D_find_70,
  mx_s_iload_n C d_D_find_73 rfl,
  mx_s_lald C d_D_find_74,
  mx_s_putl (T := T_D) (N := 7) (k := 5) C (fun w h => List.mem_cons_of_mem _ (in_D w h)) rfl ty_D ok_D nm_D (by decide) (List.mem_cons_of_mem _ fk_D_30) rfl rfl (ok_D 5 (by decide)) d_D_find_75,
  mx_s_aload_n C d_D_find_78 rfl,
  mx_s_aload_n C d_D_find_79 rfl,
  mx_s_get (T := T_D) (N := 7) (k := 0) C (fun w h => List.mem_cons_of_mem _ (in_D w h)) rfl (by decide) (List.mem_cons_of_mem _ fk_D_22) rfl d_D_find_80,
  mx_s_cv0 C (m_W_count l) rfl (cwV 0 C.2.2.2.2.1 (mx_gV (fun w h => List.mem_cons_of_mem _ h) mk_D_48 im_W_count se_W_count ic_W co_W_count) rfl rfl rfl (by decide +kernel) ⟨by decide, by decide⟩) d_D_find_83 ⟨Nat.zero_le _, Nat.zero_le _⟩,
  mx_s_puti (T := T_D) (N := 7) (k := 6) C (fun w h => List.mem_cons_of_mem _ (in_D w h)) rfl ty_D ok_D nm_D (by decide) (List.mem_cons_of_mem _ fk_D_52) rfl rfl (ok_D 6 (by decide)) d_D_find_86,
  mx_s_aload_n C d_D_find_89 rfl,
  mx_s_get (T := T_D) (N := 7) (k := 1) C (fun w h => List.mem_cons_of_mem _ (in_D w h)) rfl (by decide) (List.mem_cons_of_mem _ fk_D_9) rfl d_D_find_90,
  mx_s_iload_n C d_D_find_93 rfl,
  mx_s_iald C d_D_find_94,
  mx_s_iret C hr hlk d_D_find_95,
  trivial⟩
set_option maxRecDepth 20000 in
set_option maxHeartbeats 2000000 in
theorem m_D_find (l : Launch) : mx_M l y_D_find w_D_find rm_D_find sp_D_find := by
  intro zD ztc ztb zad As F P sz0 h
  obtain ⟨n, N, ch, S, lt, st, rc, sh, wt, ds, rg, cs, x, y, z, rfl, h3, h4, h5, hw, h6, h7, h8, h9, hz, ho⟩ := h
  refine mx_run (cc := c_D_find) (maxL := 4) (ret := (some .int)) (tab := t_D_find  P) (by decide) rfl zD ztc ztb zad _ F P sz0 (Nat.le_of_ble_eq_true rfl) (fun p e s m args below meth c C hr hlk => a_D_find  C hr hlk) ?_
  intro Rr go
  have hF : F = (mx_put (mx_put (mx_put (mx_put (mx_put (mx_put (mx_put F 3 (e_W n)) 4 (mx_ia 360 lt)) 5 (mx_ia 61 st)) 9 (mx_ia 60 rg)) 7 (mx_ia 60 ds)) 8 (mx_la 60 cs)) 6 (e_D rc sh wt)) := by rw [mx_self h3, mx_self h4, mx_self h5, mx_self h9, mx_self h7, mx_self h8, mx_self h6]
  have hY : (mx_put (mx_put (mx_put (mx_put (mx_put (mx_put F 3 (e_W n)) 4 (mx_ia 360 lt)) 5 (mx_ia 61 st)) 9 (mx_ia 60 rg)) 7 (mx_ia 60 ds)) 8 (mx_la 60 cs)) = F := by rw [mx_self h3, mx_self h4, mx_self h5, mx_self h9, mx_self h7, mx_self h8]
  have hY3 : (mx_put (mx_put (mx_put F 3 (e_W n)) 4 (mx_ia 360 lt)) 5 (mx_ia 61 st)) = F := by rw [mx_self h3, mx_self h4, mx_self h5]
  have hY4 : (mx_put (mx_put (mx_put (mx_put F 3 (e_W n)) 4 (mx_ia 360 lt)) 5 (mx_ia 61 st)) 9 (mx_ia 60 rg)) = F := by rw [mx_self h3, mx_self h4, mx_self h5, mx_self h9]
  rw [hF]
  have hn := hw.1.1
  have bad : (¬ ∃ a t kd, a < n ∧ t < n ∧ kd ≤ 1 ∧ x = nI a ∧ y = nI t ∧ z = nI kd) → Rr 41 (mx_en [mx_r 6, mx_i x, mx_i y, mx_i z] 4) [] (mx_put (mx_put (mx_put (mx_put (mx_put (mx_put (mx_put F 3 (e_W n)) 4 (mx_ia 360 lt)) 5 (mx_ia 61 st)) 9 (mx_ia 60 rg)) 7 (mx_ia 60 ds)) 8 (mx_la 60 cs)) 6 (e_D (nI 0) 0 wt)) 0 0 := by
    intro h
    refine go rfl ?_
    refine go rfl ⟨_, rfl, rfl, rfl, ?_⟩
    rw [hY]
    exact hz h
  refine go rfl ⟨_, rfl, ?_⟩
  refine go rfl ?_
  refine go rfl ⟨_, _, _, _, rfl, rfl, (Nat.le_of_ble_eq_true rfl), ?_⟩
  refine go rfl ⟨_, rfl, ?_⟩
  refine go rfl ?_
  refine go rfl ⟨_, _, _, _, rfl, rfl, (Nat.le_of_ble_eq_true rfl), ?_⟩
  rw [mx_pp, mx_pp]
  refine go rfl ⟨_, rfl, ?_⟩
  refine go rfl ⟨_, _, _, _, rfl, rfl, rfl, ?_⟩
  refine go rfl ⟨_, rfl, ?_⟩
  refine go rfl ⟨_, _, _, _, rfl, rfl, rfl, rfl, rfl, ⟨n, x, rfl, rfl, fun c => ?_, fun c => ?_⟩⟩
  · refine go rfl ⟨_, _, rfl, fun e => ?_, fun e => ?_⟩
    · refine bad ?_
      rintro ⟨a, t, kd, q1, q2, q3, rfl, _⟩
      rcases c with c | c
      · exact nI_pos (by omega) c
      · exact absurd ((nI_leI (by omega) (by omega)).mp c) (by omega)
    · exact absurd rfl e
  rcases pk_ix x (n := n) (by omega) with q | q | ⟨a, ha, rfl⟩
  · exact absurd (Or.inl q) c
  · exact absurd (Or.inr q) c
  refine go rfl ⟨_, _, rfl, fun e => ?_, fun e => ?_⟩
  · exact absurd e (by decide)
  refine go rfl ⟨_, rfl, ?_⟩
  refine go rfl ⟨_, _, _, _, rfl, rfl, rfl, ?_⟩
  refine go rfl ⟨_, rfl, ?_⟩
  refine go rfl ⟨_, _, _, _, rfl, rfl, rfl, rfl, rfl, ⟨n, y, rfl, rfl, fun c2 => ?_, fun c2 => ?_⟩⟩
  · refine go rfl ⟨_, _, rfl, fun e => ?_, fun e => ?_⟩
    · refine bad ?_
      rintro ⟨a', t, kd, q1, q2, q3, _, rfl, _⟩
      rcases c2 with c | c
      · exact nI_pos (by omega) c
      · exact absurd ((nI_leI (by omega) (by omega)).mp c) (by omega)
    · exact absurd rfl e
  rcases pk_ix y (n := n) (by omega) with q | q | ⟨t, ht, rfl⟩
  · exact absurd (Or.inl q) c2
  · exact absurd (Or.inr q) c2
  refine go rfl ⟨_, _, rfl, fun e => ?_, fun e => ?_⟩
  · exact absurd e (by decide)
  have good : ∀ kd, kd ≤ 1 → z = nI kd → Rr 43 (mx_en [mx_r 6, mx_i (nI a), mx_i (nI t), mx_i z] 4) [] (mx_put (mx_put (mx_put (mx_put (mx_put (mx_put (mx_put F 3 (e_W n)) 4 (mx_ia 360 lt)) 5 (mx_ia 61 st)) 9 (mx_ia 60 rg)) 7 (mx_ia 60 ds)) 8 (mx_la 60 cs)) 6 (e_D (nI 0) 0 wt)) 0 0 := by
    intro kd hk ez
    subst ez
    have ho := ho a t kd ha ht hk rfl rfl rfl
    refine go rfl ⟨_, rfl, ?_⟩
    refine go rfl ⟨_, rfl, ?_⟩
    refine go rfl ⟨_, rfl, ?_⟩
    refine go rfl ⟨_, rfl, ?_⟩
    refine go rfl ⟨_, _, _, _, _, _, rfl, rfl, rfl, rfl, rfl, ⟨n, N, ch, S, lt, st, _, _, _, ds, cs, kd, t, a, rfl, rfl, rfl, rfl, hw, rfl, rfl, rfl, ha, ht, hk, fun ds' cs' D hD hq hno hx => ?_⟩⟩
    rw [mx_pc _ _ _ (show (7 : Nat) ≠ 6 by decide), mx_pc _ _ _ (show (7 : Nat) ≠ 8 by decide), mx_pp, mx_pc _ _ _ (show (8 : Nat) ≠ 6 by decide), mx_pp]
    refine go rfl ⟨_, rfl, ?_⟩
    refine go rfl ⟨_, _, _, _, rfl, rfl, rfl, ?_⟩
    refine go rfl ⟨_, rfl, ?_⟩
    refine go rfl ⟨_, _, _, _, _, rfl, rfl, (vp_in_nI (show a < 60 by omega) (by omega)), ?_⟩
    rw [nI_clamp (by omega), hq a ha]
    refine go rfl ?_
    refine go rfl ⟨_, _, _, rfl, fun e => ?_, fun e => ?_⟩
    rotate_left
    · have e := (oi_m1 (oi_b (by omega))).mp e
      have hDn : D = n := hx.elim id (fun h => absurd e h)
      subst hDn
      refine go rfl ?_
      refine go rfl ⟨_, rfl, rfl, rfl, ?_⟩
      rw [hY4, mx_pc _ _ _ (show (6 : Nat) ≠ 8 by decide), mx_pc _ _ _ (show (6 : Nat) ≠ 7 by decide)]
      exact ho.1 (de_fin e) ds' cs'
    cases hd : de n (stepP N ch kd) t D a with
    | none =>
      rw [hd] at e
      exact absurd rfl e
    | some k =>
      have ek := de_first hno hd
      subst ek
      have hkn := de_lt ha hd
      refine go rfl ⟨_, rfl, ?_⟩
      refine go rfl ⟨_, rfl, ?_⟩
      refine go rfl ⟨_, rfl, ?_⟩
      refine go rfl ⟨_, _, _, _, _, rfl, rfl, rfl, rfl, rfl, ⟨n, N, ch, S, lt, st, _, _, _, ds', rg, cs', kd, t, k, a, rfl, rfl, rfl, rfl, hw, rfl, rfl, rfl, rfl, ha, hk, by omega, hq, hd, fun rg' hr => ?_⟩⟩
      rw [mx_pc _ _ _ (show (9 : Nat) ≠ 6 by decide), mx_pp, mx_pc _ _ _ (show (9 : Nat) ≠ 8 by decide), mx_pc _ _ _ (show (9 : Nat) ≠ 7 by decide), mx_pp]
      refine go rfl ⟨_, rfl, ?_⟩
      refine go rfl ⟨_, rfl, ?_⟩
      refine go rfl ⟨_, _, _, _, rfl, rfl, rfl, ?_⟩
      refine go rfl ⟨_, rfl, ?_⟩
      refine go rfl ⟨_, _, _, _, _, rfl, rfl, (vp_in_nI (show a < 60 by omega) (by omega)), ?_⟩
      refine go rfl ⟨_, _, _, _, rfl, rfl, (Nat.le_of_ble_eq_true rfl), ?_⟩
      rw [mx_pp]
      refine go rfl ⟨_, rfl, ?_⟩
      refine go rfl ⟨_, rfl, ?_⟩
      refine go rfl ⟨_, _, _, _, rfl, rfl, rfl, ?_⟩
      refine go rfl ⟨_, _, _, rfl, rfl, rfl, rfl, rfl, ⟨n, rfl, rfl, ?_⟩⟩
      refine go rfl ⟨_, _, _, _, rfl, rfl, (Nat.le_of_ble_eq_true rfl), ?_⟩
      rw [mx_pp]
      refine go rfl ⟨_, rfl, ?_⟩
      refine go rfl ⟨_, _, _, _, rfl, rfl, rfl, ?_⟩
      refine go rfl ⟨_, rfl, ?_⟩
      refine go rfl ⟨_, _, _, _, _, rfl, rfl, (vp_in_nI (show a < 60 by omega) (by omega)), ?_⟩
      rw [nI_clamp (by omega), hq a ha, hd]
      refine go rfl ⟨_, rfl, rfl, rfl, ?_⟩
      rw [hY3, mx_pc _ _ _ (show (7 : Nat) ≠ 9 by decide), mx_pc _ _ _ (show (8 : Nat) ≠ 9 by decide)]
      exact ho.2 k hd ds' cs' rg' _ hr
  refine go rfl ⟨_, rfl, ?_⟩
  refine go rfl ⟨_, _, rfl, fun c3 => ?_, fun c3 => ?_⟩
  · exact good 0 (by omega) c3
  refine go rfl ⟨_, rfl, ?_⟩
  refine go rfl ?_
  refine go rfl ⟨_, _, _, rfl, fun c4 => ?_, fun c4 => ?_⟩
  · exact good 1 (by omega) c4
  refine bad ?_
  rintro ⟨a', t', kd, q1, q2, q3, _, _, e⟩
  rcases (show kd = 0 ∨ kd = 1 by omega) with rfl | rfl
  · exact c3 e
  · exact c4 e
-- LadderWords$Ladders.rungAt(I)I
def sp_D_rungAt : mx_Sp := fun As F P => ∃ (n : Nat) (rn m : Nat) (sh : Int64) (rg : Nat → Int32) (x : Int32), As = [mx_r 6, mx_i x] ∧ F 3 = some (e_W n) ∧ F 6 = some (e_D (nI rn) sh (nI m)) ∧ F 9 = some (mx_ia 60 rg) ∧ n ≤ 60 ∧ m ≤ n ∧ rn ≤ 60 ∧ (∀ k, k < rn → m = n → x = nI k → P (some (mx_i (rg k))) F) ∧ ((¬ ∃ k, k < rn ∧ m = n ∧ x = nI k) → P (some (mx_i (-1))) F)
theorem d_D_rungAt_0 : decode c_D_rungAt 0 = .ok (.iload_n 1, 1) := by decide +kernel
theorem d_D_rungAt_1 : decode c_D_rungAt 1 = .ok (.ifCond .lt 29, 3) := by decide +kernel
theorem d_D_rungAt_4 : decode c_D_rungAt 4 = .ok (.iload_n 1, 1) := by decide +kernel
theorem d_D_rungAt_5 : decode c_D_rungAt 5 = .ok (.aload_n 0, 1) := by decide +kernel
theorem d_D_rungAt_6 : decode c_D_rungAt 6 = .ok (.getfield 26, 3) := by decide +kernel
theorem d_D_rungAt_9 : decode c_D_rungAt 9 = .ok (.if_icmp .ge 21, 3) := by decide +kernel
theorem d_D_rungAt_12 : decode c_D_rungAt 12 = .ok (.aload_n 0, 1) := by decide +kernel
theorem d_D_rungAt_13 : decode c_D_rungAt 13 = .ok (.getfield 52, 3) := by decide +kernel
theorem d_D_rungAt_16 : decode c_D_rungAt 16 = .ok (.aload_n 0, 1) := by decide +kernel
theorem d_D_rungAt_17 : decode c_D_rungAt 17 = .ok (.getfield 22, 3) := by decide +kernel
theorem d_D_rungAt_20 : decode c_D_rungAt 20 = .ok (.invokevirtual 48, 3) := by decide +kernel
theorem d_D_rungAt_23 : decode c_D_rungAt 23 = .ok (.if_icmp .ne 7, 3) := by decide +kernel
theorem d_D_rungAt_26 : decode c_D_rungAt 26 = .ok (.iconst 1, 1) := by decide +kernel
theorem d_D_rungAt_27 : decode c_D_rungAt 27 = .ok (.goto 4, 3) := by decide +kernel
theorem d_D_rungAt_30 : decode c_D_rungAt 30 = .ok (.iconst 0, 1) := by decide +kernel
theorem d_D_rungAt_31 : decode c_D_rungAt 31 = .ok (.istore_n 2, 1) := by decide +kernel
theorem d_D_rungAt_32 : decode c_D_rungAt 32 = .ok (.iload_n 2, 1) := by decide +kernel
theorem d_D_rungAt_33 : decode c_D_rungAt 33 = .ok (.ifCond .eq 12, 3) := by decide +kernel
theorem d_D_rungAt_36 : decode c_D_rungAt 36 = .ok (.aload_n 0, 1) := by decide +kernel
theorem d_D_rungAt_37 : decode c_D_rungAt 37 = .ok (.getfield 19, 3) := by decide +kernel
theorem d_D_rungAt_40 : decode c_D_rungAt 40 = .ok (.iload_n 1, 1) := by decide +kernel
theorem d_D_rungAt_41 : decode c_D_rungAt 41 = .ok (.iaload, 1) := by decide +kernel
theorem d_D_rungAt_42 : decode c_D_rungAt 42 = .ok (.goto 4, 3) := by decide +kernel
theorem d_D_rungAt_45 : decode c_D_rungAt 45 = .ok (.iconst (-1), 1) := by decide +kernel
theorem d_D_rungAt_46 : decode c_D_rungAt 46 = .ok (.ireturn, 1) := by decide +kernel
abbrev w_D_rungAt : List Cond := mx_ws y_D_rungAt c_D_rungAt 3 (some .int)
abbrev rm_D_rungAt : Room := { frames := 20, cells := 0, slots := 0, locals := 400 }
def t_D_rungAt  (P : Option mx_V → mx_F → Prop) : List (Nat × mx_O) := [
  (0, mx_iload 1 1),
  (1, mx_if_lt 30 4),
  (4, mx_iload 1 5),
  (5, mx_aload 0 6),
  (6, mx_get 2 4 9),
  (9, mx_ic_ge 30 12),
  (12, mx_aload 0 13),
  (13, mx_get 2 6 16),
  (16, mx_aload 0 17),
  (17, mx_get 2 0 20),
  (20, mx_cv0 5 sp_W_count 0 0 23),
  (23, mx_ic_ne 30 26),
  (26, mx_push (.inl (nI 1)) 27),
  (27, mx_goto 31),
  (30, mx_push (.inl (nI 0)) 31),
  (31, mx_istore 2 32),
  (32, mx_iload 2 33),
  (33, mx_if_eq 45 36),
  (36, mx_aload 0 37),
  (37, mx_get 2 3 40),
  (40, mx_iload 1 41),
  (41, mx_iald 42),
  (42, mx_goto 46),
  (45, mx_push (.inl (-1)) 46),
  (46, mx_iret P)]
set_option maxRecDepth 20000 in
theorem a_D_rungAt  {p : Program} {l : Launch} {e : Env} {s : State} {m : MethodId} {args : Array Value} {below : List Frame} {meth : Method} {c : Code} {D : va_G} {tc : Nat → ClassId} {tb : Nat → Nat} {sz : Nat} {a0 : Nat → Nat} {G : mx_F} {P : Option mx_V → mx_F → Prop}  (C : mx_C p s m args c c_D_rungAt y_D_rungAt.cls w_D_rungAt D tc tb (mx_A a0 G sz) 3 (mx_Ok0 a0 G)) (hr : meth.sig.returnType = (some .int)) (hlk : meth.locks = false) : mx_all (mx_W p l e rm_D_rungAt s m args below meth c (MQ below (mx_Q D tc tb a0 G sz P) args s 0 0 (mx_A a0 G sz)) D tc tb (mx_A a0 G sz) 3 (mx_Ok0 a0 G)) (t_D_rungAt  P) :=
  ⟨mx_s_iload_n C d_D_rungAt_0 rfl,
  mx_s_if_lt C d_D_rungAt_1 (by decide),
  mx_s_iload_n C d_D_rungAt_4 rfl,
  mx_s_aload_n C d_D_rungAt_5 rfl,
  mx_s_get (T := T_D) (N := 7) (k := 4) C (fun w h => List.mem_cons_of_mem _ (in_D w h)) rfl (by decide) (List.mem_cons_of_mem _ fk_D_26) rfl d_D_rungAt_6,
  mx_s_ic_ge C d_D_rungAt_9 (by decide),
  mx_s_aload_n C d_D_rungAt_12 rfl,
  mx_s_get (T := T_D) (N := 7) (k := 6) C (fun w h => List.mem_cons_of_mem _ (in_D w h)) rfl (by decide) (List.mem_cons_of_mem _ fk_D_52) rfl d_D_rungAt_13,
  mx_s_aload_n C d_D_rungAt_16 rfl,
  mx_s_get (T := T_D) (N := 7) (k := 0) C (fun w h => List.mem_cons_of_mem _ (in_D w h)) rfl (by decide) (List.mem_cons_of_mem _ fk_D_22) rfl d_D_rungAt_17,
  mx_s_cv0 C (m_W_count l) rfl (cwV 0 C.2.2.2.2.1 (mx_gV (fun w h => List.mem_cons_of_mem _ h) mk_D_48 im_W_count se_W_count ic_W co_W_count) rfl rfl rfl (by decide +kernel) ⟨by decide, by decide⟩) d_D_rungAt_20 ⟨Nat.zero_le _, Nat.zero_le _⟩,
  mx_s_ic_ne C d_D_rungAt_23 (by decide),
  mx_s_iconst C d_D_rungAt_26 (by decide),
  mx_s_goto C d_D_rungAt_27 (by decide),
  mx_s_iconst C d_D_rungAt_30 (by decide),
  mx_s_istore_n C d_D_rungAt_31 rfl (by decide),
  mx_s_iload_n C d_D_rungAt_32 rfl,
  mx_s_if_eq C d_D_rungAt_33 (by decide),
  mx_s_aload_n C d_D_rungAt_36 rfl,
  mx_s_get (T := T_D) (N := 7) (k := 3) C (fun w h => List.mem_cons_of_mem _ (in_D w h)) rfl (by decide) (List.mem_cons_of_mem _ fk_D_19) rfl d_D_rungAt_37,
  mx_s_iload_n C d_D_rungAt_40 rfl,
  mx_s_iald C d_D_rungAt_41,
  mx_s_goto C d_D_rungAt_42 (by decide),
  mx_s_iconst C d_D_rungAt_45 (by decide),
  mx_s_iret C hr hlk d_D_rungAt_46,
  trivial⟩
set_option maxRecDepth 20000 in
set_option maxHeartbeats 2000000 in
theorem m_D_rungAt (l : Launch) : mx_M l y_D_rungAt w_D_rungAt rm_D_rungAt sp_D_rungAt := by
  intro zD ztc ztb zad As F P sz0 h
  obtain ⟨n, rn, m, sh, rg, x, rfl, h3, h6, h9, hn, hm, hr, ho, hz⟩ := h
  refine mx_run (cc := c_D_rungAt) (maxL := 3) (ret := (some .int)) (tab := t_D_rungAt  P) (by decide) rfl zD ztc ztb zad _ F P sz0 (Nat.le_of_ble_eq_true rfl) (fun p e s m args below meth c C hr hlk => a_D_rungAt  C hr hlk) ?_
  intro Rr go
  have hF := mx_as3 h3 h6 h9
  rw [hF]
  have z : (¬ ∃ k, k < rn ∧ m = n ∧ x = nI k) → Rr 30 (mx_en [mx_r 6, mx_i x] 3) [] (mx_put (mx_put (mx_put F 3 (e_W n)) 6 (e_D (nI rn) sh (nI m))) 9 (mx_ia 60 rg)) 0 0 := by
    intro h
    refine go rfl ?_
    refine go rfl ⟨_, _, rfl, ?_⟩
    refine go rfl ⟨_, rfl, ?_⟩
    refine go rfl ⟨_, _, rfl, fun e => ?_, fun e => ?_⟩
    · refine go rfl ?_
      refine go rfl ⟨_, rfl, rfl, rfl, ?_⟩
      rw [← hF]
      exact hz h
    · exact absurd rfl e
  refine go rfl ⟨_, rfl, ?_⟩
  refine go rfl ⟨_, _, rfl, fun c1 => ?_, fun c1 => ?_⟩
  · refine z ?_
    rintro ⟨k, q1, q2, rfl⟩
    exact nI_pos (by omega) c1
  refine go rfl ⟨_, rfl, ?_⟩
  refine go rfl ⟨_, rfl, ?_⟩
  refine go rfl ⟨_, _, _, _, rfl, rfl, rfl, ?_⟩
  refine go rfl ⟨_, _, _, rfl, fun c2 => ?_, fun c2 => ?_⟩
  · refine z ?_
    rintro ⟨k, q1, q2, rfl⟩
    exact absurd ((nI_leI (by omega) (by omega)).mp c2) (by omega)
  rcases pk_ix x (n := rn) (by omega) with q | q | ⟨k, hk, rfl⟩
  · exact absurd q c1
  · exact absurd q c2
  refine go rfl ⟨_, rfl, ?_⟩
  refine go rfl ⟨_, _, _, _, rfl, rfl, rfl, ?_⟩
  refine go rfl ⟨_, rfl, ?_⟩
  refine go rfl ⟨_, _, _, _, rfl, rfl, rfl, ?_⟩
  refine go rfl ⟨_, _, _, rfl, rfl, rfl, rfl, rfl, ⟨n, rfl, rfl, ?_⟩⟩
  refine go rfl ⟨_, _, _, rfl, fun c3 => ?_, fun c3 => ?_⟩
  · refine z ?_
    rintro ⟨k, q1, rfl, _⟩
    exact c3 rfl
  have c3 := (nI_eq (by omega) (by omega)).mp c3
  refine go rfl ?_
  refine go rfl ?_
  refine go rfl ⟨_, _, rfl, ?_⟩
  refine go rfl ⟨_, rfl, ?_⟩
  refine go rfl ⟨_, _, rfl, fun e => ?_, fun e => ?_⟩
  · exact absurd e (by decide)
  refine go rfl ⟨_, rfl, ?_⟩
  refine go rfl ⟨_, _, _, _, rfl, rfl, rfl, ?_⟩
  refine go rfl ⟨_, rfl, ?_⟩
  refine go rfl ⟨_, _, _, _, _, rfl, rfl, (vp_in_nI (show k < 60 by omega) (by omega)), ?_⟩
  rw [nI_clamp (by omega)]
  refine go rfl ?_
  refine go rfl ⟨_, rfl, rfl, rfl, ?_⟩
  rw [← hF]
  exact ho k hk c3 rfl
-- LadderWords$Ladders.shortestCount()J
def sp_D_shortestCount : mx_Sp := fun As F P => ∃ (rc : Int32) (sh : Int64) (wt : Int32), As = [mx_r 6] ∧ F 6 = some (e_D rc sh wt) ∧ P (some (mx_l sh)) F
theorem d_D_shortestCount_0 : decode c_D_shortestCount 0 = .ok (.aload_n 0, 1) := by decide +kernel
theorem d_D_shortestCount_1 : decode c_D_shortestCount 1 = .ok (.getfield 30, 3) := by decide +kernel
theorem d_D_shortestCount_4 : decode c_D_shortestCount 4 = .ok (.lreturn, 1) := by decide +kernel
abbrev w_D_shortestCount : List Cond := mx_ws y_D_shortestCount c_D_shortestCount 1 (some .long)
abbrev rm_D_shortestCount : Room := { frames := 10, cells := 0, slots := 0, locals := 200 }
def t_D_shortestCount  (P : Option mx_V → mx_F → Prop) : List (Nat × mx_O) := [
  (0, mx_aload 0 1),
  (1, mx_get 2 5 4),
  (4, mx_lret P)]
set_option maxRecDepth 20000 in
theorem a_D_shortestCount  {p : Program} {l : Launch} {e : Env} {s : State} {m : MethodId} {args : Array Value} {below : List Frame} {meth : Method} {c : Code} {D : va_G} {tc : Nat → ClassId} {tb : Nat → Nat} {sz : Nat} {a0 : Nat → Nat} {G : mx_F} {P : Option mx_V → mx_F → Prop}  (C : mx_C p s m args c c_D_shortestCount y_D_shortestCount.cls w_D_shortestCount D tc tb (mx_A a0 G sz) 1 (mx_Ok0 a0 G)) (hr : meth.sig.returnType = (some .long)) (hlk : meth.locks = false) : mx_all (mx_W p l e rm_D_shortestCount s m args below meth c (MQ below (mx_Q D tc tb a0 G sz P) args s 0 0 (mx_A a0 G sz)) D tc tb (mx_A a0 G sz) 1 (mx_Ok0 a0 G)) (t_D_shortestCount  P) :=
  ⟨mx_s_aload_n C d_D_shortestCount_0 rfl,
  mx_s_get (T := T_D) (N := 7) (k := 5) C (fun w h => List.mem_cons_of_mem _ (in_D w h)) rfl (by decide) (List.mem_cons_of_mem _ fk_D_30) rfl d_D_shortestCount_1,
  mx_s_lret C hr hlk d_D_shortestCount_4,
  trivial⟩
set_option maxRecDepth 20000 in
set_option maxHeartbeats 2000000 in
theorem m_D_shortestCount (l : Launch) : mx_M l y_D_shortestCount w_D_shortestCount rm_D_shortestCount sp_D_shortestCount := by
  intro zD ztc ztb zad As F P sz0 h
  obtain ⟨rc, sh, wt, rfl, h6, hp⟩ := h
  refine mx_run (cc := c_D_shortestCount) (maxL := 1) (ret := (some .long)) (tab := t_D_shortestCount  P) (by decide) rfl zD ztc ztb zad _ F P sz0 (Nat.le_of_ble_eq_true rfl) (fun p e s m args below meth c C hr hlk => a_D_shortestCount  C hr hlk) ?_
  intro Rr go
  have hF := mx_as1 h6
  rw [hF]
  refine go rfl ⟨_, rfl, ?_⟩
  refine go rfl ⟨_, _, _, _, rfl, rfl, rfl, ?_⟩
  refine go rfl ⟨_, rfl, rfl, rfl, ?_⟩
  rw [← hF]
  exact hp
-- LadderWords.ladder(III)I
def sp_L_ladder : mx_Sp := fun As F P => ∃ (n : Nat) (N : Nat → Nat) (ch : Nat → Nat → Int32) (S : Nat → Nat) (lt st : Nat → Int32) (rc : Int32) (sh : Int64) (wt : Int32) (ds rg : Nat → Int32) (cs : Nat → Int64) (x y z : Int32), As = [mx_r 0, mx_i x, mx_i y, mx_i z] ∧ F 0 = some e_L ∧ F 3 = some (e_W n) ∧ F 4 = some (mx_ia 360 lt) ∧ F 5 = some (mx_ia 61 st) ∧ wst n N ch S lt st ∧ F 6 = some (e_D rc sh wt) ∧ F 7 = some (mx_ia 60 ds) ∧ F 8 = some (mx_la 60 cs) ∧ F 9 = some (mx_ia 60 rg) ∧ ((¬ ∃ a t kd, a < n ∧ t < n ∧ kd ≤ 1 ∧ x = nI a ∧ y = nI t ∧ z = nI kd) → P (some (mx_i (-1))) (mx_put F 6 (e_D (nI 0) 0 wt))) ∧ ∀ a t kd, a < n → t < n → kd ≤ 1 → x = nI a → y = nI t → z = nI kd → ((∀ d, de n (stepP N ch kd) t d a = none) → ∀ ds' cs', P (some (mx_i (-1))) (mx_put (mx_put (mx_put F 6 (e_D (nI 0) 0 wt)) 7 (mx_ia 60 ds')) 8 (mx_la 60 cs'))) ∧ (∀ D, de n (stepP N ch kd) t D a = some D → ∀ ds' cs' rg' sh', (∀ k, k ≤ D → rg' k = nI (lad n (stepP N ch kd) t a D k)) → P (some (mx_i (nI D))) (mx_put (mx_put (mx_put (mx_put F 7 (mx_ia 60 ds')) 8 (mx_la 60 cs')) 9 (mx_ia 60 rg')) 6 (e_D (nI (D + 1)) sh' (nI n))))
theorem d_L_ladder_0 : decode c_L_ladder 0 = .ok (.aload_n 0, 1) := by decide +kernel
theorem d_L_ladder_1 : decode c_L_ladder 1 = .ok (.getfield 28, 3) := by decide +kernel
theorem d_L_ladder_4 : decode c_L_ladder 4 = .ok (.iload_n 1, 1) := by decide +kernel
theorem d_L_ladder_5 : decode c_L_ladder 5 = .ok (.iload_n 2, 1) := by decide +kernel
theorem d_L_ladder_6 : decode c_L_ladder 6 = .ok (.iload_n 3, 1) := by decide +kernel
theorem d_L_ladder_7 : decode c_L_ladder 7 = .ok (.invokevirtual 68, 3) := by decide +kernel
theorem d_L_ladder_10 : decode c_L_ladder 10 = .ok (.ireturn, 1) := by decide +kernel
abbrev w_L_ladder : List Cond := mx_ws y_L_ladder c_L_ladder 4 (some .int)
abbrev rm_L_ladder : Room := { frames := 70, cells := 0, slots := 0, locals := 1400 }
def t_L_ladder  (P : Option mx_V → mx_F → Prop) : List (Nat × mx_O) := [
  (0, mx_aload 0 1),
  (1, mx_get 6 2 4),
  (4, mx_iload 1 5),
  (5, mx_iload 2 6),
  (6, mx_iload 3 7),
  (7, mx_cv3 2 sp_D_find 0 0 10),
  (10, mx_iret P)]
set_option maxRecDepth 20000 in
theorem a_L_ladder  {p : Program} {l : Launch} {e : Env} {s : State} {m : MethodId} {args : Array Value} {below : List Frame} {meth : Method} {c : Code} {D : va_G} {tc : Nat → ClassId} {tb : Nat → Nat} {sz : Nat} {a0 : Nat → Nat} {G : mx_F} {P : Option mx_V → mx_F → Prop}  (C : mx_C p s m args c c_L_ladder y_L_ladder.cls w_L_ladder D tc tb (mx_A a0 G sz) 4 (mx_Ok0 a0 G)) (hr : meth.sig.returnType = (some .int)) (hlk : meth.locks = false) : mx_all (mx_W p l e rm_L_ladder s m args below meth c (MQ below (mx_Q D tc tb a0 G sz P) args s 0 0 (mx_A a0 G sz)) D tc tb (mx_A a0 G sz) 4 (mx_Ok0 a0 G)) (t_L_ladder  P) :=
  ⟨mx_s_aload_n C d_L_ladder_0 rfl,
  mx_s_get (T := T_L) (N := 6) (k := 2) C (fun w h => List.mem_cons_of_mem _ (in_L w h)) rfl (by decide) (List.mem_cons_of_mem _ fk_L_28) rfl d_L_ladder_1,
  mx_s_iload_n C d_L_ladder_4 rfl,
  mx_s_iload_n C d_L_ladder_5 rfl,
  mx_s_iload_n C d_L_ladder_6 rfl,
  mx_s_cv3 C (m_D_find l) rfl (cwV 3 C.2.2.2.2.1 (mx_gV (fun w h => List.mem_cons_of_mem _ h) mk_L_68 im_D_find se_D_find ic_D co_D_find) rfl rfl rfl (by decide +kernel) ⟨by decide, by decide⟩) d_L_ladder_7 ⟨Nat.zero_le _, Nat.zero_le _⟩,
  mx_s_iret C hr hlk d_L_ladder_10,
  trivial⟩
set_option maxRecDepth 20000 in
set_option maxHeartbeats 2000000 in
theorem m_L_ladder (l : Launch) : mx_M l y_L_ladder w_L_ladder rm_L_ladder sp_L_ladder := by
  intro zD ztc ztb zad As F P sz0 h
  obtain ⟨n, N, ch, S, lt, st, rc, sh, wt, ds, rg, cs, x, y, z, rfl, h0, h3, h4, h5, hw, h6, h7, h8, h9, hz, ho⟩ := h
  refine mx_run (cc := c_L_ladder) (maxL := 4) (ret := (some .int)) (tab := t_L_ladder  P) (by decide) rfl zD ztc ztb zad _ F P sz0 (Nat.le_of_ble_eq_true rfl) (fun p e s m args below meth c C hr hlk => a_L_ladder  C hr hlk) ?_
  intro Rr go
  have hF := mx_as8 h0 h3 h4 h5 h6 h7 h8 h9
  rw [hF]
  refine go rfl ⟨_, rfl, ?_⟩
  refine go rfl ⟨_, _, _, _, rfl, rfl, rfl, ?_⟩
  refine go rfl ⟨_, rfl, ?_⟩
  refine go rfl ⟨_, rfl, ?_⟩
  refine go rfl ⟨_, rfl, ?_⟩
  refine go rfl ⟨_, _, _, _, _, _, rfl, rfl, rfl, rfl, rfl, ⟨n, N, ch, S, lt, st, rc, sh, wt, ds, rg, cs, x, y, z, rfl, rfl, rfl, rfl, hw, rfl, rfl, rfl, rfl, fun c => ?_, fun a t kd q1 q2 q3 q4 q5 q6 => ⟨fun c ds' cs' => ?_, fun D c ds' cs' rg' sh' c2 => ?_⟩⟩⟩
  · refine go rfl ⟨_, rfl, rfl, rfl, ?_⟩
    rw [← hF]
    exact hz c
  · refine go rfl ⟨_, rfl, rfl, rfl, ?_⟩
    rw [← hF]
    exact (ho a t kd q1 q2 q3 q4 q5 q6).1 c ds' cs'
  · refine go rfl ⟨_, rfl, rfl, rfl, ?_⟩
    rw [← hF]
    exact (ho a t kd q1 q2 q3 q4 q5 q6).2 D c ds' cs' rg' sh' c2
-- LadderWords.step(I)I
def sp_L_step : mx_Sp := fun As F P => ∃ (n : Nat) (rn m : Nat) (sh : Int64) (rg : Nat → Int32) (x : Int32), As = [mx_r 0, mx_i x] ∧ F 0 = some e_L ∧ F 3 = some (e_W n) ∧ F 6 = some (e_D (nI rn) sh (nI m)) ∧ F 9 = some (mx_ia 60 rg) ∧ n ≤ 60 ∧ m ≤ n ∧ rn ≤ 60 ∧ (∀ k, k < rn → m = n → x = nI k → P (some (mx_i (rg k))) F) ∧ ((¬ ∃ k, k < rn ∧ m = n ∧ x = nI k) → P (some (mx_i (-1))) F)
theorem d_L_step_0 : decode c_L_step 0 = .ok (.aload_n 0, 1) := by decide +kernel
theorem d_L_step_1 : decode c_L_step 1 = .ok (.getfield 28, 3) := by decide +kernel
theorem d_L_step_4 : decode c_L_step 4 = .ok (.iload_n 1, 1) := by decide +kernel
theorem d_L_step_5 : decode c_L_step 5 = .ok (.invokevirtual 72, 3) := by decide +kernel
theorem d_L_step_8 : decode c_L_step 8 = .ok (.ireturn, 1) := by decide +kernel
abbrev w_L_step : List Cond := mx_ws y_L_step c_L_step 2 (some .int)
abbrev rm_L_step : Room := { frames := 30, cells := 0, slots := 0, locals := 600 }
def t_L_step  (P : Option mx_V → mx_F → Prop) : List (Nat × mx_O) := [
  (0, mx_aload 0 1),
  (1, mx_get 6 2 4),
  (4, mx_iload 1 5),
  (5, mx_cv1 2 sp_D_rungAt 0 0 8),
  (8, mx_iret P)]
set_option maxRecDepth 20000 in
theorem a_L_step  {p : Program} {l : Launch} {e : Env} {s : State} {m : MethodId} {args : Array Value} {below : List Frame} {meth : Method} {c : Code} {D : va_G} {tc : Nat → ClassId} {tb : Nat → Nat} {sz : Nat} {a0 : Nat → Nat} {G : mx_F} {P : Option mx_V → mx_F → Prop}  (C : mx_C p s m args c c_L_step y_L_step.cls w_L_step D tc tb (mx_A a0 G sz) 2 (mx_Ok0 a0 G)) (hr : meth.sig.returnType = (some .int)) (hlk : meth.locks = false) : mx_all (mx_W p l e rm_L_step s m args below meth c (MQ below (mx_Q D tc tb a0 G sz P) args s 0 0 (mx_A a0 G sz)) D tc tb (mx_A a0 G sz) 2 (mx_Ok0 a0 G)) (t_L_step  P) :=
  ⟨mx_s_aload_n C d_L_step_0 rfl,
  mx_s_get (T := T_L) (N := 6) (k := 2) C (fun w h => List.mem_cons_of_mem _ (in_L w h)) rfl (by decide) (List.mem_cons_of_mem _ fk_L_28) rfl d_L_step_1,
  mx_s_iload_n C d_L_step_4 rfl,
  mx_s_cv1 C (m_D_rungAt l) rfl (cwV 1 C.2.2.2.2.1 (mx_gV (fun w h => List.mem_cons_of_mem _ h) mk_L_72 im_D_rungAt se_D_rungAt ic_D co_D_rungAt) rfl rfl rfl (by decide +kernel) ⟨by decide, by decide⟩) d_L_step_5 ⟨Nat.zero_le _, Nat.zero_le _⟩,
  mx_s_iret C hr hlk d_L_step_8,
  trivial⟩
set_option maxRecDepth 20000 in
set_option maxHeartbeats 2000000 in
theorem m_L_step (l : Launch) : mx_M l y_L_step w_L_step rm_L_step sp_L_step := by
  intro zD ztc ztb zad As F P sz0 h
  obtain ⟨n, rn, m, sh, rg, x, rfl, h0, h3, h6, h9, hn, hm, hr, ho, hz⟩ := h
  refine mx_run (cc := c_L_step) (maxL := 2) (ret := (some .int)) (tab := t_L_step  P) (by decide) rfl zD ztc ztb zad _ F P sz0 (Nat.le_of_ble_eq_true rfl) (fun p e s m args below meth c C hr hlk => a_L_step  C hr hlk) ?_
  intro Rr go
  have hF := mx_as4 h0 h3 h6 h9
  rw [hF]
  refine go rfl ⟨_, rfl, ?_⟩
  refine go rfl ⟨_, _, _, _, rfl, rfl, rfl, ?_⟩
  refine go rfl ⟨_, rfl, ?_⟩
  refine go rfl ⟨_, _, _, _, rfl, rfl, rfl, rfl, rfl, ⟨n, rn, m, sh, rg, x, rfl, rfl, rfl, rfl, hn, hm, hr, fun k q1 q2 q3 => ?_, fun c => ?_⟩⟩
  · refine go rfl ⟨_, rfl, rfl, rfl, ?_⟩
    rw [← hF]
    exact ho k q1 q2 q3
  · refine go rfl ⟨_, rfl, rfl, rfl, ?_⟩
    rw [← hF]
    exact hz c
-- LadderWords.ways()J
def sp_L_ways : mx_Sp := fun As F P => ∃ (rc : Int32) (sh : Int64) (wt : Int32), As = [mx_r 0] ∧ F 0 = some e_L ∧ F 6 = some (e_D rc sh wt) ∧ P (some (mx_l sh)) F
theorem d_L_ways_0 : decode c_L_ways 0 = .ok (.aload_n 0, 1) := by decide +kernel
theorem d_L_ways_1 : decode c_L_ways 1 = .ok (.getfield 28, 3) := by decide +kernel
theorem d_L_ways_4 : decode c_L_ways 4 = .ok (.invokevirtual 76, 3) := by decide +kernel
theorem d_L_ways_7 : decode c_L_ways 7 = .ok (.lreturn, 1) := by decide +kernel
abbrev w_L_ways : List Cond := mx_ws y_L_ways c_L_ways 1 (some .long)
abbrev rm_L_ways : Room := { frames := 20, cells := 0, slots := 0, locals := 400 }
def t_L_ways  (P : Option mx_V → mx_F → Prop) : List (Nat × mx_O) := [
  (0, mx_aload 0 1),
  (1, mx_get 6 2 4),
  (4, mx_cv0 2 sp_D_shortestCount 0 0 7),
  (7, mx_lret P)]
set_option maxRecDepth 20000 in
theorem a_L_ways  {p : Program} {l : Launch} {e : Env} {s : State} {m : MethodId} {args : Array Value} {below : List Frame} {meth : Method} {c : Code} {D : va_G} {tc : Nat → ClassId} {tb : Nat → Nat} {sz : Nat} {a0 : Nat → Nat} {G : mx_F} {P : Option mx_V → mx_F → Prop}  (C : mx_C p s m args c c_L_ways y_L_ways.cls w_L_ways D tc tb (mx_A a0 G sz) 1 (mx_Ok0 a0 G)) (hr : meth.sig.returnType = (some .long)) (hlk : meth.locks = false) : mx_all (mx_W p l e rm_L_ways s m args below meth c (MQ below (mx_Q D tc tb a0 G sz P) args s 0 0 (mx_A a0 G sz)) D tc tb (mx_A a0 G sz) 1 (mx_Ok0 a0 G)) (t_L_ways  P) :=
  ⟨mx_s_aload_n C d_L_ways_0 rfl,
  mx_s_get (T := T_L) (N := 6) (k := 2) C (fun w h => List.mem_cons_of_mem _ (in_L w h)) rfl (by decide) (List.mem_cons_of_mem _ fk_L_28) rfl d_L_ways_1,
  mx_s_cv0 C (m_D_shortestCount l) rfl (cwV 0 C.2.2.2.2.1 (mx_gV (fun w h => List.mem_cons_of_mem _ h) mk_L_76 im_D_shortestCount se_D_shortestCount ic_D co_D_shortestCount) rfl rfl rfl (by decide +kernel) ⟨by decide, by decide⟩) d_L_ways_4 ⟨Nat.zero_le _, Nat.zero_le _⟩,
  mx_s_lret C hr hlk d_L_ways_7,
  trivial⟩
set_option maxRecDepth 20000 in
set_option maxHeartbeats 2000000 in
theorem m_L_ways (l : Launch) : mx_M l y_L_ways w_L_ways rm_L_ways sp_L_ways := by
  intro zD ztc ztb zad As F P sz0 h
  obtain ⟨rc, sh, wt, rfl, h0, h6, hp⟩ := h
  refine mx_run (cc := c_L_ways) (maxL := 1) (ret := (some .long)) (tab := t_L_ways  P) (by decide) rfl zD ztc ztb zad _ F P sz0 (Nat.le_of_ble_eq_true rfl) (fun p e s m args below meth c C hr hlk => a_L_ways  C hr hlk) ?_
  intro Rr go
  have hF := mx_as2 h0 h6
  rw [hF]
  refine go rfl ⟨_, rfl, ?_⟩
  refine go rfl ⟨_, _, _, _, rfl, rfl, rfl, ?_⟩
  refine go rfl ⟨_, _, _, rfl, rfl, rfl, rfl, rfl, ⟨rc, sh, wt, rfl, rfl, ?_⟩⟩
  refine go rfl ⟨_, rfl, rfl, rfl, ?_⟩
  rw [← hF]
  exact hp
