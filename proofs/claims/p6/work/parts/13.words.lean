-- LadderWords$Words.append(LLadderWords$Row;)V
def sp_W_append : mx_Sp := fun As F P => ∃ (rn n : Nat) (S : Nat → Nat) (rl lt st : Nat → Int32), As = [mx_r 3, mx_r 1] ∧ F 1 = some (e_R rn) ∧ F 2 = some (mx_ia 12 rl) ∧ F 3 = some (e_W n) ∧ F 4 = some (mx_ia 360 lt) ∧ F 5 = some (mx_ia 61 st) ∧ rn ≤ 12 ∧ wok n S st ∧ n < 60 ∧ rn ≤ 6 ∧ ∀ lt', (∀ q, q < S n → lt' q = lt q) → (∀ i, i < rn → lt' (S n + i) = rl i) → P none (mx_put (mx_put (mx_put F 4 (mx_ia 360 lt')) 3 (e_W (n + 1))) 5 (mx_ia 61 (upd st (n + 1) (nI (S n + rn)))))
theorem d_W_append_0 : decode c_W_append 0 = .ok (.aload_n 0, 1) := by decide +kernel
theorem d_W_append_1 : decode c_W_append 1 = .ok (.getfield 15, 3) := by decide +kernel
theorem d_W_append_4 : decode c_W_append 4 = .ok (.aload_n 0, 1) := by decide +kernel
theorem d_W_append_5 : decode c_W_append 5 = .ok (.getfield 18, 3) := by decide +kernel
theorem d_W_append_8 : decode c_W_append 8 = .ok (.iaload, 1) := by decide +kernel
theorem d_W_append_9 : decode c_W_append 9 = .ok (.istore_n 2, 1) := by decide +kernel
theorem d_W_append_10 : decode c_W_append 10 = .ok (.iconst 0, 1) := by decide +kernel
theorem d_W_append_11 : decode c_W_append 11 = .ok (.istore_n 3, 1) := by decide +kernel
theorem d_W_append_12 : decode c_W_append 12 = .ok (.iload_n 3, 1) := by decide +kernel
theorem d_W_append_13 : decode c_W_append 13 = .ok (.aload_n 1, 1) := by decide +kernel
theorem d_W_append_14 : decode c_W_append 14 = .ok (.invokevirtual 26, 3) := by decide +kernel
theorem d_W_append_17 : decode c_W_append 17 = .ok (.if_icmp .ge 22, 3) := by decide +kernel
theorem d_W_append_20 : decode c_W_append 20 = .ok (.aload_n 0, 1) := by decide +kernel
theorem d_W_append_21 : decode c_W_append 21 = .ok (.getfield 9, 3) := by decide +kernel
theorem d_W_append_24 : decode c_W_append 24 = .ok (.iload_n 2, 1) := by decide +kernel
theorem d_W_append_25 : decode c_W_append 25 = .ok (.iload_n 3, 1) := by decide +kernel
theorem d_W_append_26 : decode c_W_append 26 = .ok (.iadd, 1) := by decide +kernel
theorem d_W_append_27 : decode c_W_append 27 = .ok (.aload_n 1, 1) := by decide +kernel
theorem d_W_append_28 : decode c_W_append 28 = .ok (.iload_n 3, 1) := by decide +kernel
theorem d_W_append_29 : decode c_W_append 29 = .ok (.invokevirtual 51, 3) := by decide +kernel
theorem d_W_append_32 : decode c_W_append 32 = .ok (.iastore, 1) := by decide +kernel
theorem d_W_append_33 : decode c_W_append 33 = .ok (.iinc 3 1, 3) := by decide +kernel
theorem d_W_append_36 : decode c_W_append 36 = .ok (.goto (-24), 3) := by decide +kernel
theorem d_W_append_39 : decode c_W_append 39 = .ok (.aload_n 0, 1) := by decide +kernel
theorem d_W_append_40 : decode c_W_append 40 = .ok (.dup, 1) := by decide +kernel
theorem d_W_append_41 : decode c_W_append 41 = .ok (.getfield 18, 3) := by decide +kernel
theorem d_W_append_44 : decode c_W_append 44 = .ok (.iconst 1, 1) := by decide +kernel
theorem d_W_append_45 : decode c_W_append 45 = .ok (.iadd, 1) := by decide +kernel
theorem d_W_append_46 : decode c_W_append 46 = .ok (.putfield 18, 3) := by decide +kernel
theorem d_W_append_49 : decode c_W_append 49 = .ok (.aload_n 0, 1) := by decide +kernel
theorem d_W_append_50 : decode c_W_append 50 = .ok (.getfield 15, 3) := by decide +kernel
theorem d_W_append_53 : decode c_W_append 53 = .ok (.aload_n 0, 1) := by decide +kernel
theorem d_W_append_54 : decode c_W_append 54 = .ok (.getfield 18, 3) := by decide +kernel
theorem d_W_append_57 : decode c_W_append 57 = .ok (.iload_n 2, 1) := by decide +kernel
theorem d_W_append_58 : decode c_W_append 58 = .ok (.aload_n 1, 1) := by decide +kernel
theorem d_W_append_59 : decode c_W_append 59 = .ok (.invokevirtual 26, 3) := by decide +kernel
theorem d_W_append_62 : decode c_W_append 62 = .ok (.iadd, 1) := by decide +kernel
theorem d_W_append_63 : decode c_W_append 63 = .ok (.iastore, 1) := by decide +kernel
theorem d_W_append_64 : decode c_W_append 64 = .ok (.return_, 1) := by decide +kernel
abbrev w_W_append : List Cond := mx_ws y_W_append c_W_append 4 none
abbrev rm_W_append : Room := { frames := 20, cells := 0, slots := 0, locals := 400 }
def t_W_append  (P : Option mx_V → mx_F → Prop) : List (Nat × mx_O) := [
  (0, mx_aload 0 1),
  (1, mx_get 5 1 4),
  (4, mx_aload 0 5),
  (5, mx_get 5 2 8),
  (8, mx_iald 9),
  (9, mx_istore 2 10),
  (10, mx_push (.inl (nI 0)) 11),
  (11, mx_istore 3 12),
  (12, mx_iload 3 13),
  (13, mx_aload 1 14),
  (14, mx_cv0 3 sp_R_length 0 0 17),
  (17, mx_ic_ge 39 20),
  (20, mx_aload 0 21),
  (21, mx_get 5 0 24),
  (24, mx_iload 2 25),
  (25, mx_iload 3 26),
  (26, mx_iadd 27),
  (27, mx_aload 1 28),
  (28, mx_iload 3 29),
  (29, mx_cv1 3 sp_R_letterAt 0 0 32),
  (32, mx_iast 33),
  (33, mx_iinc 3 (nI 1) 36),
  (36, mx_goto 12),
  (39, mx_aload 0 40),
  (40, mx_dup 41),
  (41, mx_get 5 2 44),
  (44, mx_push (.inl (nI 1)) 45),
  (45, mx_iadd 46),
  (46, mx_puti 5 2 49),
  (49, mx_aload 0 50),
  (50, mx_get 5 1 53),
  (53, mx_aload 0 54),
  (54, mx_get 5 2 57),
  (57, mx_iload 2 58),
  (58, mx_aload 1 59),
  (59, mx_cv0 3 sp_R_length 0 0 62),
  (62, mx_iadd 63),
  (63, mx_iast 64),
  (64, mx_ret P)]
set_option maxRecDepth 20000 in
theorem a_W_append  {p : Program} {l : Launch} {e : Env} {s : State} {m : MethodId} {args : Array Value} {below : List Frame} {meth : Method} {c : Code} {D : va_G} {tc : Nat → ClassId} {tb : Nat → Nat} {sz : Nat} {a0 : Nat → Nat} {G : mx_F} {P : Option mx_V → mx_F → Prop}  (C : mx_C p s m args c c_W_append y_W_append.cls w_W_append D tc tb (mx_A a0 G sz) 4 (mx_Ok0 a0 G)) (hr : meth.sig.returnType = none) (hlk : meth.locks = false) : mx_all (mx_W p l e rm_W_append s m args below meth c (MQ below (mx_Q D tc tb a0 G sz P) args s 0 0 (mx_A a0 G sz)) D tc tb (mx_A a0 G sz) 4 (mx_Ok0 a0 G)) (t_W_append  P) :=
  ⟨mx_s_aload_n C d_W_append_0 rfl,
  mx_s_get (T := T_W) (N := 3) (k := 1) C (fun w h => List.mem_cons_of_mem _ (in_W w h)) rfl (by decide) (List.mem_cons_of_mem _ fk_W_15) rfl d_W_append_1,
  mx_s_aload_n C d_W_append_4 rfl,
  mx_s_get (T := T_W) (N := 3) (k := 2) C (fun w h => List.mem_cons_of_mem _ (in_W w h)) rfl (by decide) (List.mem_cons_of_mem _ fk_W_18) rfl d_W_append_5,
  mx_s_iald C d_W_append_8,
  mx_s_istore_n C d_W_append_9 rfl (by decide),
  mx_s_iconst C d_W_append_10 (by decide),
  mx_s_istore_n C d_W_append_11 rfl (by decide),
  mx_s_iload_n C d_W_append_12 rfl,
  mx_s_aload_n C d_W_append_13 rfl,
  mx_s_cv0 C (m_R_length l) rfl (cwV 0 C.2.2.2.2.1 (mx_gV (fun w h => List.mem_cons_of_mem _ h) mk_W_26 im_R_length se_R_length ic_R co_R_length) rfl rfl rfl (by decide +kernel) ⟨by decide, by decide⟩) d_W_append_14 ⟨Nat.zero_le _, Nat.zero_le _⟩,
  mx_s_ic_ge C d_W_append_17 (by decide),
  mx_s_aload_n C d_W_append_20 rfl,
  mx_s_get (T := T_W) (N := 3) (k := 0) C (fun w h => List.mem_cons_of_mem _ (in_W w h)) rfl (by decide) (List.mem_cons_of_mem _ fk_W_9) rfl d_W_append_21,
  mx_s_iload_n C d_W_append_24 rfl,
  mx_s_iload_n C d_W_append_25 rfl,
  mx_s_iadd C d_W_append_26,
  mx_s_aload_n C d_W_append_27 rfl,
  mx_s_iload_n C d_W_append_28 rfl,
  mx_s_cv1 C (m_R_letterAt l) rfl (cwV 1 C.2.2.2.2.1 (mx_gV (fun w h => List.mem_cons_of_mem _ h) mk_W_51 im_R_letterAt se_R_letterAt ic_R co_R_letterAt) rfl rfl rfl (by decide +kernel) ⟨by decide, by decide⟩) d_W_append_29 ⟨Nat.zero_le _, Nat.zero_le _⟩,
  mx_s_iast C d_W_append_32,
  mx_s_iinc C d_W_append_33 (by decide) (by decide),
  mx_s_goto C d_W_append_36 (by decide),
  mx_s_aload_n C d_W_append_39 rfl,
  mx_s_dup C d_W_append_40,
  mx_s_get (T := T_W) (N := 3) (k := 2) C (fun w h => List.mem_cons_of_mem _ (in_W w h)) rfl (by decide) (List.mem_cons_of_mem _ fk_W_18) rfl d_W_append_41,
  mx_s_iconst C d_W_append_44 (by decide),
  mx_s_iadd C d_W_append_45,
  mx_s_puti (T := T_W) (N := 3) (k := 2) C (fun w h => List.mem_cons_of_mem _ (in_W w h)) rfl ty_W ok_W nm_W (by decide) (List.mem_cons_of_mem _ fk_W_18) rfl rfl (ok_W 2 (by decide)) d_W_append_46,
  mx_s_aload_n C d_W_append_49 rfl,
  mx_s_get (T := T_W) (N := 3) (k := 1) C (fun w h => List.mem_cons_of_mem _ (in_W w h)) rfl (by decide) (List.mem_cons_of_mem _ fk_W_15) rfl d_W_append_50,
  mx_s_aload_n C d_W_append_53 rfl,
  mx_s_get (T := T_W) (N := 3) (k := 2) C (fun w h => List.mem_cons_of_mem _ (in_W w h)) rfl (by decide) (List.mem_cons_of_mem _ fk_W_18) rfl d_W_append_54,
  mx_s_iload_n C d_W_append_57 rfl,
  mx_s_aload_n C d_W_append_58 rfl,
  mx_s_cv0 C (m_R_length l) rfl (cwV 0 C.2.2.2.2.1 (mx_gV (fun w h => List.mem_cons_of_mem _ h) mk_W_26 im_R_length se_R_length ic_R co_R_length) rfl rfl rfl (by decide +kernel) ⟨by decide, by decide⟩) d_W_append_59 ⟨Nat.zero_le _, Nat.zero_le _⟩,
  mx_s_iadd C d_W_append_62,
  mx_s_iast C d_W_append_63,
  mx_s_ret C hr hlk d_W_append_64,
  trivial⟩
set_option maxRecDepth 20000 in
set_option maxHeartbeats 2000000 in
theorem m_W_append (l : Launch) : mx_M l y_W_append w_W_append rm_W_append sp_W_append := by
  intro zD ztc ztb zad As F P sz0 h
  obtain ⟨rn, n, S, rl, lt, st, rfl, h1, h2, h3, h4, h5, hr, hw, hn, hr6, hp⟩ := h
  refine mx_run (cc := c_W_append) (maxL := 4) (ret := none) (tab := t_W_append  P) (by decide) rfl zD ztc ztb zad _ F P sz0 (Nat.le_of_ble_eq_true rfl) (fun p e s m args below meth c C hr hlk => a_W_append  C hr hlk) ?_
  intro Rr go
  have hF := mx_as5 h1 h2 h3 h5 h4
  have hX := mx_as4 h1 h2 h3 h5
  rw [hF]
  have hS := wok_le hw n (Nat.le_refl n)
  have loop : ∀ (k i : Nat) (lt' : Nat → Int32), i + k = rn → (∀ q, q < S n → lt' q = lt q) → (∀ q, q < i → lt' (S n + q) = rl q) → Rr 12 [some (mx_r 3), some (mx_r 1), some (mx_i (nI (S n))), some (mx_i (nI i))] [] (mx_put (mx_put (mx_put (mx_put (mx_put F 1 (e_R rn)) 2 (mx_ia 12 rl)) 3 (e_W n)) 5 (mx_ia 61 st)) 4 (mx_ia 360 lt')) 0 0 := by
    intro k
    induction k with
    | zero =>
      intro i lt' hi ha hb
      refine go rfl ⟨_, rfl, ?_⟩
      refine go rfl ⟨_, rfl, ?_⟩
      refine go rfl ⟨_, _, _, rfl, rfl, rfl, rfl, rfl, ⟨rn, rfl, rfl, ?_⟩⟩
      refine go rfl ⟨_, _, _, rfl, fun c => ?_, fun c => ?_⟩
      · refine go rfl ⟨_, rfl, ?_⟩
        refine go rfl ⟨_, _, rfl, rfl, ?_⟩
        refine go rfl ⟨_, _, _, _, rfl, rfl, rfl, ?_⟩
        refine go rfl ?_
        refine go rfl ⟨_, _, _, rfl, ?_⟩
        rw [nI_add]
        refine go rfl ⟨_, _, _, _, rfl, rfl, (Nat.le_of_ble_eq_true rfl), ?_⟩
        refine go rfl ⟨_, rfl, ?_⟩
        refine go rfl ⟨_, _, _, _, rfl, rfl, rfl, ?_⟩
        refine go rfl ⟨_, rfl, ?_⟩
        refine go rfl ⟨_, _, _, _, rfl, rfl, rfl, ?_⟩
        refine go rfl ⟨_, rfl, ?_⟩
        refine go rfl ⟨_, rfl, ?_⟩
        refine go rfl ⟨_, _, _, rfl, rfl, rfl, rfl, rfl, ⟨rn, rfl, rfl, ?_⟩⟩
        refine go rfl ⟨_, _, _, rfl, ?_⟩
        rw [nI_add]
        refine go rfl ⟨_, _, _, _, _, _, rfl, rfl, (vp_in_nI (show n + 1 < 61 by omega) (by omega)), ?_⟩
        rw [nI_clamp (by omega)]
        refine go rfl ⟨rfl, rfl, rfl, ?_⟩
        rw [← hX]
        exact hp lt' ha (fun q hq => hb q (by omega))
      · exact absurd (nI_le (by omega) (by omega)) c
    | succ k ih =>
      intro i lt' hi ha hb
      refine go rfl ⟨_, rfl, ?_⟩
      refine go rfl ⟨_, rfl, ?_⟩
      refine go rfl ⟨_, _, _, rfl, rfl, rfl, rfl, rfl, ⟨rn, rfl, rfl, ?_⟩⟩
      refine go rfl ⟨_, _, _, rfl, fun c => ?_, fun c => ?_⟩
      · exact absurd ((nI_leI (by omega) (by omega)).mp c) (by omega)
      refine go rfl ⟨_, rfl, ?_⟩
      refine go rfl ⟨_, _, _, _, rfl, rfl, rfl, ?_⟩
      refine go rfl ⟨_, rfl, ?_⟩
      refine go rfl ⟨_, rfl, ?_⟩
      refine go rfl ⟨_, _, _, rfl, ?_⟩
      rw [nI_add]
      refine go rfl ⟨_, rfl, ?_⟩
      refine go rfl ⟨_, rfl, ?_⟩
      refine go rfl ⟨_, _, _, _, rfl, rfl, rfl, rfl, rfl, ⟨rn, rl, _, rfl, rfl, rfl, hr, fun k2 hk2 e2 => ?_, fun hc => ?_⟩⟩
      rotate_left
      · exfalso
        rcases hc with hc | hc
        · exact nI_pos (by omega) hc
        · exact absurd ((nI_leI (by omega) (by omega)).mp hc) (by omega)
      have e2 := (nI_eq (by omega) (by omega)).mp e2
      subst e2
      refine go rfl ⟨_, _, _, _, _, _, rfl, rfl, (vp_in_nI (show S n + i < 360 by omega) (by omega)), ?_⟩
      rw [nI_clamp (by omega), mx_pp]
      refine go rfl ⟨_, rfl, ?_⟩
      refine go rfl ?_
      rw [nI_add]
      refine ih (i + 1) _ (by omega) (fun q hq => ?_) (fun q hq => ?_)
      · rw [pk_un (by omega)]
        exact ha q hq
      · by_cases hqi : q = i
        · rw [hqi, pk_us]
        · rw [pk_un (by omega)]
          exact hb q (by omega)
  refine go rfl ⟨_, rfl, ?_⟩
  refine go rfl ⟨_, _, _, _, rfl, rfl, rfl, ?_⟩
  refine go rfl ⟨_, rfl, ?_⟩
  refine go rfl ⟨_, _, _, _, rfl, rfl, rfl, ?_⟩
  refine go rfl ⟨_, _, _, _, _, rfl, rfl, (vp_in_nI (show n < 61 by omega) (by omega)), ?_⟩
  rw [nI_clamp (by omega), hw.2.2.2 n (Nat.le_refl n)]
  refine go rfl ⟨_, _, rfl, ?_⟩
  refine go rfl ?_
  refine go rfl ⟨_, _, rfl, ?_⟩
  exact loop rn 0 lt (by omega) (fun _ _ => rfl) (fun q hq => absurd hq (Nat.not_lt_zero q))
-- LadderWords$Words.numberFor(LLadderWords$Row;)I
def sp_W_numberFor : mx_Sp := fun As F P => ∃ (rn n : Nat) (S : Nat → Nat) (rl lt st : Nat → Int32), As = [mx_r 3, mx_r 1] ∧ F 1 = some (e_R rn) ∧ F 2 = some (mx_ia 12 rl) ∧ F 3 = some (e_W n) ∧ F 4 = some (mx_ia 360 lt) ∧ F 5 = some (mx_ia 61 st) ∧ rn ≤ 12 ∧ wok n S st ∧ ((rn = 0 ∨ 6 < rn) → P (some (mx_i (-1))) F) ∧ (∀ j, 1 ≤ rn → rn ≤ 6 → j < n → wsame S lt rl rn j → (∀ k, k < j → ¬ wsame S lt rl rn k) → P (some (mx_i (nI j))) F) ∧ (1 ≤ rn → rn ≤ 6 → (∀ j, j < n → ¬ wsame S lt rl rn j) → 60 ≤ n → P (some (mx_i (-1))) F) ∧ (1 ≤ rn → rn ≤ 6 → (∀ j, j < n → ¬ wsame S lt rl rn j) → n < 60 → ∀ lt', (∀ q, q < S n → lt' q = lt q) → (∀ i, i < rn → lt' (S n + i) = rl i) → P (some (mx_i (nI n))) (mx_put (mx_put (mx_put F 4 (mx_ia 360 lt')) 3 (e_W (n + 1))) 5 (mx_ia 61 (upd st (n + 1) (nI (S n + rn))))))
theorem d_W_numberFor_0 : decode c_W_numberFor 0 = .ok (.aload_n 1, 1) := by decide +kernel
theorem d_W_numberFor_1 : decode c_W_numberFor 1 = .ok (.invokevirtual 26, 3) := by decide +kernel
theorem d_W_numberFor_4 : decode c_W_numberFor 4 = .ok (.ifCond .eq 12, 3) := by decide +kernel
theorem d_W_numberFor_7 : decode c_W_numberFor 7 = .ok (.aload_n 1, 1) := by decide +kernel
theorem d_W_numberFor_8 : decode c_W_numberFor 8 = .ok (.invokevirtual 26, 3) := by decide +kernel
theorem d_W_numberFor_11 : decode c_W_numberFor 11 = .ok (.bipush 6, 2) := by decide +kernel
theorem d_W_numberFor_13 : decode c_W_numberFor 13 = .ok (.if_icmp .le 5, 3) := by decide +kernel
theorem d_W_numberFor_16 : decode c_W_numberFor 16 = .ok (.iconst (-1), 1) := by decide +kernel
theorem d_W_numberFor_17 : decode c_W_numberFor 17 = .ok (.ireturn, 1) := by decide +kernel
theorem d_W_numberFor_18 : decode c_W_numberFor 18 = .ok (.aload_n 0, 1) := by decide +kernel
theorem d_W_numberFor_19 : decode c_W_numberFor 19 = .ok (.aload_n 1, 1) := by decide +kernel
theorem d_W_numberFor_20 : decode c_W_numberFor 20 = .ok (.invokevirtual 31, 3) := by decide +kernel
theorem d_W_numberFor_23 : decode c_W_numberFor 23 = .ok (.istore_n 2, 1) := by decide +kernel
theorem d_W_numberFor_24 : decode c_W_numberFor 24 = .ok (.iload_n 2, 1) := by decide +kernel
theorem d_W_numberFor_25 : decode c_W_numberFor 25 = .ok (.iconst (-1), 1) := by decide +kernel
theorem d_W_numberFor_26 : decode c_W_numberFor 26 = .ok (.if_icmp .ne 12, 3) := by decide +kernel
theorem d_W_numberFor_29 : decode c_W_numberFor 29 = .ok (.aload_n 0, 1) := by decide +kernel
theorem d_W_numberFor_30 : decode c_W_numberFor 30 = .ok (.getfield 18, 3) := by decide +kernel
theorem d_W_numberFor_33 : decode c_W_numberFor 33 = .ok (.bipush 60, 2) := by decide +kernel
theorem d_W_numberFor_35 : decode c_W_numberFor 35 = .ok (.if_icmp .lt 5, 3) := by decide +kernel
theorem d_W_numberFor_38 : decode c_W_numberFor 38 = .ok (.iload_n 2, 1) := by decide +kernel
theorem d_W_numberFor_39 : decode c_W_numberFor 39 = .ok (.ireturn, 1) := by decide +kernel
theorem d_W_numberFor_40 : decode c_W_numberFor 40 = .ok (.aload_n 0, 1) := by decide +kernel
theorem d_W_numberFor_41 : decode c_W_numberFor 41 = .ok (.aload_n 1, 1) := by decide +kernel
theorem d_W_numberFor_42 : decode c_W_numberFor 42 = .ok (.invokevirtual 35, 3) := by decide +kernel
theorem d_W_numberFor_45 : decode c_W_numberFor 45 = .ok (.aload_n 0, 1) := by decide +kernel
theorem d_W_numberFor_46 : decode c_W_numberFor 46 = .ok (.getfield 18, 3) := by decide +kernel
theorem d_W_numberFor_49 : decode c_W_numberFor 49 = .ok (.iconst 1, 1) := by decide +kernel
theorem d_W_numberFor_50 : decode c_W_numberFor 50 = .ok (.isub, 1) := by decide +kernel
theorem d_W_numberFor_51 : decode c_W_numberFor 51 = .ok (.ireturn, 1) := by decide +kernel
abbrev w_W_numberFor : List Cond := mx_ws y_W_numberFor c_W_numberFor 3 (some .int)
abbrev rm_W_numberFor : Room := { frames := 40, cells := 0, slots := 0, locals := 800 }
def t_W_numberFor  (P : Option mx_V → mx_F → Prop) : List (Nat × mx_O) := [
  (0, mx_aload 1 1),
  (1, mx_cv0 3 sp_R_length 0 0 4),
  (4, mx_if_eq 16 7),
  (7, mx_aload 1 8),
  (8, mx_cv0 3 sp_R_length 0 0 11),
  (11, mx_push (.inl (nI 6)) 13),
  (13, mx_ic_le 18 16),
  (16, mx_push (.inl (-1)) 17),
  (17, mx_iret P),
  (18, mx_aload 0 19),
  (19, mx_aload 1 20),
  (20, mx_cv1 5 sp_W_knownNumberOf 0 0 23),
  (23, mx_istore 2 24),
  (24, mx_iload 2 25),
  (25, mx_push (.inl (-1)) 26),
  (26, mx_ic_ne 38 29),
  (29, mx_aload 0 30),
  (30, mx_get 5 2 33),
  (33, mx_push (.inl (nI 60)) 35),
  (35, mx_ic_lt 40 38),
  (38, mx_iload 2 39),
  (39, mx_iret P),
  (40, mx_aload 0 41),
  (41, mx_aload 1 42),
  (42, mx_cv1 5 sp_W_append 0 0 45),
  (45, mx_aload 0 46),
  (46, mx_get 5 2 49),
  (49, mx_push (.inl (nI 1)) 50),
  (50, mx_isub 51),
  (51, mx_iret P)]
set_option maxRecDepth 20000 in
theorem a_W_numberFor  {p : Program} {l : Launch} {e : Env} {s : State} {m : MethodId} {args : Array Value} {below : List Frame} {meth : Method} {c : Code} {D : va_G} {tc : Nat → ClassId} {tb : Nat → Nat} {sz : Nat} {a0 : Nat → Nat} {G : mx_F} {P : Option mx_V → mx_F → Prop}  (C : mx_C p s m args c c_W_numberFor y_W_numberFor.cls w_W_numberFor D tc tb (mx_A a0 G sz) 3 (mx_Ok0 a0 G)) (hr : meth.sig.returnType = (some .int)) (hlk : meth.locks = false) : mx_all (mx_W p l e rm_W_numberFor s m args below meth c (MQ below (mx_Q D tc tb a0 G sz P) args s 0 0 (mx_A a0 G sz)) D tc tb (mx_A a0 G sz) 3 (mx_Ok0 a0 G)) (t_W_numberFor  P) :=
  ⟨mx_s_aload_n C d_W_numberFor_0 rfl,
  mx_s_cv0 C (m_R_length l) rfl (cwV 0 C.2.2.2.2.1 (mx_gV (fun w h => List.mem_cons_of_mem _ h) mk_W_26 im_R_length se_R_length ic_R co_R_length) rfl rfl rfl (by decide +kernel) ⟨by decide, by decide⟩) d_W_numberFor_1 ⟨Nat.zero_le _, Nat.zero_le _⟩,
  mx_s_if_eq C d_W_numberFor_4 (by decide),
  mx_s_aload_n C d_W_numberFor_7 rfl,
  mx_s_cv0 C (m_R_length l) rfl (cwV 0 C.2.2.2.2.1 (mx_gV (fun w h => List.mem_cons_of_mem _ h) mk_W_26 im_R_length se_R_length ic_R co_R_length) rfl rfl rfl (by decide +kernel) ⟨by decide, by decide⟩) d_W_numberFor_8 ⟨Nat.zero_le _, Nat.zero_le _⟩,
  mx_s_bipush C d_W_numberFor_11 (by decide),
  mx_s_ic_le C d_W_numberFor_13 (by decide),
  mx_s_iconst C d_W_numberFor_16 (by decide),
  mx_s_iret C hr hlk d_W_numberFor_17,
  mx_s_aload_n C d_W_numberFor_18 rfl,
  mx_s_aload_n C d_W_numberFor_19 rfl,
  mx_s_cv1 C (m_W_knownNumberOf l) rfl (cwV 1 C.2.2.2.2.1 (mx_gV (fun w h => List.mem_cons_of_mem _ h) mk_W_31 im_W_knownNumberOf se_W_knownNumberOf ic_W co_W_knownNumberOf) rfl rfl rfl (by decide +kernel) ⟨by decide, by decide⟩) d_W_numberFor_20 ⟨Nat.zero_le _, Nat.zero_le _⟩,
  mx_s_istore_n C d_W_numberFor_23 rfl (by decide),
  mx_s_iload_n C d_W_numberFor_24 rfl,
  mx_s_iconst C d_W_numberFor_25 (by decide),
  mx_s_ic_ne C d_W_numberFor_26 (by decide),
  mx_s_aload_n C d_W_numberFor_29 rfl,
  mx_s_get (T := T_W) (N := 3) (k := 2) C (fun w h => List.mem_cons_of_mem _ (in_W w h)) rfl (by decide) (List.mem_cons_of_mem _ fk_W_18) rfl d_W_numberFor_30,
  mx_s_bipush C d_W_numberFor_33 (by decide),
  mx_s_ic_lt C d_W_numberFor_35 (by decide),
  mx_s_iload_n C d_W_numberFor_38 rfl,
  mx_s_iret C hr hlk d_W_numberFor_39,
  mx_s_aload_n C d_W_numberFor_40 rfl,
  mx_s_aload_n C d_W_numberFor_41 rfl,
  mx_s_cv1 C (m_W_append l) rfl (cwV 1 C.2.2.2.2.1 (mx_gV (fun w h => List.mem_cons_of_mem _ h) mk_W_35 im_W_append se_W_append ic_W co_W_append) rfl rfl rfl (by decide +kernel) ⟨by decide, by decide⟩) d_W_numberFor_42 ⟨Nat.zero_le _, Nat.zero_le _⟩,
  mx_s_aload_n C d_W_numberFor_45 rfl,
  mx_s_get (T := T_W) (N := 3) (k := 2) C (fun w h => List.mem_cons_of_mem _ (in_W w h)) rfl (by decide) (List.mem_cons_of_mem _ fk_W_18) rfl d_W_numberFor_46,
  mx_s_iconst C d_W_numberFor_49 (by decide),
  mx_s_isub C d_W_numberFor_50,
  mx_s_iret C hr hlk d_W_numberFor_51,
  trivial⟩
set_option maxRecDepth 20000 in
set_option maxHeartbeats 2000000 in
theorem m_W_numberFor (l : Launch) : mx_M l y_W_numberFor w_W_numberFor rm_W_numberFor sp_W_numberFor := by
  intro zD ztc ztb zad As F P sz0 h
  obtain ⟨rn, n, S, rl, lt, st, rfl, h1, h2, h3, h4, h5, hr, hw, hz, hk, hf, ha⟩ := h
  refine mx_run (cc := c_W_numberFor) (maxL := 3) (ret := (some .int)) (tab := t_W_numberFor  P) (by decide) rfl zD ztc ztb zad _ F P sz0 (Nat.le_of_ble_eq_true rfl) (fun p e s m args below meth c C hr hlk => a_W_numberFor  C hr hlk) ?_
  intro Rr go
  have hF := mx_as5 h1 h2 h3 h4 h5
  rw [hF]
  have hn := hw.1
  refine go rfl ⟨_, rfl, ?_⟩
  refine go rfl ⟨_, _, _, rfl, rfl, rfl, rfl, rfl, ⟨rn, rfl, rfl, ?_⟩⟩
  refine go rfl ⟨_, _, rfl, fun c1 => ?_, fun c1 => ?_⟩
  · refine go rfl ?_
    refine go rfl ⟨_, rfl, rfl, rfl, ?_⟩
    rw [← hF]
    refine hz (Or.inl ?_)
    rcases Nat.eq_zero_or_pos rn with q | q
    · exact q
    · exact absurd c1 (nI_ne0 q (by omega))
  have h1r : 1 ≤ rn := by
    rcases Nat.eq_zero_or_pos rn with q | q
    · rw [q] at c1
      exact absurd rfl c1
    · exact q
  refine go rfl ⟨_, rfl, ?_⟩
  refine go rfl ⟨_, _, _, rfl, rfl, rfl, rfl, rfl, ⟨rn, rfl, rfl, ?_⟩⟩
  refine go rfl ?_
  refine go rfl ⟨_, _, _, rfl, fun c2 => ?_, fun c2 => ?_⟩
  rotate_left
  · refine go rfl ?_
    refine go rfl ⟨_, rfl, rfl, rfl, ?_⟩
    rw [← hF]
    refine hz (Or.inr ?_)
    rcases Nat.lt_or_ge 6 rn with q | q
    · exact q
    · exact absurd (nI_le q (by omega)) c2
  have h6r : rn ≤ 6 := (nI_leI (by omega) (by omega)).mp c2
  refine go rfl ⟨_, rfl, ?_⟩
  refine go rfl ⟨_, rfl, ?_⟩
  refine go rfl ⟨_, _, _, _, rfl, rfl, rfl, rfl, rfl, ⟨rn, n, S, rl, lt, st, rfl, rfl, rfl, rfl, rfl, rfl, hr, hw, fun j hj hs hno => ?_, fun hno => ?_⟩⟩
  · refine go rfl ⟨_, _, rfl, ?_⟩
    refine go rfl ⟨_, rfl, ?_⟩
    refine go rfl ?_
    refine go rfl ⟨_, _, _, rfl, fun c3 => ?_, fun c3 => ?_⟩
    · refine go rfl ⟨_, rfl, ?_⟩
      refine go rfl ⟨_, rfl, rfl, rfl, ?_⟩
      rw [← hF]
      exact hk j h1r h6r hj hs hno
    · have h9 := congrArg Int32.toInt c3
      rw [nI_toInt (by omega)] at h9
      exact absurd h9 (by have : (-1 : Int32).toInt = -1 := by decide
                          rw [this]
                          omega)
  · refine go rfl ⟨_, _, rfl, ?_⟩
    refine go rfl ⟨_, rfl, ?_⟩
    refine go rfl ?_
    refine go rfl ⟨_, _, _, rfl, fun c3 => ?_, fun c3 => ?_⟩
    · exact absurd rfl c3
    refine go rfl ⟨_, rfl, ?_⟩
    refine go rfl ⟨_, _, _, _, rfl, rfl, rfl, ?_⟩
    refine go rfl ?_
    refine go rfl ⟨_, _, _, rfl, fun c4 => ?_, fun c4 => ?_⟩
    · have hn60 : n < 60 := (nI_ltI (by omega) (by omega)).mp c4
      refine go rfl ⟨_, rfl, ?_⟩
      refine go rfl ⟨_, rfl, ?_⟩
      refine go rfl ⟨_, _, _, _, rfl, rfl, rfl, rfl, rfl, ⟨rn, n, S, rl, lt, st, rfl, rfl, rfl, rfl, rfl, rfl, hr, hw, hn60, h6r, fun lt' q1 q2 => ?_⟩⟩
      refine go rfl ⟨_, rfl, ?_⟩
      refine go rfl ⟨_, _, _, _, rfl, rfl, rfl, ?_⟩
      refine go rfl ?_
      refine go rfl ⟨_, _, _, rfl, ?_⟩
      rw [pk_sub (by omega), show n + 1 - 1 = n by omega]
      refine go rfl ⟨_, rfl, rfl, rfl, ?_⟩
      rw [← hF]
      exact ha h1r h6r hno hn60 lt' q1 q2
    · have hn60 : 60 ≤ n := by
        rcases Nat.lt_or_ge n 60 with q | q
        · exact absurd (nI_lt q (by omega)) c4
        · exact q
      refine go rfl ⟨_, rfl, ?_⟩
      refine go rfl ⟨_, rfl, rfl, rfl, ?_⟩
      rw [← hF]
      exact hf h1r h6r hno hn60
