/-- word j is the row -/
def wsame (S : Nat → Nat) (lt rl : Nat → Int32) (rn j : Nat) : Prop := S (j + 1) - S j = rn ∧ ∀ i, i < rn → lt (S j + i) = rl i
-- LadderWords$Words.isSame(ILLadderWords$Row;)Z
def sp_W_isSame : mx_Sp := fun As F P => ∃ (rn n j : Nat) (S : Nat → Nat) (rl lt st : Nat → Int32), As = [mx_r 3, mx_i (nI j), mx_r 1] ∧ F 1 = some (e_R rn) ∧ F 2 = some (mx_ia 12 rl) ∧ F 3 = some (e_W n) ∧ F 4 = some (mx_ia 360 lt) ∧ F 5 = some (mx_ia 61 st) ∧ rn ≤ 12 ∧ wok n S st ∧ j < n ∧ (wsame S lt rl rn j → P (some (mx_i (nI 1))) F) ∧ (¬ wsame S lt rl rn j → P (some (mx_i (nI 0))) F)
theorem d_W_isSame_0 : decode c_W_isSame 0 = .ok (.aload_n 0, 1) := by decide +kernel
theorem d_W_isSame_1 : decode c_W_isSame 1 = .ok (.iload_n 1, 1) := by decide +kernel
theorem d_W_isSame_2 : decode c_W_isSame 2 = .ok (.invokevirtual 43, 3) := by decide +kernel
theorem d_W_isSame_5 : decode c_W_isSame 5 = .ok (.aload_n 2, 1) := by decide +kernel
theorem d_W_isSame_6 : decode c_W_isSame 6 = .ok (.invokevirtual 26, 3) := by decide +kernel
theorem d_W_isSame_9 : decode c_W_isSame 9 = .ok (.if_icmp .eq 5, 3) := by decide +kernel
theorem d_W_isSame_12 : decode c_W_isSame 12 = .ok (.iconst 0, 1) := by decide +kernel
theorem d_W_isSame_13 : decode c_W_isSame 13 = .ok (.ireturn, 1) := by decide +kernel
theorem d_W_isSame_14 : decode c_W_isSame 14 = .ok (.iconst 0, 1) := by decide +kernel
theorem d_W_isSame_15 : decode c_W_isSame 15 = .ok (.istore_n 3, 1) := by decide +kernel
theorem d_W_isSame_16 : decode c_W_isSame 16 = .ok (.iload_n 3, 1) := by decide +kernel
theorem d_W_isSame_17 : decode c_W_isSame 17 = .ok (.aload_n 2, 1) := by decide +kernel
theorem d_W_isSame_18 : decode c_W_isSame 18 = .ok (.invokevirtual 26, 3) := by decide +kernel
theorem d_W_isSame_21 : decode c_W_isSame 21 = .ok (.if_icmp .ge 25, 3) := by decide +kernel
theorem d_W_isSame_24 : decode c_W_isSame 24 = .ok (.aload_n 0, 1) := by decide +kernel
theorem d_W_isSame_25 : decode c_W_isSame 25 = .ok (.iload_n 1, 1) := by decide +kernel
theorem d_W_isSame_26 : decode c_W_isSame 26 = .ok (.iload_n 3, 1) := by decide +kernel
theorem d_W_isSame_27 : decode c_W_isSame 27 = .ok (.invokevirtual 47, 3) := by decide +kernel
theorem d_W_isSame_30 : decode c_W_isSame 30 = .ok (.aload_n 2, 1) := by decide +kernel
theorem d_W_isSame_31 : decode c_W_isSame 31 = .ok (.iload_n 3, 1) := by decide +kernel
theorem d_W_isSame_32 : decode c_W_isSame 32 = .ok (.invokevirtual 51, 3) := by decide +kernel
theorem d_W_isSame_35 : decode c_W_isSame 35 = .ok (.if_icmp .eq 5, 3) := by decide +kernel
theorem d_W_isSame_38 : decode c_W_isSame 38 = .ok (.iconst 0, 1) := by decide +kernel
theorem d_W_isSame_39 : decode c_W_isSame 39 = .ok (.ireturn, 1) := by decide +kernel
theorem d_W_isSame_40 : decode c_W_isSame 40 = .ok (.iinc 3 1, 3) := by decide +kernel
theorem d_W_isSame_43 : decode c_W_isSame 43 = .ok (.goto (-27), 3) := by decide +kernel
theorem d_W_isSame_46 : decode c_W_isSame 46 = .ok (.iconst 1, 1) := by decide +kernel
theorem d_W_isSame_47 : decode c_W_isSame 47 = .ok (.ireturn, 1) := by decide +kernel
abbrev w_W_isSame : List Cond := mx_ws y_W_isSame c_W_isSame 4 (some .boolean)
abbrev rm_W_isSame : Room := { frames := 20, cells := 0, slots := 0, locals := 400 }
def t_W_isSame  (P : Option mx_V → mx_F → Prop) : List (Nat × mx_O) := [
  (0, mx_aload 0 1),
  (1, mx_iload 1 2),
  (2, mx_cv1 5 sp_W_lengthOf 0 0 5),
  (5, mx_aload 2 6),
  (6, mx_cv0 3 sp_R_length 0 0 9),
  (9, mx_ic_eq 14 12),
  (12, mx_push (.inl (nI 0)) 13),
  (13, mx_zret P),
  (14, mx_push (.inl (nI 0)) 15),
  (15, mx_istore 3 16),
  (16, mx_iload 3 17),
  (17, mx_aload 2 18),
  (18, mx_cv0 3 sp_R_length 0 0 21),
  (21, mx_ic_ge 46 24),
  (24, mx_aload 0 25),
  (25, mx_iload 1 26),
  (26, mx_iload 3 27),
  (27, mx_cv2 5 sp_W_letterOf 0 0 30),
  (30, mx_aload 2 31),
  (31, mx_iload 3 32),
  (32, mx_cv1 3 sp_R_letterAt 0 0 35),
  (35, mx_ic_eq 40 38),
  (38, mx_push (.inl (nI 0)) 39),
  (39, mx_zret P),
  (40, mx_iinc 3 (nI 1) 43),
  (43, mx_goto 16),
  (46, mx_push (.inl (nI 1)) 47),
  (47, mx_zret P)]
set_option maxRecDepth 20000 in
theorem a_W_isSame  {p : Program} {l : Launch} {e : Env} {s : State} {m : MethodId} {args : Array Value} {below : List Frame} {meth : Method} {c : Code} {D : va_G} {tc : Nat → ClassId} {tb : Nat → Nat} {sz : Nat} {a0 : Nat → Nat} {G : mx_F} {P : Option mx_V → mx_F → Prop}  (C : mx_C p s m args c c_W_isSame y_W_isSame.cls w_W_isSame D tc tb (mx_A a0 G sz) 4 (mx_Ok0 a0 G)) (hr : meth.sig.returnType = (some .boolean)) (hlk : meth.locks = false) : mx_all (mx_W p l e rm_W_isSame s m args below meth c (MQ below (mx_Q D tc tb a0 G sz P) args s 0 0 (mx_A a0 G sz)) D tc tb (mx_A a0 G sz) 4 (mx_Ok0 a0 G)) (t_W_isSame  P) :=
  ⟨mx_s_aload_n C d_W_isSame_0 rfl,
  mx_s_iload_n C d_W_isSame_1 rfl,
  mx_s_cv1 C (m_W_lengthOf l) rfl (cwV 1 C.2.2.2.2.1 (mx_gV (fun w h => List.mem_cons_of_mem _ h) mk_W_43 im_W_lengthOf se_W_lengthOf ic_W co_W_lengthOf) rfl rfl rfl (by decide +kernel) ⟨by decide, by decide⟩) d_W_isSame_2 ⟨Nat.zero_le _, Nat.zero_le _⟩,
  mx_s_aload_n C d_W_isSame_5 rfl,
  mx_s_cv0 C (m_R_length l) rfl (cwV 0 C.2.2.2.2.1 (mx_gV (fun w h => List.mem_cons_of_mem _ h) mk_W_26 im_R_length se_R_length ic_R co_R_length) rfl rfl rfl (by decide +kernel) ⟨by decide, by decide⟩) d_W_isSame_6 ⟨Nat.zero_le _, Nat.zero_le _⟩,
  mx_s_ic_eq C d_W_isSame_9 (by decide),
  mx_s_iconst C d_W_isSame_12 (by decide),
  mx_s_zret C hr hlk d_W_isSame_13,
  mx_s_iconst C d_W_isSame_14 (by decide),
  mx_s_istore_n C d_W_isSame_15 rfl (by decide),
  mx_s_iload_n C d_W_isSame_16 rfl,
  mx_s_aload_n C d_W_isSame_17 rfl,
  mx_s_cv0 C (m_R_length l) rfl (cwV 0 C.2.2.2.2.1 (mx_gV (fun w h => List.mem_cons_of_mem _ h) mk_W_26 im_R_length se_R_length ic_R co_R_length) rfl rfl rfl (by decide +kernel) ⟨by decide, by decide⟩) d_W_isSame_18 ⟨Nat.zero_le _, Nat.zero_le _⟩,
  mx_s_ic_ge C d_W_isSame_21 (by decide),
  mx_s_aload_n C d_W_isSame_24 rfl,
  mx_s_iload_n C d_W_isSame_25 rfl,
  mx_s_iload_n C d_W_isSame_26 rfl,
  mx_s_cv2 C (m_W_letterOf l) rfl (cwV 2 C.2.2.2.2.1 (mx_gV (fun w h => List.mem_cons_of_mem _ h) mk_W_47 im_W_letterOf se_W_letterOf ic_W co_W_letterOf) rfl rfl rfl (by decide +kernel) ⟨by decide, by decide⟩) d_W_isSame_27 ⟨Nat.zero_le _, Nat.zero_le _⟩,
  mx_s_aload_n C d_W_isSame_30 rfl,
  mx_s_iload_n C d_W_isSame_31 rfl,
  mx_s_cv1 C (m_R_letterAt l) rfl (cwV 1 C.2.2.2.2.1 (mx_gV (fun w h => List.mem_cons_of_mem _ h) mk_W_51 im_R_letterAt se_R_letterAt ic_R co_R_letterAt) rfl rfl rfl (by decide +kernel) ⟨by decide, by decide⟩) d_W_isSame_32 ⟨Nat.zero_le _, Nat.zero_le _⟩,
  mx_s_ic_eq C d_W_isSame_35 (by decide),
  mx_s_iconst C d_W_isSame_38 (by decide),
  mx_s_zret C hr hlk d_W_isSame_39,
  mx_s_iinc C d_W_isSame_40 (by decide) (by decide),
  mx_s_goto C d_W_isSame_43 (by decide),
  mx_s_iconst C d_W_isSame_46 (by decide),
  mx_s_zret C hr hlk d_W_isSame_47,
  trivial⟩
set_option maxRecDepth 20000 in
set_option maxHeartbeats 2000000 in
theorem m_W_isSame (l : Launch) : mx_M l y_W_isSame w_W_isSame rm_W_isSame sp_W_isSame := by
  intro zD ztc ztb zad As F P sz0 h
  obtain ⟨rn, n, j, S, rl, lt, st, rfl, h1, h2, h3, h4, h5, hr, hw, hj, ho, hz⟩ := h
  refine mx_run (cc := c_W_isSame) (maxL := 4) (ret := (some .boolean)) (tab := t_W_isSame  P) (by decide) rfl zD ztc ztb zad _ F P sz0 (Nat.le_of_ble_eq_true rfl) (fun p e s m args below meth c C hr hlk => a_W_isSame  C hr hlk) ?_
  intro Rr go
  have hF := mx_as5 h1 h2 h3 h4 h5
  rw [hF]
  have hn := hw.1
  have hS1 := wok_lt hw (show j + 1 ≤ n by omega)
  refine go rfl ⟨_, rfl, ?_⟩
  refine go rfl ⟨_, rfl, ?_⟩
  refine go rfl ⟨_, _, _, _, rfl, rfl, rfl, rfl, rfl, ⟨n, S, st, _, rfl, rfl, rfl, hw, fun j' hj' e => ?_, fun hc => ?_⟩⟩
  rotate_left
  · exfalso
    rcases hc with hc | hc
    · exact nI_pos (by omega) hc
    · exact absurd ((nI_leI (by omega) (by omega)).mp hc) (by omega)
  have ej := (nI_eq (by omega) (by omega)).mp e
  subst ej
  refine go rfl ⟨_, rfl, ?_⟩
  refine go rfl ⟨_, _, _, rfl, rfl, rfl, rfl, rfl, ⟨rn, rfl, rfl, ?_⟩⟩
  refine go rfl ⟨_, _, _, rfl, fun c1 => ?_, fun c1 => ?_⟩
  rotate_left
  · refine go rfl ?_
    refine go rfl ⟨_, rfl, rfl, rfl, (Or.inl rfl), ?_⟩
    rw [← hF]
    exact hz (fun h => c1 (by rw [h.1]))
  have hlen : S (j + 1) - S j = rn := (nI_eq (by omega) (by omega)).mp c1
  have loop : ∀ (k i : Nat), i + k = rn → (∀ q, q < i → lt (S j + q) = rl q) → Rr 16 [some (mx_r 3), some (mx_i (nI j)), some (mx_r 1), some (mx_i (nI i))] [] (mx_put (mx_put (mx_put (mx_put (mx_put F 1 (e_R rn)) 2 (mx_ia 12 rl)) 3 (e_W n)) 4 (mx_ia 360 lt)) 5 (mx_ia 61 st)) 0 0 := by
    intro k
    induction k with
    | zero =>
      intro i hi hq
      refine go rfl ⟨_, rfl, ?_⟩
      refine go rfl ⟨_, rfl, ?_⟩
      refine go rfl ⟨_, _, _, rfl, rfl, rfl, rfl, rfl, ⟨rn, rfl, rfl, ?_⟩⟩
      refine go rfl ⟨_, _, _, rfl, fun c => ?_, fun c => ?_⟩
      · refine go rfl ?_
        refine go rfl ⟨_, rfl, rfl, rfl, (Or.inr rfl), ?_⟩
        rw [← hF]
        exact ho ⟨hlen, fun q hq2 => hq q (by omega)⟩
      · exact absurd (nI_le (by omega) (by omega)) c
    | succ k ih =>
      intro i hi hq
      refine go rfl ⟨_, rfl, ?_⟩
      refine go rfl ⟨_, rfl, ?_⟩
      refine go rfl ⟨_, _, _, rfl, rfl, rfl, rfl, rfl, ⟨rn, rfl, rfl, ?_⟩⟩
      refine go rfl ⟨_, _, _, rfl, fun c => ?_, fun c => ?_⟩
      · exact absurd ((nI_leI (by omega) (by omega)).mp c) (by omega)
      refine go rfl ⟨_, rfl, ?_⟩
      refine go rfl ⟨_, rfl, ?_⟩
      refine go rfl ⟨_, rfl, ?_⟩
      refine go rfl ⟨_, _, _, _, _, rfl, rfl, rfl, rfl, rfl, ⟨n, S, st, lt, _, _, rfl, rfl, rfl, rfl, hw, fun j2 k2 hj2 hk2 e1 e2 => ?_, fun hc => absurd ⟨j, i, hj, by omega, rfl, rfl⟩ hc⟩⟩
      have e1 := (nI_eq (by omega) (by omega)).mp e1
      have hS3 := wok_lt hw (show j2 + 1 ≤ n by omega)
      have e2 := (nI_eq (by omega) (by omega)).mp e2
      subst e1
      subst e2
      refine go rfl ⟨_, rfl, ?_⟩
      refine go rfl ⟨_, rfl, ?_⟩
      refine go rfl ⟨_, _, _, _, rfl, rfl, rfl, rfl, rfl, ⟨rn, rl, _, rfl, rfl, rfl, hr, fun k2 hk2 e2 => ?_, fun hc => ?_⟩⟩
      rotate_left
      · exfalso
        rcases hc with hc | hc
        · exact nI_pos (by omega) hc
        · exact absurd ((nI_leI (by omega) (by omega)).mp hc) (by omega)
      have e2 := (nI_eq (by omega) (by omega)).mp e2
      subst e2
      refine go rfl ⟨_, _, _, rfl, fun d => ?_, fun d => ?_⟩
      · refine go rfl ⟨_, rfl, ?_⟩
        refine go rfl ?_
        rw [nI_add]
        refine ih (i + 1) (by omega) (fun q hq2 => ?_)
        rcases Nat.lt_or_ge q i with w | w
        · exact hq q w
        · rw [show q = i by omega]
          exact d
      · refine go rfl ?_
        refine go rfl ⟨_, rfl, rfl, rfl, (Or.inl rfl), ?_⟩
        rw [← hF]
        exact hz (fun h => d (h.2 i (by omega)))
  refine go rfl ?_
  refine go rfl ⟨_, _, rfl, ?_⟩
  exact loop rn 0 (by omega) (fun q hq => absurd hq (Nat.not_lt_zero q))
-- LadderWords$Words.knownNumberOf(LLadderWords$Row;)I
def sp_W_knownNumberOf : mx_Sp := fun As F P => ∃ (rn n : Nat) (S : Nat → Nat) (rl lt st : Nat → Int32), As = [mx_r 3, mx_r 1] ∧ F 1 = some (e_R rn) ∧ F 2 = some (mx_ia 12 rl) ∧ F 3 = some (e_W n) ∧ F 4 = some (mx_ia 360 lt) ∧ F 5 = some (mx_ia 61 st) ∧ rn ≤ 12 ∧ wok n S st ∧ (∀ j, j < n → wsame S lt rl rn j → (∀ k, k < j → ¬ wsame S lt rl rn k) → P (some (mx_i (nI j))) F) ∧ ((∀ j, j < n → ¬ wsame S lt rl rn j) → P (some (mx_i (-1))) F)
theorem d_W_knownNumberOf_0 : decode c_W_knownNumberOf 0 = .ok (.iconst 0, 1) := by decide +kernel
theorem d_W_knownNumberOf_1 : decode c_W_knownNumberOf 1 = .ok (.istore_n 2, 1) := by decide +kernel
theorem d_W_knownNumberOf_2 : decode c_W_knownNumberOf 2 = .ok (.iload_n 2, 1) := by decide +kernel
theorem d_W_knownNumberOf_3 : decode c_W_knownNumberOf 3 = .ok (.aload_n 0, 1) := by decide +kernel
theorem d_W_knownNumberOf_4 : decode c_W_knownNumberOf 4 = .ok (.getfield 18, 3) := by decide +kernel
theorem d_W_knownNumberOf_7 : decode c_W_knownNumberOf 7 = .ok (.if_icmp .ge 20, 3) := by decide +kernel
theorem d_W_knownNumberOf_10 : decode c_W_knownNumberOf 10 = .ok (.aload_n 0, 1) := by decide +kernel
theorem d_W_knownNumberOf_11 : decode c_W_knownNumberOf 11 = .ok (.iload_n 2, 1) := by decide +kernel
theorem d_W_knownNumberOf_12 : decode c_W_knownNumberOf 12 = .ok (.aload_n 1, 1) := by decide +kernel
theorem d_W_knownNumberOf_13 : decode c_W_knownNumberOf 13 = .ok (.invokevirtual 39, 3) := by decide +kernel
theorem d_W_knownNumberOf_16 : decode c_W_knownNumberOf 16 = .ok (.ifCond .eq 5, 3) := by decide +kernel
theorem d_W_knownNumberOf_19 : decode c_W_knownNumberOf 19 = .ok (.iload_n 2, 1) := by decide +kernel
theorem d_W_knownNumberOf_20 : decode c_W_knownNumberOf 20 = .ok (.ireturn, 1) := by decide +kernel
theorem d_W_knownNumberOf_21 : decode c_W_knownNumberOf 21 = .ok (.iinc 2 1, 3) := by decide +kernel
theorem d_W_knownNumberOf_24 : decode c_W_knownNumberOf 24 = .ok (.goto (-22), 3) := by decide +kernel
theorem d_W_knownNumberOf_27 : decode c_W_knownNumberOf 27 = .ok (.iconst (-1), 1) := by decide +kernel
theorem d_W_knownNumberOf_28 : decode c_W_knownNumberOf 28 = .ok (.ireturn, 1) := by decide +kernel
abbrev w_W_knownNumberOf : List Cond := mx_ws y_W_knownNumberOf c_W_knownNumberOf 3 (some .int)
abbrev rm_W_knownNumberOf : Room := { frames := 30, cells := 0, slots := 0, locals := 600 }
def t_W_knownNumberOf  (P : Option mx_V → mx_F → Prop) : List (Nat × mx_O) := [
  (0, mx_push (.inl (nI 0)) 1),
  (1, mx_istore 2 2),
  (2, mx_iload 2 3),
  (3, mx_aload 0 4),
  (4, mx_get 5 2 7),
  (7, mx_ic_ge 27 10),
  (10, mx_aload 0 11),
  (11, mx_iload 2 12),
  (12, mx_aload 1 13),
  (13, mx_cv2 5 sp_W_isSame 0 0 16),
  (16, mx_if_eq 21 19),
  (19, mx_iload 2 20),
  (20, mx_iret P),
  (21, mx_iinc 2 (nI 1) 24),
  (24, mx_goto 2),
  (27, mx_push (.inl (-1)) 28),
  (28, mx_iret P)]
set_option maxRecDepth 20000 in
theorem a_W_knownNumberOf  {p : Program} {l : Launch} {e : Env} {s : State} {m : MethodId} {args : Array Value} {below : List Frame} {meth : Method} {c : Code} {D : va_G} {tc : Nat → ClassId} {tb : Nat → Nat} {sz : Nat} {a0 : Nat → Nat} {G : mx_F} {P : Option mx_V → mx_F → Prop}  (C : mx_C p s m args c c_W_knownNumberOf y_W_knownNumberOf.cls w_W_knownNumberOf D tc tb (mx_A a0 G sz) 3 (mx_Ok0 a0 G)) (hr : meth.sig.returnType = (some .int)) (hlk : meth.locks = false) : mx_all (mx_W p l e rm_W_knownNumberOf s m args below meth c (MQ below (mx_Q D tc tb a0 G sz P) args s 0 0 (mx_A a0 G sz)) D tc tb (mx_A a0 G sz) 3 (mx_Ok0 a0 G)) (t_W_knownNumberOf  P) :=
  ⟨mx_s_iconst C d_W_knownNumberOf_0 (by decide),
  mx_s_istore_n C d_W_knownNumberOf_1 rfl (by decide),
  mx_s_iload_n C d_W_knownNumberOf_2 rfl,
  mx_s_aload_n C d_W_knownNumberOf_3 rfl,
  mx_s_get (T := T_W) (N := 3) (k := 2) C (fun w h => List.mem_cons_of_mem _ (in_W w h)) rfl (by decide) (List.mem_cons_of_mem _ fk_W_18) rfl d_W_knownNumberOf_4,
  mx_s_ic_ge C d_W_knownNumberOf_7 (by decide),
  mx_s_aload_n C d_W_knownNumberOf_10 rfl,
  mx_s_iload_n C d_W_knownNumberOf_11 rfl,
  mx_s_aload_n C d_W_knownNumberOf_12 rfl,
  mx_s_cv2 C (m_W_isSame l) rfl (cwV 2 C.2.2.2.2.1 (mx_gV (fun w h => List.mem_cons_of_mem _ h) mk_W_39 im_W_isSame se_W_isSame ic_W co_W_isSame) rfl rfl rfl (by decide +kernel) ⟨by decide, by decide⟩) d_W_knownNumberOf_13 ⟨Nat.zero_le _, Nat.zero_le _⟩,
  mx_s_if_eq C d_W_knownNumberOf_16 (by decide),
  mx_s_iload_n C d_W_knownNumberOf_19 rfl,
  mx_s_iret C hr hlk d_W_knownNumberOf_20,
  mx_s_iinc C d_W_knownNumberOf_21 (by decide) (by decide),
  mx_s_goto C d_W_knownNumberOf_24 (by decide),
  mx_s_iconst C d_W_knownNumberOf_27 (by decide),
  mx_s_iret C hr hlk d_W_knownNumberOf_28,
  trivial⟩
set_option maxRecDepth 20000 in
set_option maxHeartbeats 2000000 in
theorem m_W_knownNumberOf (l : Launch) : mx_M l y_W_knownNumberOf w_W_knownNumberOf rm_W_knownNumberOf sp_W_knownNumberOf := by
  intro zD ztc ztb zad As F P sz0 h
  obtain ⟨rn, n, S, rl, lt, st, rfl, h1, h2, h3, h4, h5, hr, hw, ho, hz⟩ := h
  refine mx_run (cc := c_W_knownNumberOf) (maxL := 3) (ret := (some .int)) (tab := t_W_knownNumberOf  P) (by decide) rfl zD ztc ztb zad _ F P sz0 (Nat.le_of_ble_eq_true rfl) (fun p e s m args below meth c C hr hlk => a_W_knownNumberOf  C hr hlk) ?_
  intro Rr go
  have hF := mx_as5 h1 h2 h3 h4 h5
  rw [hF]
  have hn := hw.1
  have loop : ∀ (k i : Nat), i + k = n → (∀ q, q < i → ¬ wsame S lt rl rn q) → Rr 2 [some (mx_r 3), some (mx_r 1), some (mx_i (nI i))] [] (mx_put (mx_put (mx_put (mx_put (mx_put F 1 (e_R rn)) 2 (mx_ia 12 rl)) 3 (e_W n)) 4 (mx_ia 360 lt)) 5 (mx_ia 61 st)) 0 0 := by
    intro k
    induction k with
    | zero =>
      intro i hi hq
      refine go rfl ⟨_, rfl, ?_⟩
      refine go rfl ⟨_, rfl, ?_⟩
      refine go rfl ⟨_, _, _, _, rfl, rfl, rfl, ?_⟩
      refine go rfl ⟨_, _, _, rfl, fun c => ?_, fun c => ?_⟩
      · refine go rfl ?_
        refine go rfl ⟨_, rfl, rfl, rfl, ?_⟩
        rw [← hF]
        exact hz (fun q hq2 => hq q (by omega))
      · exact absurd (nI_le (by omega) (by omega)) c
    | succ k ih =>
      intro i hi hq
      refine go rfl ⟨_, rfl, ?_⟩
      refine go rfl ⟨_, rfl, ?_⟩
      refine go rfl ⟨_, _, _, _, rfl, rfl, rfl, ?_⟩
      refine go rfl ⟨_, _, _, rfl, fun c => ?_, fun c => ?_⟩
      · exact absurd ((nI_leI (by omega) (by omega)).mp c) (by omega)
      refine go rfl ⟨_, rfl, ?_⟩
      refine go rfl ⟨_, rfl, ?_⟩
      refine go rfl ⟨_, rfl, ?_⟩
      refine go rfl ⟨_, _, _, _, _, rfl, rfl, rfl, rfl, rfl, ⟨rn, n, i, S, rl, lt, st, rfl, rfl, rfl, rfl, rfl, rfl, hr, hw, by omega, fun hs => ?_, fun hs => ?_⟩⟩
      · refine go rfl ⟨_, _, rfl, fun d => ?_, fun d => ?_⟩
        · exact absurd d (by decide)
        refine go rfl ⟨_, rfl, ?_⟩
        refine go rfl ⟨_, rfl, rfl, rfl, ?_⟩
        rw [← hF]
        exact ho i (by omega) hs hq
      · refine go rfl ⟨_, _, rfl, fun d => ?_, fun d => ?_⟩
        · refine go rfl ⟨_, rfl, ?_⟩
          refine go rfl ?_
          rw [nI_add]
          refine ih (i + 1) (by omega) (fun q hq2 => ?_)
          rcases Nat.lt_or_ge q i with w | w
          · exact hq q w
          · rw [show q = i by omega]
            exact hs
        · exact absurd rfl d
  refine go rfl ?_
  refine go rfl ⟨_, _, rfl, ?_⟩
  exact loop n 0 (by omega) (fun q hq => absurd hq (Nat.not_lt_zero q))
