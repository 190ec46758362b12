/-! A STEP OF A LADDER -/
def dif (a b : Nat → Int32) : Nat → Nat
  | 0 => 0
  | k + 1 => dif a b k + if a k = b k then 0 else 1
theorem dif_le (a b : Nat → Int32) : ∀ k, dif a b k ≤ k
  | 0 => Nat.le_refl 0
  | k + 1 => by
    have := dif_le a b k
    unfold dif
    split <;> omega
theorem dif_y {a b : Nat → Int32} {k : Nat} (h : a k = b k) : dif a b (k + 1) = dif a b k := by
  show dif a b k + _ = _
  rw [if_pos h]
  rfl
theorem dif_n {a b : Nat → Int32} {k : Nat} (h : ¬ a k = b k) : dif a b (k + 1) = dif a b k + 1 := by
  show dif a b k + _ = _
  rw [if_neg h]
theorem dif_c (a b : Nat → Int32) : ∀ k, dif a b k = dif b a k
  | 0 => rfl
  | k + 1 => by
    have ih := dif_c a b k
    by_cases h : a k = b k
    · rw [dif_y h, dif_y h.symm, ih]
    · rw [dif_n h, dif_n (fun q => h q.symm), ih]
/-- b has one letter more -/
def om (L : Nat) (a b : Nat → Int32) : Prop := ∃ u, u ≤ L ∧ ∀ i, i < L → a i = b (if i < u then i else i + 1)
def stepP (N : Nat → Nat) (ch : Nat → Nat → Int32) (kd a b : Nat) : Prop := (N a = N b ∧ dif (ch a) (ch b) (N a) = 1) ∨ (kd = 1 ∧ N b = N a + 1 ∧ om (N a) (ch a) (ch b)) ∨ (kd = 1 ∧ N a = N b + 1 ∧ om (N b) (ch b) (ch a))
theorem stepP_c {N : Nat → Nat} {ch : Nat → Nat → Int32} {kd a b : Nat} (h : stepP N ch kd a b) : stepP N ch kd b a := by
  rcases h with ⟨h1, h2⟩ | h | h
  · exact Or.inl ⟨h1.symm, by rw [← h1, dif_c]; exact h2⟩
  · exact Or.inr (Or.inr h)
  · exact Or.inr (Or.inl h)
theorem df0 {p q : Nat} (hp : p < 2 ^ 30) (hq : q < 2 ^ 30) : nI p - nI q = 0 ↔ p = q := by
  rw [← Int32.toInt_inj, pk_sub_toInt hp hq]
  have : (0 : Int32).toInt = 0 := by decide
  omega
theorem df1 {p q : Nat} (hp : p < 2 ^ 30) (hq : q < 2 ^ 30) : nI p - nI q = nI 1 ↔ p = q + 1 := by
  rw [← Int32.toInt_inj, pk_sub_toInt hp hq, nI_toInt (by omega)]
  omega
theorem dfm {p q : Nat} (hp : p < 2 ^ 30) (hq : q < 2 ^ 30) : nI p - nI q = -1 ↔ q = p + 1 := by
  rw [← Int32.toInt_inj, pk_sub_toInt hp hq]
  have : (-1 : Int32).toInt = -1 := by decide
  omega
-- LadderWords$Words.differences(II)I
def sp_W_differences : mx_Sp := fun As F P => ∃ (n : Nat) (N : Nat → Nat) (ch : Nat → Nat → Int32) (S : Nat → Nat) (lt st : Nat → Int32) (a b : Nat), As = [mx_r 3, mx_i (nI a), mx_i (nI b)] ∧ F 3 = some (e_W n) ∧ F 4 = some (mx_ia 360 lt) ∧ F 5 = some (mx_ia 61 st) ∧ wst n N ch S lt st ∧ a < n ∧ b < n ∧ N a = N b ∧ P (some (mx_i (nI (dif (ch a) (ch b) (N a))))) F
theorem d_W_differences_0 : decode c_W_differences 0 = .ok (.iconst 0, 1) := by decide +kernel
theorem d_W_differences_1 : decode c_W_differences 1 = .ok (.istore_n 3, 1) := by decide +kernel
theorem d_W_differences_2 : decode c_W_differences 2 = .ok (.iconst 0, 1) := by decide +kernel
theorem d_W_differences_3 : decode c_W_differences 3 = .ok (.istore 4, 2) := by decide +kernel
theorem d_W_differences_5 : decode c_W_differences 5 = .ok (.iload 4, 2) := by decide +kernel
theorem d_W_differences_7 : decode c_W_differences 7 = .ok (.aload_n 0, 1) := by decide +kernel
theorem d_W_differences_8 : decode c_W_differences 8 = .ok (.iload_n 1, 1) := by decide +kernel
theorem d_W_differences_9 : decode c_W_differences 9 = .ok (.invokevirtual 43, 3) := by decide +kernel
theorem d_W_differences_12 : decode c_W_differences 12 = .ok (.if_icmp .ge 29, 3) := by decide +kernel
theorem d_W_differences_15 : decode c_W_differences 15 = .ok (.aload_n 0, 1) := by decide +kernel
theorem d_W_differences_16 : decode c_W_differences 16 = .ok (.iload_n 1, 1) := by decide +kernel
theorem d_W_differences_17 : decode c_W_differences 17 = .ok (.iload 4, 2) := by decide +kernel
theorem d_W_differences_19 : decode c_W_differences 19 = .ok (.invokevirtual 47, 3) := by decide +kernel
theorem d_W_differences_22 : decode c_W_differences 22 = .ok (.aload_n 0, 1) := by decide +kernel
theorem d_W_differences_23 : decode c_W_differences 23 = .ok (.iload_n 2, 1) := by decide +kernel
theorem d_W_differences_24 : decode c_W_differences 24 = .ok (.iload 4, 2) := by decide +kernel
theorem d_W_differences_26 : decode c_W_differences 26 = .ok (.invokevirtual 47, 3) := by decide +kernel
theorem d_W_differences_29 : decode c_W_differences 29 = .ok (.if_icmp .eq 6, 3) := by decide +kernel
theorem d_W_differences_32 : decode c_W_differences 32 = .ok (.iinc 3 1, 3) := by decide +kernel
theorem d_W_differences_35 : decode c_W_differences 35 = .ok (.iinc 4 1, 3) := by decide +kernel
theorem d_W_differences_38 : decode c_W_differences 38 = .ok (.goto (-33), 3) := by decide +kernel
theorem d_W_differences_41 : decode c_W_differences 41 = .ok (.iload_n 3, 1) := by decide +kernel
theorem d_W_differences_42 : decode c_W_differences 42 = .ok (.ireturn, 1) := by decide +kernel
abbrev w_W_differences : List Cond := mx_ws y_W_differences c_W_differences 5 (some .int)
abbrev rm_W_differences : Room := { frames := 20, cells := 0, slots := 0, locals := 400 }
def t_W_differences  (P : Option mx_V → mx_F → Prop) : List (Nat × mx_O) := [
  (0, mx_push (.inl (nI 0)) 1),
  (1, mx_istore 3 2),
  (2, mx_push (.inl (nI 0)) 3),
  (3, mx_istore 4 5),
  (5, mx_iload 4 7),
  (7, mx_aload 0 8),
  (8, mx_iload 1 9),
  (9, mx_cv1 5 sp_W_lengthOf 0 0 12),
  (12, mx_ic_ge 41 15),
  (15, mx_aload 0 16),
  (16, mx_iload 1 17),
  (17, mx_iload 4 19),
  (19, mx_cv2 5 sp_W_letterOf 0 0 22),
  (22, mx_aload 0 23),
  (23, mx_iload 2 24),
  (24, mx_iload 4 26),
  (26, mx_cv2 5 sp_W_letterOf 0 0 29),
  (29, mx_ic_eq 35 32),
  (32, mx_iinc 3 (nI 1) 35),
  (35, mx_iinc 4 (nI 1) 38),
  (38, mx_goto 5),
  (41, mx_iload 3 42),
  (42, mx_iret P)]
set_option maxRecDepth 20000 in
theorem a_W_differences  {p : Program} {l : Launch} {e : Env} {s : State} {m : MethodId} {args : Array Value} {below : List Frame} {meth : Method} {c : Code} {D : va_G} {tc : Nat → ClassId} {tb : Nat → Nat} {sz : Nat} {a0 : Nat → Nat} {G : mx_F} {P : Option mx_V → mx_F → Prop}  (C : mx_C p s m args c c_W_differences y_W_differences.cls w_W_differences D tc tb (mx_A a0 G sz) 5 (mx_Ok0 a0 G)) (hr : meth.sig.returnType = (some .int)) (hlk : meth.locks = false) : mx_all (mx_W p l e rm_W_differences s m args below meth c (MQ below (mx_Q D tc tb a0 G sz P) args s 0 0 (mx_A a0 G sz)) D tc tb (mx_A a0 G sz) 5 (mx_Ok0 a0 G)) (t_W_differences  P) :=
  ⟨mx_s_iconst C d_W_differences_0 (by decide),
  mx_s_istore_n C d_W_differences_1 rfl (by decide),
  mx_s_iconst C d_W_differences_2 (by decide),
  mx_s_istore C d_W_differences_3 (by decide),
  mx_s_iload C d_W_differences_5,
  mx_s_aload_n C d_W_differences_7 rfl,
  mx_s_iload_n C d_W_differences_8 rfl,
  mx_s_cv1 C (m_W_lengthOf l) rfl (cwV 1 C.2.2.2.2.1 (mx_gV (fun w h => List.mem_cons_of_mem _ h) mk_W_43 im_W_lengthOf se_W_lengthOf ic_W co_W_lengthOf) rfl rfl rfl (by decide +kernel) ⟨by decide, by decide⟩) d_W_differences_9 ⟨Nat.zero_le _, Nat.zero_le _⟩,
  mx_s_ic_ge C d_W_differences_12 (by decide),
  mx_s_aload_n C d_W_differences_15 rfl,
  mx_s_iload_n C d_W_differences_16 rfl,
  mx_s_iload C d_W_differences_17,
  mx_s_cv2 C (m_W_letterOf l) rfl (cwV 2 C.2.2.2.2.1 (mx_gV (fun w h => List.mem_cons_of_mem _ h) mk_W_47 im_W_letterOf se_W_letterOf ic_W co_W_letterOf) rfl rfl rfl (by decide +kernel) ⟨by decide, by decide⟩) d_W_differences_19 ⟨Nat.zero_le _, Nat.zero_le _⟩,
  mx_s_aload_n C d_W_differences_22 rfl,
  mx_s_iload_n C d_W_differences_23 rfl,
  mx_s_iload C d_W_differences_24,
  mx_s_cv2 C (m_W_letterOf l) rfl (cwV 2 C.2.2.2.2.1 (mx_gV (fun w h => List.mem_cons_of_mem _ h) mk_W_47 im_W_letterOf se_W_letterOf ic_W co_W_letterOf) rfl rfl rfl (by decide +kernel) ⟨by decide, by decide⟩) d_W_differences_26 ⟨Nat.zero_le _, Nat.zero_le _⟩,
  mx_s_ic_eq C d_W_differences_29 (by decide),
  mx_s_iinc C d_W_differences_32 (by decide) (by decide),
  mx_s_iinc C d_W_differences_35 (by decide) (by decide),
  mx_s_goto C d_W_differences_38 (by decide),
  mx_s_iload_n C d_W_differences_41 rfl,
  mx_s_iret C hr hlk d_W_differences_42,
  trivial⟩
set_option maxRecDepth 20000 in
set_option maxHeartbeats 2000000 in
theorem m_W_differences (l : Launch) : mx_M l y_W_differences w_W_differences rm_W_differences sp_W_differences := by
  intro zD ztc ztb zad As F P sz0 h
  obtain ⟨n, N, ch, S, lt, st, a, b, rfl, h3, h4, h5, hw, ha, hb, hab, hp⟩ := h
  refine mx_run (cc := c_W_differences) (maxL := 5) (ret := (some .int)) (tab := t_W_differences  P) (by decide) rfl zD ztc ztb zad _ F P sz0 (Nat.le_of_ble_eq_true rfl) (fun p e s m args below meth c C hr hlk => a_W_differences  C hr hlk) ?_
  intro Rr go
  have hF := mx_as3 h3 h4 h5
  rw [hF]
  have hn := hw.1.1
  have hN := hw.2.1.2.1 a ha
  have loop : ∀ (m i : Nat), i + m = N a → Rr 5 [some (mx_r 3), some (mx_i (nI a)), some (mx_i (nI b)), some (mx_i (nI (dif (ch a) (ch b) i))), some (mx_i (nI i))] [] (mx_put (mx_put (mx_put F 3 (e_W n)) 4 (mx_ia 360 lt)) 5 (mx_ia 61 st)) 0 0 := by
    intro m
    induction m with
    | zero =>
      intro i hi
      refine go rfl ⟨_, rfl, ?_⟩
      refine go rfl ⟨_, rfl, ?_⟩
      refine go rfl ⟨_, rfl, ?_⟩
      refine go rfl ⟨_, _, _, _, rfl, rfl, rfl, rfl, rfl, u_lengthOf hw ha rfl rfl ?_⟩
      refine go rfl ⟨_, _, _, rfl, fun c => ?_, fun c => ?_⟩
      · refine go rfl ⟨_, rfl, ?_⟩
        refine go rfl ⟨_, rfl, rfl, rfl, ?_⟩
        rw [← hF, show i = N a by omega]
        exact hp
      · exact absurd (nI_le (by omega) (by omega)) c
    | succ m ih =>
      intro i hi
      have ih := ih (i + 1) (by omega)
      refine go rfl ⟨_, rfl, ?_⟩
      refine go rfl ⟨_, rfl, ?_⟩
      refine go rfl ⟨_, rfl, ?_⟩
      refine go rfl ⟨_, _, _, _, rfl, rfl, rfl, rfl, rfl, u_lengthOf hw ha rfl rfl ?_⟩
      refine go rfl ⟨_, _, _, rfl, fun c => ?_, fun c => ?_⟩
      · exact absurd ((nI_leI (by omega) (by omega)).mp c) (by omega)
      refine go rfl ⟨_, rfl, ?_⟩
      refine go rfl ⟨_, rfl, ?_⟩
      refine go rfl ⟨_, rfl, ?_⟩
      refine go rfl ⟨_, _, _, _, _, rfl, rfl, rfl, rfl, rfl, u_letterOf hw ha (show i < N a by omega) rfl rfl rfl ?_⟩
      refine go rfl ⟨_, rfl, ?_⟩
      refine go rfl ⟨_, rfl, ?_⟩
      refine go rfl ⟨_, rfl, ?_⟩
      refine go rfl ⟨_, _, _, _, _, rfl, rfl, rfl, rfl, rfl, u_letterOf hw hb (show i < N b by omega) rfl rfl rfl ?_⟩
      refine go rfl ⟨_, _, _, rfl, fun e => ?_, fun e => ?_⟩
      · rw [dif_y e] at ih
        refine go rfl ⟨_, rfl, ?_⟩
        refine go rfl ?_
        rw [nI_add]
        exact ih
      · rw [dif_n e] at ih
        refine go rfl ⟨_, rfl, ?_⟩
        refine go rfl ⟨_, rfl, ?_⟩
        refine go rfl ?_
        rw [nI_add, nI_add]
        exact ih
  refine go rfl ?_
  refine go rfl ⟨_, _, rfl, ?_⟩
  refine go rfl ?_
  refine go rfl ⟨_, _, rfl, ?_⟩
  exact loop (N a) 0 (by omega)
-- LadderWords$Words.isOneMore(II)Z
def sp_W_isOneMore : mx_Sp := fun As F P => ∃ (n : Nat) (N : Nat → Nat) (ch : Nat → Nat → Int32) (S : Nat → Nat) (lt st : Nat → Int32) (a b : Nat), As = [mx_r 3, mx_i (nI a), mx_i (nI b)] ∧ F 3 = some (e_W n) ∧ F 4 = some (mx_ia 360 lt) ∧ F 5 = some (mx_ia 61 st) ∧ wst n N ch S lt st ∧ a < n ∧ b < n ∧ N b = N a + 1 ∧ (om (N a) (ch a) (ch b) → P (some (mx_i (nI 1))) F) ∧ (¬ om (N a) (ch a) (ch b) → P (some (mx_i (nI 0))) F)
theorem d_W_isOneMore_0 : decode c_W_isOneMore 0 = .ok (.iconst 0, 1) := by decide +kernel
theorem d_W_isOneMore_1 : decode c_W_isOneMore 1 = .ok (.istore_n 3, 1) := by decide +kernel
theorem d_W_isOneMore_2 : decode c_W_isOneMore 2 = .ok (.iconst 0, 1) := by decide +kernel
theorem d_W_isOneMore_3 : decode c_W_isOneMore 3 = .ok (.istore 4, 2) := by decide +kernel
theorem d_W_isOneMore_5 : decode c_W_isOneMore 5 = .ok (.iload 4, 2) := by decide +kernel
theorem d_W_isOneMore_7 : decode c_W_isOneMore 7 = .ok (.aload_n 0, 1) := by decide +kernel
theorem d_W_isOneMore_8 : decode c_W_isOneMore 8 = .ok (.iload_n 1, 1) := by decide +kernel
theorem d_W_isOneMore_9 : decode c_W_isOneMore 9 = .ok (.invokevirtual 43, 3) := by decide +kernel
theorem d_W_isOneMore_12 : decode c_W_isOneMore 12 = .ok (.if_icmp .ge 49, 3) := by decide +kernel
theorem d_W_isOneMore_15 : decode c_W_isOneMore 15 = .ok (.aload_n 0, 1) := by decide +kernel
theorem d_W_isOneMore_16 : decode c_W_isOneMore 16 = .ok (.iload_n 1, 1) := by decide +kernel
theorem d_W_isOneMore_17 : decode c_W_isOneMore 17 = .ok (.iload 4, 2) := by decide +kernel
theorem d_W_isOneMore_19 : decode c_W_isOneMore 19 = .ok (.invokevirtual 47, 3) := by decide +kernel
theorem d_W_isOneMore_22 : decode c_W_isOneMore 22 = .ok (.aload_n 0, 1) := by decide +kernel
theorem d_W_isOneMore_23 : decode c_W_isOneMore 23 = .ok (.iload_n 2, 1) := by decide +kernel
theorem d_W_isOneMore_24 : decode c_W_isOneMore 24 = .ok (.iload 4, 2) := by decide +kernel
theorem d_W_isOneMore_26 : decode c_W_isOneMore 26 = .ok (.invokevirtual 47, 3) := by decide +kernel
theorem d_W_isOneMore_29 : decode c_W_isOneMore 29 = .ok (.if_icmp .eq 5, 3) := by decide +kernel
theorem d_W_isOneMore_32 : decode c_W_isOneMore 32 = .ok (.iconst 1, 1) := by decide +kernel
theorem d_W_isOneMore_33 : decode c_W_isOneMore 33 = .ok (.istore_n 3, 1) := by decide +kernel
theorem d_W_isOneMore_34 : decode c_W_isOneMore 34 = .ok (.aload_n 0, 1) := by decide +kernel
theorem d_W_isOneMore_35 : decode c_W_isOneMore 35 = .ok (.iload_n 1, 1) := by decide +kernel
theorem d_W_isOneMore_36 : decode c_W_isOneMore 36 = .ok (.iload 4, 2) := by decide +kernel
theorem d_W_isOneMore_38 : decode c_W_isOneMore 38 = .ok (.invokevirtual 47, 3) := by decide +kernel
theorem d_W_isOneMore_41 : decode c_W_isOneMore 41 = .ok (.aload_n 0, 1) := by decide +kernel
theorem d_W_isOneMore_42 : decode c_W_isOneMore 42 = .ok (.iload_n 2, 1) := by decide +kernel
theorem d_W_isOneMore_43 : decode c_W_isOneMore 43 = .ok (.iload 4, 2) := by decide +kernel
theorem d_W_isOneMore_45 : decode c_W_isOneMore 45 = .ok (.iload_n 3, 1) := by decide +kernel
theorem d_W_isOneMore_46 : decode c_W_isOneMore 46 = .ok (.iadd, 1) := by decide +kernel
theorem d_W_isOneMore_47 : decode c_W_isOneMore 47 = .ok (.invokevirtual 47, 3) := by decide +kernel
theorem d_W_isOneMore_50 : decode c_W_isOneMore 50 = .ok (.if_icmp .eq 5, 3) := by decide +kernel
theorem d_W_isOneMore_53 : decode c_W_isOneMore 53 = .ok (.iconst 0, 1) := by decide +kernel
theorem d_W_isOneMore_54 : decode c_W_isOneMore 54 = .ok (.ireturn, 1) := by decide +kernel
theorem d_W_isOneMore_55 : decode c_W_isOneMore 55 = .ok (.iinc 4 1, 3) := by decide +kernel
theorem d_W_isOneMore_58 : decode c_W_isOneMore 58 = .ok (.goto (-53), 3) := by decide +kernel
theorem d_W_isOneMore_61 : decode c_W_isOneMore 61 = .ok (.iconst 1, 1) := by decide +kernel
theorem d_W_isOneMore_62 : decode c_W_isOneMore 62 = .ok (.ireturn, 1) := by decide +kernel
abbrev w_W_isOneMore : List Cond := mx_ws y_W_isOneMore c_W_isOneMore 5 (some .boolean)
abbrev rm_W_isOneMore : Room := { frames := 20, cells := 0, slots := 0, locals := 400 }
def t_W_isOneMore  (P : Option mx_V → mx_F → Prop) : List (Nat × mx_O) := [
  (0, mx_push (.inl (nI 0)) 1),
  (1, mx_istore 3 2),
  (2, mx_push (.inl (nI 0)) 3),
  (3, mx_istore 4 5),
  (5, mx_iload 4 7),
  (7, mx_aload 0 8),
  (8, mx_iload 1 9),
  (9, mx_cv1 5 sp_W_lengthOf 0 0 12),
  (12, mx_ic_ge 61 15),
  (15, mx_aload 0 16),
  (16, mx_iload 1 17),
  (17, mx_iload 4 19),
  (19, mx_cv2 5 sp_W_letterOf 0 0 22),
  (22, mx_aload 0 23),
  (23, mx_iload 2 24),
  (24, mx_iload 4 26),
  (26, mx_cv2 5 sp_W_letterOf 0 0 29),
  (29, mx_ic_eq 34 32),
  (32, mx_push (.inl (nI 1)) 33),
  (33, mx_istore 3 34),
  (34, mx_aload 0 35),
  (35, mx_iload 1 36),
  (36, mx_iload 4 38),
  (38, mx_cv2 5 sp_W_letterOf 0 0 41),
  (41, mx_aload 0 42),
  (42, mx_iload 2 43),
  (43, mx_iload 4 45),
  (45, mx_iload 3 46),
  (46, mx_iadd 47),
  (47, mx_cv2 5 sp_W_letterOf 0 0 50),
  (50, mx_ic_eq 55 53),
  (53, mx_push (.inl (nI 0)) 54),
  (54, mx_zret P),
  (55, mx_iinc 4 (nI 1) 58),
  (58, mx_goto 5),
  (61, mx_push (.inl (nI 1)) 62),
  (62, mx_zret P)]
set_option maxRecDepth 20000 in
theorem a_W_isOneMore  {p : Program} {l : Launch} {e : Env} {s : State} {m : MethodId} {args : Array Value} {below : List Frame} {meth : Method} {c : Code} {D : va_G} {tc : Nat → ClassId} {tb : Nat → Nat} {sz : Nat} {a0 : Nat → Nat} {G : mx_F} {P : Option mx_V → mx_F → Prop}  (C : mx_C p s m args c c_W_isOneMore y_W_isOneMore.cls w_W_isOneMore D tc tb (mx_A a0 G sz) 5 (mx_Ok0 a0 G)) (hr : meth.sig.returnType = (some .boolean)) (hlk : meth.locks = false) : mx_all (mx_W p l e rm_W_isOneMore s m args below meth c (MQ below (mx_Q D tc tb a0 G sz P) args s 0 0 (mx_A a0 G sz)) D tc tb (mx_A a0 G sz) 5 (mx_Ok0 a0 G)) (t_W_isOneMore  P) :=
  ⟨mx_s_iconst C d_W_isOneMore_0 (by decide),
  mx_s_istore_n C d_W_isOneMore_1 rfl (by decide),
  mx_s_iconst C d_W_isOneMore_2 (by decide),
  mx_s_istore C d_W_isOneMore_3 (by decide),
  mx_s_iload C d_W_isOneMore_5,
  mx_s_aload_n C d_W_isOneMore_7 rfl,
  mx_s_iload_n C d_W_isOneMore_8 rfl,
  mx_s_cv1 C (m_W_lengthOf l) rfl (cwV 1 C.2.2.2.2.1 (mx_gV (fun w h => List.mem_cons_of_mem _ h) mk_W_43 im_W_lengthOf se_W_lengthOf ic_W co_W_lengthOf) rfl rfl rfl (by decide +kernel) ⟨by decide, by decide⟩) d_W_isOneMore_9 ⟨Nat.zero_le _, Nat.zero_le _⟩,
  mx_s_ic_ge C d_W_isOneMore_12 (by decide),
  mx_s_aload_n C d_W_isOneMore_15 rfl,
  mx_s_iload_n C d_W_isOneMore_16 rfl,
  mx_s_iload C d_W_isOneMore_17,
  mx_s_cv2 C (m_W_letterOf l) rfl (cwV 2 C.2.2.2.2.1 (mx_gV (fun w h => List.mem_cons_of_mem _ h) mk_W_47 im_W_letterOf se_W_letterOf ic_W co_W_letterOf) rfl rfl rfl (by decide +kernel) ⟨by decide, by decide⟩) d_W_isOneMore_19 ⟨Nat.zero_le _, Nat.zero_le _⟩,
  mx_s_aload_n C d_W_isOneMore_22 rfl,
  mx_s_iload_n C d_W_isOneMore_23 rfl,
  mx_s_iload C d_W_isOneMore_24,
  mx_s_cv2 C (m_W_letterOf l) rfl (cwV 2 C.2.2.2.2.1 (mx_gV (fun w h => List.mem_cons_of_mem _ h) mk_W_47 im_W_letterOf se_W_letterOf ic_W co_W_letterOf) rfl rfl rfl (by decide +kernel) ⟨by decide, by decide⟩) d_W_isOneMore_26 ⟨Nat.zero_le _, Nat.zero_le _⟩,
  mx_s_ic_eq C d_W_isOneMore_29 (by decide),
  mx_s_iconst C d_W_isOneMore_32 (by decide),
  mx_s_istore_n C d_W_isOneMore_33 rfl (by decide),
  mx_s_aload_n C d_W_isOneMore_34 rfl,
  mx_s_iload_n C d_W_isOneMore_35 rfl,
  mx_s_iload C d_W_isOneMore_36,
  mx_s_cv2 C (m_W_letterOf l) rfl (cwV 2 C.2.2.2.2.1 (mx_gV (fun w h => List.mem_cons_of_mem _ h) mk_W_47 im_W_letterOf se_W_letterOf ic_W co_W_letterOf) rfl rfl rfl (by decide +kernel) ⟨by decide, by decide⟩) d_W_isOneMore_38 ⟨Nat.zero_le _, Nat.zero_le _⟩,
  mx_s_aload_n C d_W_isOneMore_41 rfl,
  mx_s_iload_n C d_W_isOneMore_42 rfl,
  mx_s_iload C d_W_isOneMore_43,
  mx_s_iload_n C d_W_isOneMore_45 rfl,
  mx_s_iadd C d_W_isOneMore_46,
  mx_s_cv2 C (m_W_letterOf l) rfl (cwV 2 C.2.2.2.2.1 (mx_gV (fun w h => List.mem_cons_of_mem _ h) mk_W_47 im_W_letterOf se_W_letterOf ic_W co_W_letterOf) rfl rfl rfl (by decide +kernel) ⟨by decide, by decide⟩) d_W_isOneMore_47 ⟨Nat.zero_le _, Nat.zero_le _⟩,
  mx_s_ic_eq C d_W_isOneMore_50 (by decide),
  mx_s_iconst C d_W_isOneMore_53 (by decide),
  mx_s_zret C hr hlk d_W_isOneMore_54,
  mx_s_iinc C d_W_isOneMore_55 (by decide) (by decide),
  mx_s_goto C d_W_isOneMore_58 (by decide),
  mx_s_iconst C d_W_isOneMore_61 (by decide),
  mx_s_zret C hr hlk d_W_isOneMore_62,
  trivial⟩
set_option maxRecDepth 20000 in
set_option maxHeartbeats 2000000 in
theorem m_W_isOneMore (l : Launch) : mx_M l y_W_isOneMore w_W_isOneMore rm_W_isOneMore sp_W_isOneMore := by
  intro zD ztc ztb zad As F P sz0 h
  obtain ⟨n, N, ch, S, lt, st, a, b, rfl, h3, h4, h5, hw, ha, hb, hab, ho, hz⟩ := h
  refine mx_run (cc := c_W_isOneMore) (maxL := 5) (ret := (some .boolean)) (tab := t_W_isOneMore  P) (by decide) rfl zD ztc ztb zad _ F P sz0 (Nat.le_of_ble_eq_true rfl) (fun p e s m args below meth c C hr hlk => a_W_isOneMore  C hr hlk) ?_
  intro Rr go
  have hF := mx_as3 h3 h4 h5
  rw [hF]
  have hn := hw.1.1
  have hN := hw.2.1.2.1 a ha
  have loop : ∀ (m i s : Nat), i + m = N a → ((s = 0 ∧ ∀ q, q < i → ch a q = ch b q) ∨ (s = 1 ∧ ∃ u, u < i ∧ (∀ q, q < u → ch a q = ch b q) ∧ ¬ ch a u = ch b u ∧ ∀ q, u ≤ q → q < i → ch a q = ch b (q + 1))) → Rr 5 [some (mx_r 3), some (mx_i (nI a)), some (mx_i (nI b)), some (mx_i (nI s)), some (mx_i (nI i))] [] (mx_put (mx_put (mx_put F 3 (e_W n)) 4 (mx_ia 360 lt)) 5 (mx_ia 61 st)) 0 0 := by
    intro m
    induction m with
    | zero =>
      intro i s hi hs
      refine go rfl ⟨_, rfl, ?_⟩
      refine go rfl ⟨_, rfl, ?_⟩
      refine go rfl ⟨_, rfl, ?_⟩
      refine go rfl ⟨_, _, _, _, rfl, rfl, rfl, rfl, rfl, u_lengthOf hw ha rfl rfl ?_⟩
      refine go rfl ⟨_, _, _, rfl, fun c => ?_, fun c => ?_⟩
      · refine go rfl ?_
        refine go rfl ⟨_, rfl, rfl, rfl, (Or.inr rfl), ?_⟩
        rw [← hF]
        refine ho ?_
        rcases hs with ⟨rfl, h⟩ | ⟨rfl, u, h1, h2, h3, h4⟩
        · exact ⟨N a, Nat.le_refl _, fun q hq => by rw [if_pos hq]; exact h q (by omega)⟩
        · refine ⟨u, by omega, fun q hq => ?_⟩
          by_cases hu : q < u
          · rw [if_pos hu]
            exact h2 q hu
          · rw [if_neg hu]
            exact h4 q (by omega) (by omega)
      · exact absurd (nI_le (by omega) (by omega)) c
    | succ m ih =>
      intro i s hi hs
      refine go rfl ⟨_, rfl, ?_⟩
      refine go rfl ⟨_, rfl, ?_⟩
      refine go rfl ⟨_, rfl, ?_⟩
      refine go rfl ⟨_, _, _, _, rfl, rfl, rfl, rfl, rfl, u_lengthOf hw ha rfl rfl ?_⟩
      refine go rfl ⟨_, _, _, rfl, fun c => ?_, fun c => ?_⟩
      · exact absurd ((nI_leI (by omega) (by omega)).mp c) (by omega)
      refine go rfl ⟨_, rfl, ?_⟩
      refine go rfl ⟨_, rfl, ?_⟩
      refine go rfl ⟨_, rfl, ?_⟩
      refine go rfl ⟨_, _, _, _, _, rfl, rfl, rfl, rfl, rfl, u_letterOf hw ha (show i < N a by omega) rfl rfl rfl ?_⟩
      refine go rfl ⟨_, rfl, ?_⟩
      refine go rfl ⟨_, rfl, ?_⟩
      refine go rfl ⟨_, rfl, ?_⟩
      refine go rfl ⟨_, _, _, _, _, rfl, rfl, rfl, rfl, rfl, u_letterOf hw hb (show i < N b by omega) rfl rfl rfl ?_⟩
      -- behind the first question: s' is known
      have second : ∀ s' : Nat, ((s' = 0 ∧ ch a i = ch b i ∧ ∀ q, q < i → ch a q = ch b q) ∨ (s' = 1 ∧ ∃ u, u ≤ i ∧ (∀ q, q < u → ch a q = ch b q) ∧ ¬ ch a u = ch b u ∧ ∀ q, u ≤ q → q < i → ch a q = ch b (q + 1))) → Rr 34 [some (mx_r 3), some (mx_i (nI a)), some (mx_i (nI b)), some (mx_i (nI s')), some (mx_i (nI i))] [] (mx_put (mx_put (mx_put F 3 (e_W n)) 4 (mx_ia 360 lt)) 5 (mx_ia 61 st)) 0 0 := by
        intro s' hs'
        have hs1 : s' ≤ 1 := by omega
        refine go rfl ⟨_, rfl, ?_⟩
        refine go rfl ⟨_, rfl, ?_⟩
        refine go rfl ⟨_, rfl, ?_⟩
        refine go rfl ⟨_, _, _, _, _, rfl, rfl, rfl, rfl, rfl, u_letterOf hw ha (show i < N a by omega) rfl rfl rfl ?_⟩
        refine go rfl ⟨_, rfl, ?_⟩
        refine go rfl ⟨_, rfl, ?_⟩
        refine go rfl ⟨_, rfl, ?_⟩
        refine go rfl ⟨_, rfl, ?_⟩
        refine go rfl ⟨_, _, _, rfl, ?_⟩
        rw [nI_add]
        refine go rfl ⟨_, _, _, _, _, rfl, rfl, rfl, rfl, rfl, u_letterOf hw hb (show i + s' < N b by omega) rfl rfl rfl ?_⟩
        refine go rfl ⟨_, _, _, rfl, fun e => ?_, fun e => ?_⟩
        · refine go rfl ⟨_, rfl, ?_⟩
          refine go rfl ?_
          rw [nI_add]
          refine ih (i + 1) s' (by omega) ?_
          rcases hs' with ⟨rfl, h1, h2⟩ | ⟨rfl, u, h1, h2, h3, h4⟩
          · refine Or.inl ⟨rfl, fun q hq => ?_⟩
            rcases Nat.lt_or_ge q i with w | w
            · exact h2 q w
            · rw [show q = i by omega]
              exact h1
          · refine Or.inr ⟨rfl, u, by omega, h2, h3, fun q hq1 hq2 => ?_⟩
            rcases Nat.lt_or_ge q i with w | w
            · exact h4 q hq1 w
            · rw [show q = i by omega]
              exact e
        · refine go rfl ?_
          refine go rfl ⟨_, rfl, rfl, rfl, (Or.inl rfl), ?_⟩
          rw [← hF]
          refine hz ?_
          rcases hs' with ⟨rfl, h1, h2⟩ | ⟨rfl, u, h1, h2, h3, h4⟩
          · exact absurd h1 e
          · rintro ⟨v, hv, h⟩
            rcases Nat.lt_or_ge u v with w | w
            · have := h u (by omega)
              rw [if_pos w] at this
              exact h3 this
            · have := h i (by omega)
              rw [if_neg (by omega)] at this
              exact e this
      refine go rfl ⟨_, _, _, rfl, fun e => ?_, fun e => ?_⟩
      · refine second s ?_
        rcases hs with ⟨rfl, h⟩ | ⟨rfl, u, h1, h2, h3, h4⟩
        · exact Or.inl ⟨rfl, e, h⟩
        · exact Or.inr ⟨rfl, u, by omega, h2, h3, h4⟩
      · refine go rfl ?_
        refine go rfl ⟨_, _, rfl, ?_⟩
        refine second 1 ?_
        rcases hs with ⟨rfl, h⟩ | ⟨rfl, u, h1, h2, h3, h4⟩
        · exact Or.inr ⟨rfl, i, Nat.le_refl _, h, e, fun q q1 q2 => absurd q1 (by omega)⟩
        · exact Or.inr ⟨rfl, u, by omega, h2, h3, h4⟩
  refine go rfl ?_
  refine go rfl ⟨_, _, rfl, ?_⟩
  refine go rfl ?_
  refine go rfl ⟨_, _, rfl, ?_⟩
  exact loop (N a) 0 0 (by omega) (Or.inl ⟨rfl, fun q hq => absurd hq (Nat.not_lt_zero q)⟩)
-- LadderWords$Words.isStep(III)Z
def sp_W_isStep : mx_Sp := fun As F P => ∃ (n : Nat) (N : Nat → Nat) (ch : Nat → Nat → Int32) (S : Nat → Nat) (lt st : Nat → Int32) (a b kd : Nat), As = [mx_r 3, mx_i (nI a), mx_i (nI b), mx_i (nI kd)] ∧ F 3 = some (e_W n) ∧ F 4 = some (mx_ia 360 lt) ∧ F 5 = some (mx_ia 61 st) ∧ wst n N ch S lt st ∧ a < n ∧ b < n ∧ kd ≤ 1 ∧ (stepP N ch kd a b → P (some (mx_i (nI 1))) F) ∧ (¬ stepP N ch kd a b → P (some (mx_i (nI 0))) F)
theorem d_W_isStep_0 : decode c_W_isStep 0 = .ok (.aload_n 0, 1) := by decide +kernel
theorem d_W_isStep_1 : decode c_W_isStep 1 = .ok (.iload_n 2, 1) := by decide +kernel
theorem d_W_isStep_2 : decode c_W_isStep 2 = .ok (.invokevirtual 43, 3) := by decide +kernel
theorem d_W_isStep_5 : decode c_W_isStep 5 = .ok (.aload_n 0, 1) := by decide +kernel
theorem d_W_isStep_6 : decode c_W_isStep 6 = .ok (.iload_n 1, 1) := by decide +kernel
theorem d_W_isStep_7 : decode c_W_isStep 7 = .ok (.invokevirtual 43, 3) := by decide +kernel
theorem d_W_isStep_10 : decode c_W_isStep 10 = .ok (.isub, 1) := by decide +kernel
theorem d_W_isStep_11 : decode c_W_isStep 11 = .ok (.istore 4, 2) := by decide +kernel
theorem d_W_isStep_13 : decode c_W_isStep 13 = .ok (.iload 4, 2) := by decide +kernel
theorem d_W_isStep_15 : decode c_W_isStep 15 = .ok (.ifCond .ne 19, 3) := by decide +kernel
theorem d_W_isStep_18 : decode c_W_isStep 18 = .ok (.aload_n 0, 1) := by decide +kernel
theorem d_W_isStep_19 : decode c_W_isStep 19 = .ok (.iload_n 1, 1) := by decide +kernel
theorem d_W_isStep_20 : decode c_W_isStep 20 = .ok (.iload_n 2, 1) := by decide +kernel
theorem d_W_isStep_21 : decode c_W_isStep 21 = .ok (.invokevirtual 54, 3) := by decide +kernel
theorem d_W_isStep_24 : decode c_W_isStep 24 = .ok (.iconst 1, 1) := by decide +kernel
theorem d_W_isStep_25 : decode c_W_isStep 25 = .ok (.if_icmp .ne 7, 3) := by decide +kernel
theorem d_W_isStep_28 : decode c_W_isStep 28 = .ok (.iconst 1, 1) := by decide +kernel
theorem d_W_isStep_29 : decode c_W_isStep 29 = .ok (.goto 4, 3) := by decide +kernel
theorem d_W_isStep_32 : decode c_W_isStep 32 = .ok (.iconst 0, 1) := by decide +kernel
theorem d_W_isStep_33 : decode c_W_isStep 33 = .ok (.ireturn, 1) := by decide +kernel
theorem d_W_isStep_34 : decode c_W_isStep 34 = .ok (.iload_n 3, 1) := by decide +kernel
theorem d_W_isStep_35 : decode c_W_isStep 35 = .ok (.ifCond .ne 5, 3) := by decide +kernel
theorem d_W_isStep_38 : decode c_W_isStep 38 = .ok (.iconst 0, 1) := by decide +kernel
theorem d_W_isStep_39 : decode c_W_isStep 39 = .ok (.ireturn, 1) := by decide +kernel
theorem d_W_isStep_40 : decode c_W_isStep 40 = .ok (.iload 4, 2) := by decide +kernel
theorem d_W_isStep_42 : decode c_W_isStep 42 = .ok (.iconst 1, 1) := by decide +kernel
theorem d_W_isStep_43 : decode c_W_isStep 43 = .ok (.if_icmp .ne 12, 3) := by decide +kernel
theorem d_W_isStep_46 : decode c_W_isStep 46 = .ok (.aload_n 0, 1) := by decide +kernel
theorem d_W_isStep_47 : decode c_W_isStep 47 = .ok (.iload_n 1, 1) := by decide +kernel
theorem d_W_isStep_48 : decode c_W_isStep 48 = .ok (.iload_n 2, 1) := by decide +kernel
theorem d_W_isStep_49 : decode c_W_isStep 49 = .ok (.invokevirtual 57, 3) := by decide +kernel
theorem d_W_isStep_52 : decode c_W_isStep 52 = .ok (.ifCond .ne 18, 3) := by decide +kernel
theorem d_W_isStep_55 : decode c_W_isStep 55 = .ok (.iload 4, 2) := by decide +kernel
theorem d_W_isStep_57 : decode c_W_isStep 57 = .ok (.iconst (-1), 1) := by decide +kernel
theorem d_W_isStep_58 : decode c_W_isStep 58 = .ok (.if_icmp .ne 16, 3) := by decide +kernel
theorem d_W_isStep_61 : decode c_W_isStep 61 = .ok (.aload_n 0, 1) := by decide +kernel
theorem d_W_isStep_62 : decode c_W_isStep 62 = .ok (.iload_n 2, 1) := by decide +kernel
theorem d_W_isStep_63 : decode c_W_isStep 63 = .ok (.iload_n 1, 1) := by decide +kernel
theorem d_W_isStep_64 : decode c_W_isStep 64 = .ok (.invokevirtual 57, 3) := by decide +kernel
theorem d_W_isStep_67 : decode c_W_isStep 67 = .ok (.ifCond .eq 7, 3) := by decide +kernel
theorem d_W_isStep_70 : decode c_W_isStep 70 = .ok (.iconst 1, 1) := by decide +kernel
theorem d_W_isStep_71 : decode c_W_isStep 71 = .ok (.goto 4, 3) := by decide +kernel
theorem d_W_isStep_74 : decode c_W_isStep 74 = .ok (.iconst 0, 1) := by decide +kernel
theorem d_W_isStep_75 : decode c_W_isStep 75 = .ok (.ireturn, 1) := by decide +kernel
abbrev w_W_isStep : List Cond := mx_ws y_W_isStep c_W_isStep 5 (some .boolean)
abbrev rm_W_isStep : Room := { frames := 30, cells := 0, slots := 0, locals := 600 }
def t_W_isStep  (P : Option mx_V → mx_F → Prop) : List (Nat × mx_O) := [
  (0, mx_aload 0 1),
  (1, mx_iload 2 2),
  (2, mx_cv1 5 sp_W_lengthOf 0 0 5),
  (5, mx_aload 0 6),
  (6, mx_iload 1 7),
  (7, mx_cv1 5 sp_W_lengthOf 0 0 10),
  (10, mx_isub 11),
  (11, mx_istore 4 13),
  (13, mx_iload 4 15),
  (15, mx_if_ne 34 18),
  (18, mx_aload 0 19),
  (19, mx_iload 1 20),
  (20, mx_iload 2 21),
  (21, mx_cv2 5 sp_W_differences 0 0 24),
  (24, mx_push (.inl (nI 1)) 25),
  (25, mx_ic_ne 32 28),
  (28, mx_push (.inl (nI 1)) 29),
  (29, mx_goto 33),
  (32, mx_push (.inl (nI 0)) 33),
  (33, mx_zret P),
  (34, mx_iload 3 35),
  (35, mx_if_ne 40 38),
  (38, mx_push (.inl (nI 0)) 39),
  (39, mx_zret P),
  (40, mx_iload 4 42),
  (42, mx_push (.inl (nI 1)) 43),
  (43, mx_ic_ne 55 46),
  (46, mx_aload 0 47),
  (47, mx_iload 1 48),
  (48, mx_iload 2 49),
  (49, mx_cv2 5 sp_W_isOneMore 0 0 52),
  (52, mx_if_ne 70 55),
  (55, mx_iload 4 57),
  (57, mx_push (.inl (-1)) 58),
  (58, mx_ic_ne 74 61),
  (61, mx_aload 0 62),
  (62, mx_iload 2 63),
  (63, mx_iload 1 64),
  (64, mx_cv2 5 sp_W_isOneMore 0 0 67),
  (67, mx_if_eq 74 70),
  (70, mx_push (.inl (nI 1)) 71),
  (71, mx_goto 75),
  (74, mx_push (.inl (nI 0)) 75),
  (75, mx_zret P)]
set_option maxRecDepth 20000 in
theorem a_W_isStep  {p : Program} {l : Launch} {e : Env} {s : State} {m : MethodId} {args : Array Value} {below : List Frame} {meth : Method} {c : Code} {D : va_G} {tc : Nat → ClassId} {tb : Nat → Nat} {sz : Nat} {a0 : Nat → Nat} {G : mx_F} {P : Option mx_V → mx_F → Prop}  (C : mx_C p s m args c c_W_isStep y_W_isStep.cls w_W_isStep D tc tb (mx_A a0 G sz) 5 (mx_Ok0 a0 G)) (hr : meth.sig.returnType = (some .boolean)) (hlk : meth.locks = false) : mx_all (mx_W p l e rm_W_isStep s m args below meth c (MQ below (mx_Q D tc tb a0 G sz P) args s 0 0 (mx_A a0 G sz)) D tc tb (mx_A a0 G sz) 5 (mx_Ok0 a0 G)) (t_W_isStep  P) :=
  ⟨mx_s_aload_n C d_W_isStep_0 rfl,
  mx_s_iload_n C d_W_isStep_1 rfl,
  mx_s_cv1 C (m_W_lengthOf l) rfl (cwV 1 C.2.2.2.2.1 (mx_gV (fun w h => List.mem_cons_of_mem _ h) mk_W_43 im_W_lengthOf se_W_lengthOf ic_W co_W_lengthOf) rfl rfl rfl (by decide +kernel) ⟨by decide, by decide⟩) d_W_isStep_2 ⟨Nat.zero_le _, Nat.zero_le _⟩,
  mx_s_aload_n C d_W_isStep_5 rfl,
  mx_s_iload_n C d_W_isStep_6 rfl,
  mx_s_cv1 C (m_W_lengthOf l) rfl (cwV 1 C.2.2.2.2.1 (mx_gV (fun w h => List.mem_cons_of_mem _ h) mk_W_43 im_W_lengthOf se_W_lengthOf ic_W co_W_lengthOf) rfl rfl rfl (by decide +kernel) ⟨by decide, by decide⟩) d_W_isStep_7 ⟨Nat.zero_le _, Nat.zero_le _⟩,
  mx_s_isub C d_W_isStep_10,
  mx_s_istore C d_W_isStep_11 (by decide),
  mx_s_iload C d_W_isStep_13,
  mx_s_if_ne C d_W_isStep_15 (by decide),
  mx_s_aload_n C d_W_isStep_18 rfl,
  mx_s_iload_n C d_W_isStep_19 rfl,
  mx_s_iload_n C d_W_isStep_20 rfl,
  mx_s_cv2 C (m_W_differences l) rfl (cwV 2 C.2.2.2.2.1 (mx_gV (fun w h => List.mem_cons_of_mem _ h) mk_W_54 im_W_differences se_W_differences ic_W co_W_differences) rfl rfl rfl (by decide +kernel) ⟨by decide, by decide⟩) d_W_isStep_21 ⟨Nat.zero_le _, Nat.zero_le _⟩,
  mx_s_iconst C d_W_isStep_24 (by decide),
  mx_s_ic_ne C d_W_isStep_25 (by decide),
  mx_s_iconst C d_W_isStep_28 (by decide),
  mx_s_goto C d_W_isStep_29 (by decide),
  mx_s_iconst C d_W_isStep_32 (by decide),
  mx_s_zret C hr hlk d_W_isStep_33,
  mx_s_iload_n C d_W_isStep_34 rfl,
  mx_s_if_ne C d_W_isStep_35 (by decide),
  mx_s_iconst C d_W_isStep_38 (by decide),
  mx_s_zret C hr hlk d_W_isStep_39,
  mx_s_iload C d_W_isStep_40,
  mx_s_iconst C d_W_isStep_42 (by decide),
  mx_s_ic_ne C d_W_isStep_43 (by decide),
  mx_s_aload_n C d_W_isStep_46 rfl,
  mx_s_iload_n C d_W_isStep_47 rfl,
  mx_s_iload_n C d_W_isStep_48 rfl,
  mx_s_cv2 C (m_W_isOneMore l) rfl (cwV 2 C.2.2.2.2.1 (mx_gV (fun w h => List.mem_cons_of_mem _ h) mk_W_57 im_W_isOneMore se_W_isOneMore ic_W co_W_isOneMore) rfl rfl rfl (by decide +kernel) ⟨by decide, by decide⟩) d_W_isStep_49 ⟨Nat.zero_le _, Nat.zero_le _⟩,
  mx_s_if_ne C d_W_isStep_52 (by decide),
  mx_s_iload C d_W_isStep_55,
  mx_s_iconst C d_W_isStep_57 (by decide),
  mx_s_ic_ne C d_W_isStep_58 (by decide),
  mx_s_aload_n C d_W_isStep_61 rfl,
  mx_s_iload_n C d_W_isStep_62 rfl,
  mx_s_iload_n C d_W_isStep_63 rfl,
  mx_s_cv2 C (m_W_isOneMore l) rfl (cwV 2 C.2.2.2.2.1 (mx_gV (fun w h => List.mem_cons_of_mem _ h) mk_W_57 im_W_isOneMore se_W_isOneMore ic_W co_W_isOneMore) rfl rfl rfl (by decide +kernel) ⟨by decide, by decide⟩) d_W_isStep_64 ⟨Nat.zero_le _, Nat.zero_le _⟩,
  mx_s_if_eq C d_W_isStep_67 (by decide),
  mx_s_iconst C d_W_isStep_70 (by decide),
  mx_s_goto C d_W_isStep_71 (by decide),
  mx_s_iconst C d_W_isStep_74 (by decide),
  mx_s_zret C hr hlk d_W_isStep_75,
  trivial⟩
set_option maxRecDepth 20000 in
set_option maxHeartbeats 2000000 in
theorem m_W_isStep (l : Launch) : mx_M l y_W_isStep w_W_isStep rm_W_isStep sp_W_isStep := by
  intro zD ztc ztb zad As F P sz0 h
  obtain ⟨n, N, ch, S, lt, st, a, b, kd, rfl, h3, h4, h5, hw, ha, hb, hk, ho, hz⟩ := h
  refine mx_run (cc := c_W_isStep) (maxL := 5) (ret := (some .boolean)) (tab := t_W_isStep  P) (by decide) rfl zD ztc ztb zad _ F P sz0 (Nat.le_of_ble_eq_true rfl) (fun p e s m args below meth c C hr hlk => a_W_isStep  C hr hlk) ?_
  intro Rr go
  have hF := mx_as3 h3 h4 h5
  rw [hF]
  have hn := hw.1.1
  have hA := hw.2.1.2.1 a ha
  have hB := hw.2.1.2.1 b hb
  have q0 := df0 (p := N b) (q := N a) (by omega) (by omega)
  have q1 := df1 (p := N b) (q := N a) (by omega) (by omega)
  have qm := dfm (p := N b) (q := N a) (by omega) (by omega)
  refine go rfl ⟨_, rfl, ?_⟩
  refine go rfl ⟨_, rfl, ?_⟩
  refine go rfl ⟨_, _, _, _, rfl, rfl, rfl, rfl, rfl, u_lengthOf hw hb rfl rfl ?_⟩
  refine go rfl ⟨_, rfl, ?_⟩
  refine go rfl ⟨_, rfl, ?_⟩
  refine go rfl ⟨_, _, _, _, rfl, rfl, rfl, rfl, rfl, u_lengthOf hw ha rfl rfl ?_⟩
  refine go rfl ⟨_, _, _, rfl, ?_⟩
  refine go rfl ⟨_, _, rfl, ?_⟩
  refine go rfl ⟨_, rfl, ?_⟩
  refine go rfl ⟨_, _, rfl, fun c1 => ?_, fun c1 => ?_⟩
  rotate_left
  · have c1 := q0.mp c1
    refine go rfl ⟨_, rfl, ?_⟩
    refine go rfl ⟨_, rfl, ?_⟩
    refine go rfl ⟨_, rfl, ?_⟩
    refine go rfl ⟨_, _, _, _, _, rfl, rfl, rfl, rfl, rfl, ⟨n, N, ch, S, lt, st, a, b, rfl, rfl, rfl, rfl, hw, ha, hb, c1.symm, ?_⟩⟩
    refine go rfl ?_
    have hd := dif_le (ch a) (ch b) (N a)
    refine go rfl ⟨_, _, _, rfl, fun c2 => ?_, fun c2 => ?_⟩
    · refine go rfl ?_
      refine go rfl ⟨_, rfl, rfl, rfl, (Or.inl rfl), ?_⟩
      rw [← hF]
      refine hz ?_
      rintro (⟨h1, h2⟩ | ⟨h1, h2, h3⟩ | ⟨h1, h2, h3⟩)
      · rw [h2] at c2
        exact c2 rfl
      · omega
      · omega
    · refine go rfl ?_
      refine go rfl ?_
      refine go rfl ⟨_, rfl, rfl, rfl, (Or.inr rfl), ?_⟩
      rw [← hF]
      exact ho (Or.inl ⟨c1.symm, (nI_eq (by omega) (by omega)).mp c2⟩)
  have c1 : ¬ N b = N a := fun h => c1 (q0.mpr h)
  refine go rfl ⟨_, rfl, ?_⟩
  refine go rfl ⟨_, _, rfl, fun c2 => ?_, fun c2 => ?_⟩
  rotate_left
  · have c2 : kd = 0 := (nI_eq (b := 0) (by omega) (by omega)).mp c2
    refine go rfl ?_
    refine go rfl ⟨_, rfl, rfl, rfl, (Or.inl rfl), ?_⟩
    rw [← hF]
    refine hz ?_
    rintro (⟨h1, h2⟩ | ⟨h1, h2, h3⟩ | ⟨h1, h2, h3⟩)
    · exact c1 h1.symm
    · omega
    · omega
  have c2 : kd = 1 := by
    rcases Nat.eq_zero_or_pos kd with q | q
    · rw [q] at c2
      exact absurd rfl c2
    · omega
  have yes : stepP N ch kd a b → Rr 70 [some (mx_r 3), some (mx_i (nI a)), some (mx_i (nI b)), some (mx_i (nI kd)), some (mx_i (nI (N b) - nI (N a)))] [] (mx_put (mx_put (mx_put F 3 (e_W n)) 4 (mx_ia 360 lt)) 5 (mx_ia 61 st)) 0 0 := by
    intro h
    refine go rfl ?_
    refine go rfl ?_
    refine go rfl ⟨_, rfl, rfl, rfl, (Or.inr rfl), ?_⟩
    rw [← hF]
    exact ho h
  have no : ¬ stepP N ch kd a b → Rr 74 [some (mx_r 3), some (mx_i (nI a)), some (mx_i (nI b)), some (mx_i (nI kd)), some (mx_i (nI (N b) - nI (N a)))] [] (mx_put (mx_put (mx_put F 3 (e_W n)) 4 (mx_ia 360 lt)) 5 (mx_ia 61 st)) 0 0 := by
    intro h
    refine go rfl ?_
    refine go rfl ⟨_, rfl, rfl, rfl, (Or.inl rfl), ?_⟩
    rw [← hF]
    exact hz h
  have last : (N b = N a + 1 → ¬ om (N a) (ch a) (ch b)) → Rr 55 [some (mx_r 3), some (mx_i (nI a)), some (mx_i (nI b)), some (mx_i (nI kd)), some (mx_i (nI (N b) - nI (N a)))] [] (mx_put (mx_put (mx_put F 3 (e_W n)) 4 (mx_ia 360 lt)) 5 (mx_ia 61 st)) 0 0 := by
    intro hno
    refine go rfl ⟨_, rfl, ?_⟩
    refine go rfl ?_
    refine go rfl ⟨_, _, _, rfl, fun c4 => ?_, fun c4 => ?_⟩
    · have c4 : ¬ N a = N b + 1 := fun h => c4 (qm.mpr h)
      refine no ?_
      rintro (⟨h1, h2⟩ | ⟨h1, h2, h3⟩ | ⟨h1, h2, h3⟩)
      · exact c1 h1.symm
      · exact hno h2 h3
      · exact c4 h2
    have c4 := qm.mp c4
    refine go rfl ⟨_, rfl, ?_⟩
    refine go rfl ⟨_, rfl, ?_⟩
    refine go rfl ⟨_, rfl, ?_⟩
    refine go rfl ⟨_, _, _, _, _, rfl, rfl, rfl, rfl, rfl, ⟨n, N, ch, S, lt, st, b, a, rfl, rfl, rfl, rfl, hw, hb, ha, c4, fun h => ?_, fun h => ?_⟩⟩
    · refine go rfl ⟨_, _, rfl, fun e => ?_, fun e => ?_⟩
      · exact absurd e (by decide)
      exact yes (Or.inr (Or.inr ⟨c2, c4, h⟩))
    · refine go rfl ⟨_, _, rfl, fun e => ?_, fun e => ?_⟩
      · refine no ?_
        rintro (⟨h1, h2⟩ | ⟨h1, h2, h3⟩ | ⟨h1, h2, h3⟩)
        · exact c1 h1.symm
        · omega
        · exact h h3
      · exact absurd rfl e
  refine go rfl ⟨_, rfl, ?_⟩
  refine go rfl ?_
  refine go rfl ⟨_, _, _, rfl, fun c3 => ?_, fun c3 => ?_⟩
  · have c3 : ¬ N b = N a + 1 := fun h => c3 (q1.mpr h)
    exact last (fun h => absurd h c3)
  have c3 := q1.mp c3
  refine go rfl ⟨_, rfl, ?_⟩
  refine go rfl ⟨_, rfl, ?_⟩
  refine go rfl ⟨_, rfl, ?_⟩
  refine go rfl ⟨_, _, _, _, _, rfl, rfl, rfl, rfl, rfl, ⟨n, N, ch, S, lt, st, a, b, rfl, rfl, rfl, rfl, hw, ha, hb, c3, fun h => ?_, fun h => ?_⟩⟩
  · refine go rfl ⟨_, _, rfl, fun e => ?_, fun e => ?_⟩
    · exact yes (Or.inr (Or.inl ⟨c2, c3, h⟩))
    · exact absurd e (by decide)
  · refine go rfl ⟨_, _, rfl, fun e => ?_, fun e => ?_⟩
    · exact absurd rfl e
    · exact last (fun _ => h)
-- LadderWordsModel.differsOnce(II)Z
def sp_M_differsOnce : mx_Sp := fun As F P => ∃ (th sz mn sp : Int32) (wy : Int64) (kp sd : Int32) (n : Nat) (N : Nat → Nat) (ch : Nat → Nat → Int32) (lt ml : Nat → Int32) (a b : Nat), As = [mx_r 40, mx_i (nI a), mx_i (nI b)] ∧ F 42 = some (mx_ia 360 lt) ∧ F 43 = some (mx_ia 60 ml) ∧ F 40 = some (e_M th sz mn sp wy kp sd) ∧ mst n N ch lt ml ∧ a < n ∧ b < n ∧ N a = N b ∧ (dif (ch a) (ch b) (N a) = 1 → P (some (mx_i (nI 1))) F) ∧ (¬ dif (ch a) (ch b) (N a) = 1 → P (some (mx_i (nI 0))) F)
theorem d_M_differsOnce_0 : decode c_M_differsOnce 0 = .ok (.iconst 0, 1) := by decide +kernel
theorem d_M_differsOnce_1 : decode c_M_differsOnce 1 = .ok (.istore_n 3, 1) := by decide +kernel
theorem d_M_differsOnce_2 : decode c_M_differsOnce 2 = .ok (.iconst 0, 1) := by decide +kernel
theorem d_M_differsOnce_3 : decode c_M_differsOnce 3 = .ok (.istore 4, 2) := by decide +kernel
theorem d_M_differsOnce_5 : decode c_M_differsOnce 5 = .ok (.iload 4, 2) := by decide +kernel
theorem d_M_differsOnce_7 : decode c_M_differsOnce 7 = .ok (.aload_n 0, 1) := by decide +kernel
theorem d_M_differsOnce_8 : decode c_M_differsOnce 8 = .ok (.getfield 16, 3) := by decide +kernel
theorem d_M_differsOnce_11 : decode c_M_differsOnce 11 = .ok (.iload_n 1, 1) := by decide +kernel
theorem d_M_differsOnce_12 : decode c_M_differsOnce 12 = .ok (.iaload, 1) := by decide +kernel
theorem d_M_differsOnce_13 : decode c_M_differsOnce 13 = .ok (.if_icmp .ge 34, 3) := by decide +kernel
theorem d_M_differsOnce_16 : decode c_M_differsOnce 16 = .ok (.iload_n 3, 1) := by decide +kernel
theorem d_M_differsOnce_17 : decode c_M_differsOnce 17 = .ok (.aload_n 0, 1) := by decide +kernel
theorem d_M_differsOnce_18 : decode c_M_differsOnce 18 = .ok (.iload_n 1, 1) := by decide +kernel
theorem d_M_differsOnce_19 : decode c_M_differsOnce 19 = .ok (.iload 4, 2) := by decide +kernel
theorem d_M_differsOnce_21 : decode c_M_differsOnce 21 = .ok (.invokevirtual 57, 3) := by decide +kernel
theorem d_M_differsOnce_24 : decode c_M_differsOnce 24 = .ok (.aload_n 0, 1) := by decide +kernel
theorem d_M_differsOnce_25 : decode c_M_differsOnce 25 = .ok (.iload_n 2, 1) := by decide +kernel
theorem d_M_differsOnce_26 : decode c_M_differsOnce 26 = .ok (.iload 4, 2) := by decide +kernel
theorem d_M_differsOnce_28 : decode c_M_differsOnce 28 = .ok (.invokevirtual 57, 3) := by decide +kernel
theorem d_M_differsOnce_31 : decode c_M_differsOnce 31 = .ok (.if_icmp .eq 7, 3) := by decide +kernel
theorem d_M_differsOnce_34 : decode c_M_differsOnce 34 = .ok (.iconst 1, 1) := by decide +kernel
theorem d_M_differsOnce_35 : decode c_M_differsOnce 35 = .ok (.goto 4, 3) := by decide +kernel
theorem d_M_differsOnce_38 : decode c_M_differsOnce 38 = .ok (.iconst 0, 1) := by decide +kernel
theorem d_M_differsOnce_39 : decode c_M_differsOnce 39 = .ok (.iadd, 1) := by decide +kernel
theorem d_M_differsOnce_40 : decode c_M_differsOnce 40 = .ok (.istore_n 3, 1) := by decide +kernel
theorem d_M_differsOnce_41 : decode c_M_differsOnce 41 = .ok (.iinc 4 1, 3) := by decide +kernel
theorem d_M_differsOnce_44 : decode c_M_differsOnce 44 = .ok (.goto (-39), 3) := by decide +kernel
theorem d_M_differsOnce_47 : decode c_M_differsOnce 47 = .ok (.iload_n 3, 1) := by decide +kernel
theorem d_M_differsOnce_48 : decode c_M_differsOnce 48 = .ok (.iconst 1, 1) := by decide +kernel
theorem d_M_differsOnce_49 : decode c_M_differsOnce 49 = .ok (.if_icmp .ne 7, 3) := by decide +kernel
theorem d_M_differsOnce_52 : decode c_M_differsOnce 52 = .ok (.iconst 1, 1) := by decide +kernel
theorem d_M_differsOnce_53 : decode c_M_differsOnce 53 = .ok (.goto 4, 3) := by decide +kernel
theorem d_M_differsOnce_56 : decode c_M_differsOnce 56 = .ok (.iconst 0, 1) := by decide +kernel
theorem d_M_differsOnce_57 : decode c_M_differsOnce 57 = .ok (.ireturn, 1) := by decide +kernel
abbrev w_M_differsOnce : List Cond := mx_ws y_M_differsOnce c_M_differsOnce 5 (some .boolean)
abbrev rm_M_differsOnce : Room := { frames := 20, cells := 0, slots := 0, locals := 400 }
def t_M_differsOnce  (P : Option mx_V → mx_F → Prop) : List (Nat × mx_O) := [
  (0, mx_push (.inl (nI 0)) 1),
  (1, mx_istore 3 2),
  (2, mx_push (.inl (nI 0)) 3),
  (3, mx_istore 4 5),
  (5, mx_iload 4 7),
  (7, mx_aload 0 8),
  (8, mx_get 7 5 11),
  (11, mx_iload 1 12),
  (12, mx_iald 13),
  (13, mx_ic_ge 47 16),
  (16, mx_iload 3 17),
  (17, mx_aload 0 18),
  (18, mx_iload 1 19),
  (19, mx_iload 4 21),
  (21, mx_cv2 7 sp_M_at 0 0 24),
  (24, mx_aload 0 25),
  (25, mx_iload 2 26),
  (26, mx_iload 4 28),
  (28, mx_cv2 7 sp_M_at 0 0 31),
  (31, mx_ic_eq 38 34),
  (34, mx_push (.inl (nI 1)) 35),
  (35, mx_goto 39),
  (38, mx_push (.inl (nI 0)) 39),
  (39, mx_iadd 40),
  (40, mx_istore 3 41),
  (41, mx_iinc 4 (nI 1) 44),
  (44, mx_goto 5),
  (47, mx_iload 3 48),
  (48, mx_push (.inl (nI 1)) 49),
  (49, mx_ic_ne 56 52),
  (52, mx_push (.inl (nI 1)) 53),
  (53, mx_goto 57),
  (56, mx_push (.inl (nI 0)) 57),
  (57, mx_zret P)]
set_option maxRecDepth 20000 in
theorem a_M_differsOnce  {p : Program} {l : Launch} {e : Env} {s : State} {m : MethodId} {args : Array Value} {below : List Frame} {meth : Method} {c : Code} {D : va_G} {tc : Nat → ClassId} {tb : Nat → Nat} {sz : Nat} {a0 : Nat → Nat} {G : mx_F} {P : Option mx_V → mx_F → Prop}  (C : mx_C p s m args c c_M_differsOnce y_M_differsOnce.cls w_M_differsOnce D tc tb (mx_A a0 G sz) 5 (mx_Ok0 a0 G)) (hr : meth.sig.returnType = (some .boolean)) (hlk : meth.locks = false) : mx_all (mx_W p l e rm_M_differsOnce s m args below meth c (MQ below (mx_Q D tc tb a0 G sz P) args s 0 0 (mx_A a0 G sz)) D tc tb (mx_A a0 G sz) 5 (mx_Ok0 a0 G)) (t_M_differsOnce  P) :=
  ⟨mx_s_iconst C d_M_differsOnce_0 (by decide),
  mx_s_istore_n C d_M_differsOnce_1 rfl (by decide),
  mx_s_iconst C d_M_differsOnce_2 (by decide),
  mx_s_istore C d_M_differsOnce_3 (by decide),
  mx_s_iload C d_M_differsOnce_5,
  mx_s_aload_n C d_M_differsOnce_7 rfl,
  mx_s_get (T := T_M) (N := 18) (k := 5) C (fun w h => List.mem_cons_of_mem _ (in_M w h)) rfl (by decide) (List.mem_cons_of_mem _ fk_M_16) rfl d_M_differsOnce_8,
  mx_s_iload_n C d_M_differsOnce_11 rfl,
  mx_s_iald C d_M_differsOnce_12,
  mx_s_ic_ge C d_M_differsOnce_13 (by decide),
  mx_s_iload_n C d_M_differsOnce_16 rfl,
  mx_s_aload_n C d_M_differsOnce_17 rfl,
  mx_s_iload_n C d_M_differsOnce_18 rfl,
  mx_s_iload C d_M_differsOnce_19,
  mx_s_cv2 C (m_M_at l) rfl (cwV 2 C.2.2.2.2.1 (mx_gV (fun w h => List.mem_cons_of_mem _ h) mk_M_57 im_M_at se_M_at ic_M co_M_at) rfl rfl rfl (by decide +kernel) ⟨by decide, by decide⟩) d_M_differsOnce_21 ⟨Nat.zero_le _, Nat.zero_le _⟩,
  mx_s_aload_n C d_M_differsOnce_24 rfl,
  mx_s_iload_n C d_M_differsOnce_25 rfl,
  mx_s_iload C d_M_differsOnce_26,
  mx_s_cv2 C (m_M_at l) rfl (cwV 2 C.2.2.2.2.1 (mx_gV (fun w h => List.mem_cons_of_mem _ h) mk_M_57 im_M_at se_M_at ic_M co_M_at) rfl rfl rfl (by decide +kernel) ⟨by decide, by decide⟩) d_M_differsOnce_28 ⟨Nat.zero_le _, Nat.zero_le _⟩,
  mx_s_ic_eq C d_M_differsOnce_31 (by decide),
  mx_s_iconst C d_M_differsOnce_34 (by decide),
  mx_s_goto C d_M_differsOnce_35 (by decide),
  mx_s_iconst C d_M_differsOnce_38 (by decide),
  mx_s_iadd C d_M_differsOnce_39,
  mx_s_istore_n C d_M_differsOnce_40 rfl (by decide),
  mx_s_iinc C d_M_differsOnce_41 (by decide) (by decide),
  mx_s_goto C d_M_differsOnce_44 (by decide),
  mx_s_iload_n C d_M_differsOnce_47 rfl,
  mx_s_iconst C d_M_differsOnce_48 (by decide),
  mx_s_ic_ne C d_M_differsOnce_49 (by decide),
  mx_s_iconst C d_M_differsOnce_52 (by decide),
  mx_s_goto C d_M_differsOnce_53 (by decide),
  mx_s_iconst C d_M_differsOnce_56 (by decide),
  mx_s_zret C hr hlk d_M_differsOnce_57,
  trivial⟩
set_option maxRecDepth 20000 in
set_option maxHeartbeats 2000000 in
theorem m_M_differsOnce (l : Launch) : mx_M l y_M_differsOnce w_M_differsOnce rm_M_differsOnce sp_M_differsOnce := by
  intro zD ztc ztb zad As F P sz0 h
  obtain ⟨th, sz, mn, sp, wy, kp, sd, n, N, ch, lt, ml, a, b, rfl, h2, h3, h0, hw, ha, hb, hab, ho, hz⟩ := h
  refine mx_run (cc := c_M_differsOnce) (maxL := 5) (ret := (some .boolean)) (tab := t_M_differsOnce  P) (by decide) rfl zD ztc ztb zad _ F P sz0 (Nat.le_of_ble_eq_true rfl) (fun p e s m args below meth c C hr hlk => a_M_differsOnce  C hr hlk) ?_
  intro Rr go
  have hF := mx_as3 h2 h3 h0
  rw [hF]
  have hn := hw.1.1
  have hN := hw.2.1.2.1 a ha
  have loop : ∀ (m i : Nat), i + m = N a → Rr 5 [some (mx_r 40), some (mx_i (nI a)), some (mx_i (nI b)), some (mx_i (nI (dif (ch a) (ch b) i))), some (mx_i (nI i))] [] (mx_put (mx_put (mx_put F 42 (mx_ia 360 lt)) 43 (mx_ia 60 ml)) 40 (e_M th sz mn sp wy kp sd)) 0 0 := by
    intro m
    induction m with
    | zero =>
      intro i hi
      have ei : i = N a := by omega
      subst ei
      have hd := dif_le (ch a) (ch b) (N a)
      refine go rfl ⟨_, rfl, ?_⟩
      refine go rfl ⟨_, rfl, ?_⟩
      refine go rfl ⟨_, _, _, _, rfl, rfl, rfl, ?_⟩
      refine go rfl ⟨_, rfl, ?_⟩
      refine go rfl ⟨_, _, _, _, _, rfl, rfl, (vp_in_nI (show a < 60 by omega) (by omega)), ?_⟩
      rw [vr_loadlen hw ha]
      refine go rfl ⟨_, _, _, rfl, fun c => ?_, fun c => ?_⟩
      · refine go rfl ⟨_, rfl, ?_⟩
        refine go rfl ?_
        refine go rfl ⟨_, _, _, rfl, fun e => ?_, fun e => ?_⟩
        · refine go rfl ?_
          refine go rfl ⟨_, rfl, rfl, rfl, (Or.inl rfl), ?_⟩
          rw [← hF]
          exact hz (fun h => e (by rw [h]))
        · refine go rfl ?_
          refine go rfl ?_
          refine go rfl ⟨_, rfl, rfl, rfl, (Or.inr rfl), ?_⟩
          rw [← hF]
          exact ho ((nI_eq (by omega) (by omega)).mp e)
      · exact absurd (nI_le (by omega) (by omega)) c
    | succ m ih =>
      intro i hi
      have ih := ih (i + 1) (by omega)
      refine go rfl ⟨_, rfl, ?_⟩
      refine go rfl ⟨_, rfl, ?_⟩
      refine go rfl ⟨_, _, _, _, rfl, rfl, rfl, ?_⟩
      refine go rfl ⟨_, rfl, ?_⟩
      refine go rfl ⟨_, _, _, _, _, rfl, rfl, (vp_in_nI (show a < 60 by omega) (by omega)), ?_⟩
      rw [vr_loadlen hw ha]
      refine go rfl ⟨_, _, _, rfl, fun c => ?_, fun c => ?_⟩
      · exact absurd ((nI_leI (by omega) (by omega)).mp c) (by omega)
      refine go rfl ⟨_, rfl, ?_⟩
      refine go rfl ⟨_, rfl, ?_⟩
      refine go rfl ⟨_, rfl, ?_⟩
      refine go rfl ⟨_, rfl, ?_⟩
      refine go rfl ⟨_, _, _, _, _, rfl, rfl, rfl, rfl, rfl, u_at hw ha (show i < N a by omega) rfl rfl ?_⟩
      refine go rfl ⟨_, rfl, ?_⟩
      refine go rfl ⟨_, rfl, ?_⟩
      refine go rfl ⟨_, rfl, ?_⟩
      refine go rfl ⟨_, _, _, _, _, rfl, rfl, rfl, rfl, rfl, u_at hw hb (show i < N b by omega) rfl rfl ?_⟩
      refine go rfl ⟨_, _, _, rfl, fun e => ?_, fun e => ?_⟩
      · rw [dif_y e] at ih
        refine go rfl ?_
        refine go rfl ⟨_, _, _, rfl, ?_⟩
        rw [nI_add]
        refine go rfl ⟨_, _, rfl, ?_⟩
        refine go rfl ⟨_, rfl, ?_⟩
        refine go rfl ?_
        rw [nI_add]
        exact ih
      · rw [dif_n e] at ih
        refine go rfl ?_
        refine go rfl ?_
        refine go rfl ⟨_, _, _, rfl, ?_⟩
        rw [nI_add]
        refine go rfl ⟨_, _, rfl, ?_⟩
        refine go rfl ⟨_, rfl, ?_⟩
        refine go rfl ?_
        rw [nI_add]
        exact ih
  refine go rfl ?_
  refine go rfl ⟨_, _, rfl, ?_⟩
  refine go rfl ?_
  refine go rfl ⟨_, _, rfl, ?_⟩
  exact loop (N a) 0 (by omega)
-- LadderWordsModel.isLessOne(II)Z
def sp_M_isLessOne : mx_Sp := fun As F P => ∃ (th sz mn sp : Int32) (wy : Int64) (kp sd : Int32) (n : Nat) (N : Nat → Nat) (ch : Nat → Nat → Int32) (lt ml : Nat → Int32) (b a : Nat), As = [mx_r 40, mx_i (nI b), mx_i (nI a)] ∧ F 42 = some (mx_ia 360 lt) ∧ F 43 = some (mx_ia 60 ml) ∧ F 40 = some (e_M th sz mn sp wy kp sd) ∧ mst n N ch lt ml ∧ a < n ∧ b < n ∧ N b = N a + 1 ∧ (om (N a) (ch a) (ch b) → P (some (mx_i (nI 1))) F) ∧ (¬ om (N a) (ch a) (ch b) → P (some (mx_i (nI 0))) F)
theorem d_M_isLessOne_0 : decode c_M_isLessOne 0 = .ok (.iconst 0, 1) := by decide +kernel
theorem d_M_isLessOne_1 : decode c_M_isLessOne 1 = .ok (.istore_n 3, 1) := by decide +kernel
theorem d_M_isLessOne_2 : decode c_M_isLessOne 2 = .ok (.iload_n 3, 1) := by decide +kernel
theorem d_M_isLessOne_3 : decode c_M_isLessOne 3 = .ok (.aload_n 0, 1) := by decide +kernel
theorem d_M_isLessOne_4 : decode c_M_isLessOne 4 = .ok (.getfield 16, 3) := by decide +kernel
theorem d_M_isLessOne_7 : decode c_M_isLessOne 7 = .ok (.iload_n 1, 1) := by decide +kernel
theorem d_M_isLessOne_8 : decode c_M_isLessOne 8 = .ok (.iaload, 1) := by decide +kernel
theorem d_M_isLessOne_9 : decode c_M_isLessOne 9 = .ok (.if_icmp .ge 81, 3) := by decide +kernel
theorem d_M_isLessOne_12 : decode c_M_isLessOne 12 = .ok (.iconst 1, 1) := by decide +kernel
theorem d_M_isLessOne_13 : decode c_M_isLessOne 13 = .ok (.istore 4, 2) := by decide +kernel
theorem d_M_isLessOne_15 : decode c_M_isLessOne 15 = .ok (.iconst 0, 1) := by decide +kernel
theorem d_M_isLessOne_16 : decode c_M_isLessOne 16 = .ok (.istore 5, 2) := by decide +kernel
theorem d_M_isLessOne_18 : decode c_M_isLessOne 18 = .ok (.iload 5, 2) := by decide +kernel
theorem d_M_isLessOne_20 : decode c_M_isLessOne 20 = .ok (.aload_n 0, 1) := by decide +kernel
theorem d_M_isLessOne_21 : decode c_M_isLessOne 21 = .ok (.getfield 16, 3) := by decide +kernel
theorem d_M_isLessOne_24 : decode c_M_isLessOne 24 = .ok (.iload_n 2, 1) := by decide +kernel
theorem d_M_isLessOne_25 : decode c_M_isLessOne 25 = .ok (.iaload, 1) := by decide +kernel
theorem d_M_isLessOne_26 : decode c_M_isLessOne 26 = .ok (.if_icmp .ge 51, 3) := by decide +kernel
theorem d_M_isLessOne_29 : decode c_M_isLessOne 29 = .ok (.iload 4, 2) := by decide +kernel
theorem d_M_isLessOne_31 : decode c_M_isLessOne 31 = .ok (.ifCond .eq 37, 3) := by decide +kernel
theorem d_M_isLessOne_34 : decode c_M_isLessOne 34 = .ok (.aload_n 0, 1) := by decide +kernel
theorem d_M_isLessOne_35 : decode c_M_isLessOne 35 = .ok (.iload_n 2, 1) := by decide +kernel
theorem d_M_isLessOne_36 : decode c_M_isLessOne 36 = .ok (.iload 5, 2) := by decide +kernel
theorem d_M_isLessOne_38 : decode c_M_isLessOne 38 = .ok (.invokevirtual 57, 3) := by decide +kernel
theorem d_M_isLessOne_41 : decode c_M_isLessOne 41 = .ok (.aload_n 0, 1) := by decide +kernel
theorem d_M_isLessOne_42 : decode c_M_isLessOne 42 = .ok (.iload_n 1, 1) := by decide +kernel
theorem d_M_isLessOne_43 : decode c_M_isLessOne 43 = .ok (.iload 5, 2) := by decide +kernel
theorem d_M_isLessOne_45 : decode c_M_isLessOne 45 = .ok (.iload_n 3, 1) := by decide +kernel
theorem d_M_isLessOne_46 : decode c_M_isLessOne 46 = .ok (.if_icmp .ge 8, 3) := by decide +kernel
theorem d_M_isLessOne_49 : decode c_M_isLessOne 49 = .ok (.iload 5, 2) := by decide +kernel
theorem d_M_isLessOne_51 : decode c_M_isLessOne 51 = .ok (.goto 7, 3) := by decide +kernel
theorem d_M_isLessOne_54 : decode c_M_isLessOne 54 = .ok (.iload 5, 2) := by decide +kernel
theorem d_M_isLessOne_56 : decode c_M_isLessOne 56 = .ok (.iconst 1, 1) := by decide +kernel
theorem d_M_isLessOne_57 : decode c_M_isLessOne 57 = .ok (.iadd, 1) := by decide +kernel
theorem d_M_isLessOne_58 : decode c_M_isLessOne 58 = .ok (.invokevirtual 57, 3) := by decide +kernel
theorem d_M_isLessOne_61 : decode c_M_isLessOne 61 = .ok (.if_icmp .ne 7, 3) := by decide +kernel
theorem d_M_isLessOne_64 : decode c_M_isLessOne 64 = .ok (.iconst 1, 1) := by decide +kernel
theorem d_M_isLessOne_65 : decode c_M_isLessOne 65 = .ok (.goto 4, 3) := by decide +kernel
theorem d_M_isLessOne_68 : decode c_M_isLessOne 68 = .ok (.iconst 0, 1) := by decide +kernel
theorem d_M_isLessOne_69 : decode c_M_isLessOne 69 = .ok (.istore 4, 2) := by decide +kernel
theorem d_M_isLessOne_71 : decode c_M_isLessOne 71 = .ok (.iinc 5 1, 3) := by decide +kernel
theorem d_M_isLessOne_74 : decode c_M_isLessOne 74 = .ok (.goto (-56), 3) := by decide +kernel
theorem d_M_isLessOne_77 : decode c_M_isLessOne 77 = .ok (.iload 4, 2) := by decide +kernel
theorem d_M_isLessOne_79 : decode c_M_isLessOne 79 = .ok (.ifCond .eq 5, 3) := by decide +kernel
theorem d_M_isLessOne_82 : decode c_M_isLessOne 82 = .ok (.iconst 1, 1) := by decide +kernel
theorem d_M_isLessOne_83 : decode c_M_isLessOne 83 = .ok (.ireturn, 1) := by decide +kernel
theorem d_M_isLessOne_84 : decode c_M_isLessOne 84 = .ok (.iinc 3 1, 3) := by decide +kernel
theorem d_M_isLessOne_87 : decode c_M_isLessOne 87 = .ok (.goto (-85), 3) := by decide +kernel
theorem d_M_isLessOne_90 : decode c_M_isLessOne 90 = .ok (.iconst 0, 1) := by decide +kernel
theorem d_M_isLessOne_91 : decode c_M_isLessOne 91 = .ok (.ireturn, 1) := by decide +kernel
abbrev w_M_isLessOne : List Cond := mx_ws y_M_isLessOne c_M_isLessOne 6 (some .boolean)
abbrev rm_M_isLessOne : Room := { frames := 20, cells := 0, slots := 0, locals := 400 }
def t_M_isLessOne  (P : Option mx_V → mx_F → Prop) : List (Nat × mx_O) := [
  (0, mx_push (.inl (nI 0)) 1),
  (1, mx_istore 3 2),
  (2, mx_iload 3 3),
  (3, mx_aload 0 4),
  (4, mx_get 7 5 7),
  (7, mx_iload 1 8),
  (8, mx_iald 9),
  (9, mx_ic_ge 90 12),
  (12, mx_push (.inl (nI 1)) 13),
  (13, mx_istore 4 15),
  (15, mx_push (.inl (nI 0)) 16),
  (16, mx_istore 5 18),
  (18, mx_iload 5 20),
  (20, mx_aload 0 21),
  (21, mx_get 7 5 24),
  (24, mx_iload 2 25),
  (25, mx_iald 26),
  (26, mx_ic_ge 77 29),
  (29, mx_iload 4 31),
  (31, mx_if_eq 68 34),
  (34, mx_aload 0 35),
  (35, mx_iload 2 36),
  (36, mx_iload 5 38),
  (38, mx_cv2 7 sp_M_at 0 0 41),
  (41, mx_aload 0 42),
  (42, mx_iload 1 43),
  (43, mx_iload 5 45),
  (45, mx_iload 3 46),
  (46, mx_ic_ge 54 49),
  (49, mx_iload 5 51),
  (51, mx_goto 58),
  (54, mx_iload 5 56),
  (56, mx_push (.inl (nI 1)) 57),
  (57, mx_iadd 58),
  (58, mx_cv2 7 sp_M_at 0 0 61),
  (61, mx_ic_ne 68 64),
  (64, mx_push (.inl (nI 1)) 65),
  (65, mx_goto 69),
  (68, mx_push (.inl (nI 0)) 69),
  (69, mx_istore 4 71),
  (71, mx_iinc 5 (nI 1) 74),
  (74, mx_goto 18),
  (77, mx_iload 4 79),
  (79, mx_if_eq 84 82),
  (82, mx_push (.inl (nI 1)) 83),
  (83, mx_zret P),
  (84, mx_iinc 3 (nI 1) 87),
  (87, mx_goto 2),
  (90, mx_push (.inl (nI 0)) 91),
  (91, mx_zret P)]
set_option maxRecDepth 20000 in
theorem a_M_isLessOne  {p : Program} {l : Launch} {e : Env} {s : State} {m : MethodId} {args : Array Value} {below : List Frame} {meth : Method} {c : Code} {D : va_G} {tc : Nat → ClassId} {tb : Nat → Nat} {sz : Nat} {a0 : Nat → Nat} {G : mx_F} {P : Option mx_V → mx_F → Prop}  (C : mx_C p s m args c c_M_isLessOne y_M_isLessOne.cls w_M_isLessOne D tc tb (mx_A a0 G sz) 6 (mx_Ok0 a0 G)) (hr : meth.sig.returnType = (some .boolean)) (hlk : meth.locks = false) : mx_all (mx_W p l e rm_M_isLessOne s m args below meth c (MQ below (mx_Q D tc tb a0 G sz P) args s 0 0 (mx_A a0 G sz)) D tc tb (mx_A a0 G sz) 6 (mx_Ok0 a0 G)) (t_M_isLessOne  P) :=
  ⟨mx_s_iconst C d_M_isLessOne_0 (by decide),
  mx_s_istore_n C d_M_isLessOne_1 rfl (by decide),
  mx_s_iload_n C d_M_isLessOne_2 rfl,
  mx_s_aload_n C d_M_isLessOne_3 rfl,
  mx_s_get (T := T_M) (N := 18) (k := 5) C (fun w h => List.mem_cons_of_mem _ (in_M w h)) rfl (by decide) (List.mem_cons_of_mem _ fk_M_16) rfl d_M_isLessOne_4,
  mx_s_iload_n C d_M_isLessOne_7 rfl,
  mx_s_iald C d_M_isLessOne_8,
  mx_s_ic_ge C d_M_isLessOne_9 (by decide),
  mx_s_iconst C d_M_isLessOne_12 (by decide),
  mx_s_istore C d_M_isLessOne_13 (by decide),
  mx_s_iconst C d_M_isLessOne_15 (by decide),
  mx_s_istore C d_M_isLessOne_16 (by decide),
  mx_s_iload C d_M_isLessOne_18,
  mx_s_aload_n C d_M_isLessOne_20 rfl,
  mx_s_get (T := T_M) (N := 18) (k := 5) C (fun w h => List.mem_cons_of_mem _ (in_M w h)) rfl (by decide) (List.mem_cons_of_mem _ fk_M_16) rfl d_M_isLessOne_21,
  mx_s_iload_n C d_M_isLessOne_24 rfl,
  mx_s_iald C d_M_isLessOne_25,
  mx_s_ic_ge C d_M_isLessOne_26 (by decide),
  mx_s_iload C d_M_isLessOne_29,
  mx_s_if_eq C d_M_isLessOne_31 (by decide),
  mx_s_aload_n C d_M_isLessOne_34 rfl,
  mx_s_iload_n C d_M_isLessOne_35 rfl,
  mx_s_iload C d_M_isLessOne_36,
  mx_s_cv2 C (m_M_at l) rfl (cwV 2 C.2.2.2.2.1 (mx_gV (fun w h => List.mem_cons_of_mem _ h) mk_M_57 im_M_at se_M_at ic_M co_M_at) rfl rfl rfl (by decide +kernel) ⟨by decide, by decide⟩) d_M_isLessOne_38 ⟨Nat.zero_le _, Nat.zero_le _⟩,
  mx_s_aload_n C d_M_isLessOne_41 rfl,
  mx_s_iload_n C d_M_isLessOne_42 rfl,
  mx_s_iload C d_M_isLessOne_43,
  mx_s_iload_n C d_M_isLessOne_45 rfl,
  mx_s_ic_ge C d_M_isLessOne_46 (by decide),
  mx_s_iload C d_M_isLessOne_49,
  mx_s_goto C d_M_isLessOne_51 (by decide),
  mx_s_iload C d_M_isLessOne_54,
  mx_s_iconst C d_M_isLessOne_56 (by decide),
  mx_s_iadd C d_M_isLessOne_57,
  mx_s_cv2 C (m_M_at l) rfl (cwV 2 C.2.2.2.2.1 (mx_gV (fun w h => List.mem_cons_of_mem _ h) mk_M_57 im_M_at se_M_at ic_M co_M_at) rfl rfl rfl (by decide +kernel) ⟨by decide, by decide⟩) d_M_isLessOne_58 ⟨Nat.zero_le _, Nat.zero_le _⟩,
  mx_s_ic_ne C d_M_isLessOne_61 (by decide),
  mx_s_iconst C d_M_isLessOne_64 (by decide),
  mx_s_goto C d_M_isLessOne_65 (by decide),
  mx_s_iconst C d_M_isLessOne_68 (by decide),
  mx_s_istore C d_M_isLessOne_69 (by decide),
  mx_s_iinc C d_M_isLessOne_71 (by decide) (by decide),
  mx_s_goto C d_M_isLessOne_74 (by decide),
  mx_s_iload C d_M_isLessOne_77,
  mx_s_if_eq C d_M_isLessOne_79 (by decide),
  mx_s_iconst C d_M_isLessOne_82 (by decide),
  mx_s_zret C hr hlk d_M_isLessOne_83,
  mx_s_iinc C d_M_isLessOne_84 (by decide) (by decide),
  mx_s_goto C d_M_isLessOne_87 (by decide),
  mx_s_iconst C d_M_isLessOne_90 (by decide),
  mx_s_zret C hr hlk d_M_isLessOne_91,
  trivial⟩
set_option maxRecDepth 20000 in
set_option maxHeartbeats 2000000 in
theorem m_M_isLessOne (l : Launch) : mx_M l y_M_isLessOne w_M_isLessOne rm_M_isLessOne sp_M_isLessOne := by
  intro zD ztc ztb zad As F P sz0 h
  obtain ⟨th, sz, mn, sp, wy, kp, sd, n, N, ch, lt, ml, b, a, rfl, h2, h3, h0, hw, ha, hb, hab, ho, hz⟩ := h
  refine mx_run (cc := c_M_isLessOne) (maxL := 6) (ret := (some .boolean)) (tab := t_M_isLessOne  P) (by decide) rfl zD ztc ztb zad _ F P sz0 (Nat.le_of_ble_eq_true rfl) (fun p e s m args below meth c C hr hlk => a_M_isLessOne  C hr hlk) ?_
  intro Rr go
  have hF := mx_as3 h2 h3 h0
  rw [hF]
  have hn := hw.1.1
  have hN := hw.2.1.2.1 a ha
  have hNb := hw.2.1.2.1 b hb
  have loop : ∀ (m u : Nat) (j4 j5 : Option mx_V), u + m = N b → (∀ v, v < u → ¬ ∀ i, i < N a → ch a i = ch b (if i < v then i else i + 1)) → Rr 2 [some (mx_r 40), some (mx_i (nI b)), some (mx_i (nI a)), some (mx_i (nI u)), j4, j5] [] (mx_put (mx_put (mx_put F 42 (mx_ia 360 lt)) 43 (mx_ia 60 ml)) 40 (e_M th sz mn sp wy kp sd)) 0 0 := by
    intro m
    induction m with
    | zero =>
      intro u j4 j5 hu hno
      refine go rfl ⟨_, rfl, ?_⟩
      refine go rfl ⟨_, rfl, ?_⟩
      refine go rfl ⟨_, _, _, _, rfl, rfl, rfl, ?_⟩
      refine go rfl ⟨_, rfl, ?_⟩
      refine go rfl ⟨_, _, _, _, _, rfl, rfl, (vp_in_nI (show b < 60 by omega) (by omega)), ?_⟩
      rw [vr_loadlen hw hb]
      refine go rfl ⟨_, _, _, rfl, fun c => ?_, fun c => ?_⟩
      · refine go rfl ?_
        refine go rfl ⟨_, rfl, rfl, rfl, (Or.inl rfl), ?_⟩
        rw [← hF]
        refine hz ?_
        rintro ⟨v, hv, h⟩
        exact hno v (by omega) h
      · exact absurd (nI_le (by omega) (by omega)) c
    | succ m ih =>
      intro u j4 j5 hu hno
      have next : (¬ ∀ i, i < N a → ch a i = ch b (if i < u then i else i + 1)) → ∀ j4 j5 : Option mx_V, Rr 84 [some (mx_r 40), some (mx_i (nI b)), some (mx_i (nI a)), some (mx_i (nI u)), j4, j5] [] (mx_put (mx_put (mx_put F 42 (mx_ia 360 lt)) 43 (mx_ia 60 ml)) 40 (e_M th sz mn sp wy kp sd)) 0 0 := by
        intro hn2 j4 j5
        refine go rfl ⟨_, rfl, ?_⟩
        refine go rfl ?_
        rw [nI_add]
        refine ih (u + 1) _ _ (by omega) (fun v hv => ?_)
        rcases Nat.lt_or_ge v u with w | w
        · exact hno v w
        · rw [show v = u by omega]
          exact hn2
      have dead : (¬ ∀ i, i < N a → ch a i = ch b (if i < u then i else i + 1)) → ∀ (k i : Nat), i + k = N a → Rr 18 [some (mx_r 40), some (mx_i (nI b)), some (mx_i (nI a)), some (mx_i (nI u)), some (mx_i (nI 0)), some (mx_i (nI i))] [] (mx_put (mx_put (mx_put F 42 (mx_ia 360 lt)) 43 (mx_ia 60 ml)) 40 (e_M th sz mn sp wy kp sd)) 0 0 := by
        intro hn2 k
        induction k with
        | zero =>
          intro i hi
          refine go rfl ⟨_, rfl, ?_⟩
          refine go rfl ⟨_, rfl, ?_⟩
          refine go rfl ⟨_, _, _, _, rfl, rfl, rfl, ?_⟩
          refine go rfl ⟨_, rfl, ?_⟩
          refine go rfl ⟨_, _, _, _, _, rfl, rfl, (vp_in_nI (show a < 60 by omega) (by omega)), ?_⟩
          rw [vr_loadlen hw ha]
          refine go rfl ⟨_, _, _, rfl, fun c => ?_, fun c => ?_⟩
          · refine go rfl ⟨_, rfl, ?_⟩
            refine go rfl ⟨_, _, rfl, fun e => ?_, fun e => ?_⟩
            · exact next hn2 _ _
            · exact absurd rfl e
          · exact absurd (nI_le (by omega) (by omega)) c
        | succ k ih2 =>
          intro i hi
          refine go rfl ⟨_, rfl, ?_⟩
          refine go rfl ⟨_, rfl, ?_⟩
          refine go rfl ⟨_, _, _, _, rfl, rfl, rfl, ?_⟩
          refine go rfl ⟨_, rfl, ?_⟩
          refine go rfl ⟨_, _, _, _, _, rfl, rfl, (vp_in_nI (show a < 60 by omega) (by omega)), ?_⟩
          rw [vr_loadlen hw ha]
          refine go rfl ⟨_, _, _, rfl, fun c => ?_, fun c => ?_⟩
          · exact absurd ((nI_leI (by omega) (by omega)).mp c) (by omega)
          refine go rfl ⟨_, rfl, ?_⟩
          refine go rfl ⟨_, _, rfl, fun e => ?_, fun e => ?_⟩
          · refine go rfl ?_
            refine go rfl ⟨_, _, rfl, ?_⟩
            refine go rfl ⟨_, rfl, ?_⟩
            refine go rfl ?_
            rw [nI_add]
            exact ih2 (i + 1) (by omega)
          · exact absurd rfl e
      have live : ∀ (k i : Nat), i + k = N a → (∀ q, q < i → ch a q = ch b (if q < u then q else q + 1)) → Rr 18 [some (mx_r 40), some (mx_i (nI b)), some (mx_i (nI a)), some (mx_i (nI u)), some (mx_i (nI 1)), some (mx_i (nI i))] [] (mx_put (mx_put (mx_put F 42 (mx_ia 360 lt)) 43 (mx_ia 60 ml)) 40 (e_M th sz mn sp wy kp sd)) 0 0 := by
        intro k
        induction k with
        | zero =>
          intro i hi hq
          refine go rfl ⟨_, rfl, ?_⟩
          refine go rfl ⟨_, rfl, ?_⟩
          refine go rfl ⟨_, _, _, _, rfl, rfl, rfl, ?_⟩
          refine go rfl ⟨_, rfl, ?_⟩
          refine go rfl ⟨_, _, _, _, _, rfl, rfl, (vp_in_nI (show a < 60 by omega) (by omega)), ?_⟩
          rw [vr_loadlen hw ha]
          refine go rfl ⟨_, _, _, rfl, fun c => ?_, fun c => ?_⟩
          · refine go rfl ⟨_, rfl, ?_⟩
            refine go rfl ⟨_, _, rfl, fun e => ?_, fun e => ?_⟩
            · exact absurd e (by decide)
            refine go rfl ?_
            refine go rfl ⟨_, rfl, rfl, rfl, (Or.inr rfl), ?_⟩
            rw [← hF]
            exact ho ⟨u, by omega, fun q hq2 => hq q (by omega)⟩
          · exact absurd (nI_le (by omega) (by omega)) c
        | succ k ih2 =>
          intro i hi hq
          refine go rfl ⟨_, rfl, ?_⟩
          refine go rfl ⟨_, rfl, ?_⟩
          refine go rfl ⟨_, _, _, _, rfl, rfl, rfl, ?_⟩
          refine go rfl ⟨_, rfl, ?_⟩
          refine go rfl ⟨_, _, _, _, _, rfl, rfl, (vp_in_nI (show a < 60 by omega) (by omega)), ?_⟩
          rw [vr_loadlen hw ha]
          refine go rfl ⟨_, _, _, rfl, fun c => ?_, fun c => ?_⟩
          · exact absurd ((nI_leI (by omega) (by omega)).mp c) (by omega)
          refine go rfl ⟨_, rfl, ?_⟩
          refine go rfl ⟨_, _, rfl, fun e => ?_, fun e => ?_⟩
          · exact absurd e (by decide)
          refine go rfl ⟨_, rfl, ?_⟩
          refine go rfl ⟨_, rfl, ?_⟩
          refine go rfl ⟨_, rfl, ?_⟩
          refine go rfl ⟨_, _, _, _, _, rfl, rfl, rfl, rfl, rfl, u_at hw ha (show i < N a by omega) rfl rfl ?_⟩
          refine go rfl ⟨_, rfl, ?_⟩
          refine go rfl ⟨_, rfl, ?_⟩
          refine go rfl ⟨_, rfl, ?_⟩
          refine go rfl ⟨_, rfl, ?_⟩
          have fin : ∀ x : Nat, x < N b → x = (if i < u then i else i + 1) → Rr 58 [some (mx_r 40), some (mx_i (nI b)), some (mx_i (nI a)), some (mx_i (nI u)), some (mx_i (nI 1)), some (mx_i (nI i))] [mx_i (nI x), mx_i (nI b), mx_r 40, mx_i (ch a i)] (mx_put (mx_put (mx_put F 42 (mx_ia 360 lt)) 43 (mx_ia 60 ml)) 40 (e_M th sz mn sp wy kp sd)) 0 0 := by
            intro x hx ex
            refine go rfl ⟨_, _, _, _, _, rfl, rfl, rfl, rfl, rfl, u_at hw hb hx rfl rfl ?_⟩
            refine go rfl ⟨_, _, _, rfl, fun e2 => ?_, fun e2 => ?_⟩
            · refine go rfl ?_
              refine go rfl ⟨_, _, rfl, ?_⟩
              refine go rfl ⟨_, rfl, ?_⟩
              refine go rfl ?_
              rw [nI_add]
              exact dead (fun h => e2 (by rw [ex]; exact h i (by omega))) k (i + 1) (by omega)
            · refine go rfl ?_
              refine go rfl ?_
              refine go rfl ⟨_, _, rfl, ?_⟩
              refine go rfl ⟨_, rfl, ?_⟩
              refine go rfl ?_
              rw [nI_add]
              refine ih2 (i + 1) (by omega) (fun q hq2 => ?_)
              rcases Nat.lt_or_ge q i with w | w
              · exact hq q w
              · rw [show q = i by omega, ← ex]
                exact e2
          refine go rfl ⟨_, _, _, rfl, fun e1 => ?_, fun e1 => ?_⟩
          · have e1 := (nI_leI (by omega) (by omega)).mp e1
            refine go rfl ⟨_, rfl, ?_⟩
            refine go rfl ?_
            refine go rfl ⟨_, _, _, rfl, ?_⟩
            rw [nI_add]
            exact fin (i + 1) (by omega) (by rw [if_neg (by omega)])
          · have e1 : i < u := by
              rcases Nat.lt_or_ge i u with q | q
              · exact q
              · exact absurd (nI_le q (by omega)) e1
            refine go rfl ⟨_, rfl, ?_⟩
            refine go rfl ?_
            exact fin i (by omega) (by rw [if_pos e1])
      refine go rfl ⟨_, rfl, ?_⟩
      refine go rfl ⟨_, rfl, ?_⟩
      refine go rfl ⟨_, _, _, _, rfl, rfl, rfl, ?_⟩
      refine go rfl ⟨_, rfl, ?_⟩
      refine go rfl ⟨_, _, _, _, _, rfl, rfl, (vp_in_nI (show b < 60 by omega) (by omega)), ?_⟩
      rw [vr_loadlen hw hb]
      refine go rfl ⟨_, _, _, rfl, fun c => ?_, fun c => ?_⟩
      · exact absurd ((nI_leI (by omega) (by omega)).mp c) (by omega)
      refine go rfl ?_
      refine go rfl ⟨_, _, rfl, ?_⟩
      refine go rfl ?_
      refine go rfl ⟨_, _, rfl, ?_⟩
      exact live (N a) 0 (by omega) (fun q hq => absurd hq (Nat.not_lt_zero q))
  refine go rfl ?_
  refine go rfl ⟨_, _, rfl, ?_⟩
  exact loop (N b) 0 none none (by omega) (fun v hv => absurd hv (Nat.not_lt_zero v))
-- LadderWordsModel.isStep(III)Z
def sp_M_isStep : mx_Sp := fun As F P => ∃ (th sz mn sp : Int32) (wy : Int64) (kp sd : Int32) (n : Nat) (N : Nat → Nat) (ch : Nat → Nat → Int32) (lt ml : Nat → Int32) (a b kd : Nat), As = [mx_r 40, mx_i (nI a), mx_i (nI b), mx_i (nI kd)] ∧ F 42 = some (mx_ia 360 lt) ∧ F 43 = some (mx_ia 60 ml) ∧ F 40 = some (e_M th sz mn sp wy kp sd) ∧ mst n N ch lt ml ∧ a < n ∧ b < n ∧ kd ≤ 1 ∧ (stepP N ch kd a b → P (some (mx_i (nI 1))) F) ∧ (¬ stepP N ch kd a b → P (some (mx_i (nI 0))) F)
theorem d_M_isStep_0 : decode c_M_isStep 0 = .ok (.aload_n 0, 1) := by decide +kernel
theorem d_M_isStep_1 : decode c_M_isStep 1 = .ok (.getfield 16, 3) := by decide +kernel
theorem d_M_isStep_4 : decode c_M_isStep 4 = .ok (.iload_n 1, 1) := by decide +kernel
theorem d_M_isStep_5 : decode c_M_isStep 5 = .ok (.iaload, 1) := by decide +kernel
theorem d_M_isStep_6 : decode c_M_isStep 6 = .ok (.aload_n 0, 1) := by decide +kernel
theorem d_M_isStep_7 : decode c_M_isStep 7 = .ok (.getfield 16, 3) := by decide +kernel
theorem d_M_isStep_10 : decode c_M_isStep 10 = .ok (.iload_n 2, 1) := by decide +kernel
theorem d_M_isStep_11 : decode c_M_isStep 11 = .ok (.iaload, 1) := by decide +kernel
theorem d_M_isStep_12 : decode c_M_isStep 12 = .ok (.if_icmp .ne 10, 3) := by decide +kernel
theorem d_M_isStep_15 : decode c_M_isStep 15 = .ok (.aload_n 0, 1) := by decide +kernel
theorem d_M_isStep_16 : decode c_M_isStep 16 = .ok (.iload_n 1, 1) := by decide +kernel
theorem d_M_isStep_17 : decode c_M_isStep 17 = .ok (.iload_n 2, 1) := by decide +kernel
theorem d_M_isStep_18 : decode c_M_isStep 18 = .ok (.invokevirtual 78, 3) := by decide +kernel
theorem d_M_isStep_21 : decode c_M_isStep 21 = .ok (.ireturn, 1) := by decide +kernel
theorem d_M_isStep_22 : decode c_M_isStep 22 = .ok (.iload_n 3, 1) := by decide +kernel
theorem d_M_isStep_23 : decode c_M_isStep 23 = .ok (.ifCond .ne 5, 3) := by decide +kernel
theorem d_M_isStep_26 : decode c_M_isStep 26 = .ok (.iconst 0, 1) := by decide +kernel
theorem d_M_isStep_27 : decode c_M_isStep 27 = .ok (.ireturn, 1) := by decide +kernel
theorem d_M_isStep_28 : decode c_M_isStep 28 = .ok (.aload_n 0, 1) := by decide +kernel
theorem d_M_isStep_29 : decode c_M_isStep 29 = .ok (.getfield 16, 3) := by decide +kernel
theorem d_M_isStep_32 : decode c_M_isStep 32 = .ok (.iload_n 1, 1) := by decide +kernel
theorem d_M_isStep_33 : decode c_M_isStep 33 = .ok (.iaload, 1) := by decide +kernel
theorem d_M_isStep_34 : decode c_M_isStep 34 = .ok (.aload_n 0, 1) := by decide +kernel
theorem d_M_isStep_35 : decode c_M_isStep 35 = .ok (.getfield 16, 3) := by decide +kernel
theorem d_M_isStep_38 : decode c_M_isStep 38 = .ok (.iload_n 2, 1) := by decide +kernel
theorem d_M_isStep_39 : decode c_M_isStep 39 = .ok (.iaload, 1) := by decide +kernel
theorem d_M_isStep_40 : decode c_M_isStep 40 = .ok (.iconst 1, 1) := by decide +kernel
theorem d_M_isStep_41 : decode c_M_isStep 41 = .ok (.iadd, 1) := by decide +kernel
theorem d_M_isStep_42 : decode c_M_isStep 42 = .ok (.if_icmp .ne 10, 3) := by decide +kernel
theorem d_M_isStep_45 : decode c_M_isStep 45 = .ok (.aload_n 0, 1) := by decide +kernel
theorem d_M_isStep_46 : decode c_M_isStep 46 = .ok (.iload_n 1, 1) := by decide +kernel
theorem d_M_isStep_47 : decode c_M_isStep 47 = .ok (.iload_n 2, 1) := by decide +kernel
theorem d_M_isStep_48 : decode c_M_isStep 48 = .ok (.invokevirtual 82, 3) := by decide +kernel
theorem d_M_isStep_51 : decode c_M_isStep 51 = .ok (.ireturn, 1) := by decide +kernel
theorem d_M_isStep_52 : decode c_M_isStep 52 = .ok (.aload_n 0, 1) := by decide +kernel
theorem d_M_isStep_53 : decode c_M_isStep 53 = .ok (.getfield 16, 3) := by decide +kernel
theorem d_M_isStep_56 : decode c_M_isStep 56 = .ok (.iload_n 2, 1) := by decide +kernel
theorem d_M_isStep_57 : decode c_M_isStep 57 = .ok (.iaload, 1) := by decide +kernel
theorem d_M_isStep_58 : decode c_M_isStep 58 = .ok (.aload_n 0, 1) := by decide +kernel
theorem d_M_isStep_59 : decode c_M_isStep 59 = .ok (.getfield 16, 3) := by decide +kernel
theorem d_M_isStep_62 : decode c_M_isStep 62 = .ok (.iload_n 1, 1) := by decide +kernel
theorem d_M_isStep_63 : decode c_M_isStep 63 = .ok (.iaload, 1) := by decide +kernel
theorem d_M_isStep_64 : decode c_M_isStep 64 = .ok (.iconst 1, 1) := by decide +kernel
theorem d_M_isStep_65 : decode c_M_isStep 65 = .ok (.iadd, 1) := by decide +kernel
theorem d_M_isStep_66 : decode c_M_isStep 66 = .ok (.if_icmp .ne 16, 3) := by decide +kernel
theorem d_M_isStep_69 : decode c_M_isStep 69 = .ok (.aload_n 0, 1) := by decide +kernel
theorem d_M_isStep_70 : decode c_M_isStep 70 = .ok (.iload_n 2, 1) := by decide +kernel
theorem d_M_isStep_71 : decode c_M_isStep 71 = .ok (.iload_n 1, 1) := by decide +kernel
theorem d_M_isStep_72 : decode c_M_isStep 72 = .ok (.invokevirtual 82, 3) := by decide +kernel
theorem d_M_isStep_75 : decode c_M_isStep 75 = .ok (.ifCond .eq 7, 3) := by decide +kernel
theorem d_M_isStep_78 : decode c_M_isStep 78 = .ok (.iconst 1, 1) := by decide +kernel
theorem d_M_isStep_79 : decode c_M_isStep 79 = .ok (.goto 4, 3) := by decide +kernel
theorem d_M_isStep_82 : decode c_M_isStep 82 = .ok (.iconst 0, 1) := by decide +kernel
theorem d_M_isStep_83 : decode c_M_isStep 83 = .ok (.ireturn, 1) := by decide +kernel
abbrev w_M_isStep : List Cond := mx_ws y_M_isStep c_M_isStep 4 (some .boolean)
abbrev rm_M_isStep : Room := { frames := 30, cells := 0, slots := 0, locals := 600 }
def t_M_isStep  (P : Option mx_V → mx_F → Prop) : List (Nat × mx_O) := [
  (0, mx_aload 0 1),
  (1, mx_get 7 5 4),
  (4, mx_iload 1 5),
  (5, mx_iald 6),
  (6, mx_aload 0 7),
  (7, mx_get 7 5 10),
  (10, mx_iload 2 11),
  (11, mx_iald 12),
  (12, mx_ic_ne 22 15),
  (15, mx_aload 0 16),
  (16, mx_iload 1 17),
  (17, mx_iload 2 18),
  (18, mx_cv2 7 sp_M_differsOnce 0 0 21),
  (21, mx_zret P),
  (22, mx_iload 3 23),
  (23, mx_if_ne 28 26),
  (26, mx_push (.inl (nI 0)) 27),
  (27, mx_zret P),
  (28, mx_aload 0 29),
  (29, mx_get 7 5 32),
  (32, mx_iload 1 33),
  (33, mx_iald 34),
  (34, mx_aload 0 35),
  (35, mx_get 7 5 38),
  (38, mx_iload 2 39),
  (39, mx_iald 40),
  (40, mx_push (.inl (nI 1)) 41),
  (41, mx_iadd 42),
  (42, mx_ic_ne 52 45),
  (45, mx_aload 0 46),
  (46, mx_iload 1 47),
  (47, mx_iload 2 48),
  (48, mx_cv2 7 sp_M_isLessOne 0 0 51),
  (51, mx_zret P),
  (52, mx_aload 0 53),
  (53, mx_get 7 5 56),
  (56, mx_iload 2 57),
  (57, mx_iald 58),
  (58, mx_aload 0 59),
  (59, mx_get 7 5 62),
  (62, mx_iload 1 63),
  (63, mx_iald 64),
  (64, mx_push (.inl (nI 1)) 65),
  (65, mx_iadd 66),
  (66, mx_ic_ne 82 69),
  (69, mx_aload 0 70),
  (70, mx_iload 2 71),
  (71, mx_iload 1 72),
  (72, mx_cv2 7 sp_M_isLessOne 0 0 75),
  (75, mx_if_eq 82 78),
  (78, mx_push (.inl (nI 1)) 79),
  (79, mx_goto 83),
  (82, mx_push (.inl (nI 0)) 83),
  (83, mx_zret P)]
set_option maxRecDepth 20000 in
theorem a_M_isStep  {p : Program} {l : Launch} {e : Env} {s : State} {m : MethodId} {args : Array Value} {below : List Frame} {meth : Method} {c : Code} {D : va_G} {tc : Nat → ClassId} {tb : Nat → Nat} {sz : Nat} {a0 : Nat → Nat} {G : mx_F} {P : Option mx_V → mx_F → Prop}  (C : mx_C p s m args c c_M_isStep y_M_isStep.cls w_M_isStep D tc tb (mx_A a0 G sz) 4 (mx_Ok0 a0 G)) (hr : meth.sig.returnType = (some .boolean)) (hlk : meth.locks = false) : mx_all (mx_W p l e rm_M_isStep s m args below meth c (MQ below (mx_Q D tc tb a0 G sz P) args s 0 0 (mx_A a0 G sz)) D tc tb (mx_A a0 G sz) 4 (mx_Ok0 a0 G)) (t_M_isStep  P) :=
  ⟨mx_s_aload_n C d_M_isStep_0 rfl,
  mx_s_get (T := T_M) (N := 18) (k := 5) C (fun w h => List.mem_cons_of_mem _ (in_M w h)) rfl (by decide) (List.mem_cons_of_mem _ fk_M_16) rfl d_M_isStep_1,
  mx_s_iload_n C d_M_isStep_4 rfl,
  mx_s_iald C d_M_isStep_5,
  mx_s_aload_n C d_M_isStep_6 rfl,
  mx_s_get (T := T_M) (N := 18) (k := 5) C (fun w h => List.mem_cons_of_mem _ (in_M w h)) rfl (by decide) (List.mem_cons_of_mem _ fk_M_16) rfl d_M_isStep_7,
  mx_s_iload_n C d_M_isStep_10 rfl,
  mx_s_iald C d_M_isStep_11,
  mx_s_ic_ne C d_M_isStep_12 (by decide),
  mx_s_aload_n C d_M_isStep_15 rfl,
  mx_s_iload_n C d_M_isStep_16 rfl,
  mx_s_iload_n C d_M_isStep_17 rfl,
  mx_s_cv2 C (m_M_differsOnce l) rfl (cwV 2 C.2.2.2.2.1 (mx_gV (fun w h => List.mem_cons_of_mem _ h) mk_M_78 im_M_differsOnce se_M_differsOnce ic_M co_M_differsOnce) rfl rfl rfl (by decide +kernel) ⟨by decide, by decide⟩) d_M_isStep_18 ⟨Nat.zero_le _, Nat.zero_le _⟩,
  mx_s_zret C hr hlk d_M_isStep_21,
  mx_s_iload_n C d_M_isStep_22 rfl,
  mx_s_if_ne C d_M_isStep_23 (by decide),
  mx_s_iconst C d_M_isStep_26 (by decide),
  mx_s_zret C hr hlk d_M_isStep_27,
  mx_s_aload_n C d_M_isStep_28 rfl,
  mx_s_get (T := T_M) (N := 18) (k := 5) C (fun w h => List.mem_cons_of_mem _ (in_M w h)) rfl (by decide) (List.mem_cons_of_mem _ fk_M_16) rfl d_M_isStep_29,
  mx_s_iload_n C d_M_isStep_32 rfl,
  mx_s_iald C d_M_isStep_33,
  mx_s_aload_n C d_M_isStep_34 rfl,
  mx_s_get (T := T_M) (N := 18) (k := 5) C (fun w h => List.mem_cons_of_mem _ (in_M w h)) rfl (by decide) (List.mem_cons_of_mem _ fk_M_16) rfl d_M_isStep_35,
  mx_s_iload_n C d_M_isStep_38 rfl,
  mx_s_iald C d_M_isStep_39,
  mx_s_iconst C d_M_isStep_40 (by decide),
  mx_s_iadd C d_M_isStep_41,
  mx_s_ic_ne C d_M_isStep_42 (by decide),
  mx_s_aload_n C d_M_isStep_45 rfl,
  mx_s_iload_n C d_M_isStep_46 rfl,
  mx_s_iload_n C d_M_isStep_47 rfl,
  mx_s_cv2 C (m_M_isLessOne l) rfl (cwV 2 C.2.2.2.2.1 (mx_gV (fun w h => List.mem_cons_of_mem _ h) mk_M_82 im_M_isLessOne se_M_isLessOne ic_M co_M_isLessOne) rfl rfl rfl (by decide +kernel) ⟨by decide, by decide⟩) d_M_isStep_48 ⟨Nat.zero_le _, Nat.zero_le _⟩,
  mx_s_zret C hr hlk d_M_isStep_51,
  mx_s_aload_n C d_M_isStep_52 rfl,
  mx_s_get (T := T_M) (N := 18) (k := 5) C (fun w h => List.mem_cons_of_mem _ (in_M w h)) rfl (by decide) (List.mem_cons_of_mem _ fk_M_16) rfl d_M_isStep_53,
  mx_s_iload_n C d_M_isStep_56 rfl,
  mx_s_iald C d_M_isStep_57,
  mx_s_aload_n C d_M_isStep_58 rfl,
  mx_s_get (T := T_M) (N := 18) (k := 5) C (fun w h => List.mem_cons_of_mem _ (in_M w h)) rfl (by decide) (List.mem_cons_of_mem _ fk_M_16) rfl d_M_isStep_59,
  mx_s_iload_n C d_M_isStep_62 rfl,
  mx_s_iald C d_M_isStep_63,
  mx_s_iconst C d_M_isStep_64 (by decide),
  mx_s_iadd C d_M_isStep_65,
  mx_s_ic_ne C d_M_isStep_66 (by decide),
  mx_s_aload_n C d_M_isStep_69 rfl,
  mx_s_iload_n C d_M_isStep_70 rfl,
  mx_s_iload_n C d_M_isStep_71 rfl,
  mx_s_cv2 C (m_M_isLessOne l) rfl (cwV 2 C.2.2.2.2.1 (mx_gV (fun w h => List.mem_cons_of_mem _ h) mk_M_82 im_M_isLessOne se_M_isLessOne ic_M co_M_isLessOne) rfl rfl rfl (by decide +kernel) ⟨by decide, by decide⟩) d_M_isStep_72 ⟨Nat.zero_le _, Nat.zero_le _⟩,
  mx_s_if_eq C d_M_isStep_75 (by decide),
  mx_s_iconst C d_M_isStep_78 (by decide),
  mx_s_goto C d_M_isStep_79 (by decide),
  mx_s_iconst C d_M_isStep_82 (by decide),
  mx_s_zret C hr hlk d_M_isStep_83,
  trivial⟩
set_option maxRecDepth 20000 in
set_option maxHeartbeats 2000000 in
theorem m_M_isStep (l : Launch) : mx_M l y_M_isStep w_M_isStep rm_M_isStep sp_M_isStep := by
  intro zD ztc ztb zad As F P sz0 h
  obtain ⟨th, sz, mn, sp, wy, kp, sd, n, N, ch, lt, ml, a, b, kd, rfl, h2, h3, h0, hw, ha, hb, hk, ho, hz⟩ := h
  refine mx_run (cc := c_M_isStep) (maxL := 4) (ret := (some .boolean)) (tab := t_M_isStep  P) (by decide) rfl zD ztc ztb zad _ F P sz0 (Nat.le_of_ble_eq_true rfl) (fun p e s m args below meth c C hr hlk => a_M_isStep  C hr hlk) ?_
  intro Rr go
  have hF := mx_as3 h2 h3 h0
  rw [hF]
  have hn := hw.1.1
  have hA := hw.2.1.2.1 a ha
  have hB := hw.2.1.2.1 b hb
  refine go rfl ⟨_, rfl, ?_⟩
  refine go rfl ⟨_, _, _, _, rfl, rfl, rfl, ?_⟩
  refine go rfl ⟨_, rfl, ?_⟩
  refine go rfl ⟨_, _, _, _, _, rfl, rfl, (vp_in_nI (show a < 60 by omega) (by omega)), ?_⟩
  refine go rfl ⟨_, rfl, ?_⟩
  refine go rfl ⟨_, _, _, _, rfl, rfl, rfl, ?_⟩
  refine go rfl ⟨_, rfl, ?_⟩
  refine go rfl ⟨_, _, _, _, _, rfl, rfl, (vp_in_nI (show b < 60 by omega) (by omega)), ?_⟩
  rw [vr_loadlen hw ha, vr_loadlen hw hb]
  refine go rfl ⟨_, _, _, rfl, fun c1 => ?_, fun c1 => ?_⟩
  rotate_left
  · have c1 := (nI_eq (by omega) (by omega)).mp c1
    refine go rfl ⟨_, rfl, ?_⟩
    refine go rfl ⟨_, rfl, ?_⟩
    refine go rfl ⟨_, rfl, ?_⟩
    refine go rfl ⟨_, _, _, _, _, rfl, rfl, rfl, rfl, rfl, ⟨th, sz, mn, sp, wy, kp, sd, n, N, ch, lt, ml, a, b, rfl, rfl, rfl, rfl, hw, ha, hb, c1, fun h => ?_, fun h => ?_⟩⟩
    · refine go rfl ⟨_, rfl, rfl, rfl, (Or.inr rfl), ?_⟩
      rw [← hF]
      exact ho (Or.inl ⟨c1, h⟩)
    · refine go rfl ⟨_, rfl, rfl, rfl, (Or.inl rfl), ?_⟩
      rw [← hF]
      refine hz ?_
      rintro (⟨h1, h2⟩ | ⟨h1, h2, h3⟩ | ⟨h1, h2, h3⟩)
      · exact h h2
      · omega
      · omega
  have c1 : ¬ N a = N b := fun h => c1 (by rw [h])
  refine go rfl ⟨_, rfl, ?_⟩
  refine go rfl ⟨_, _, rfl, fun c2 => ?_, fun c2 => ?_⟩
  rotate_left
  · have c2 : kd = 0 := (nI_eq (b := 0) (by omega) (by omega)).mp c2
    refine go rfl ?_
    refine go rfl ⟨_, rfl, rfl, rfl, (Or.inl rfl), ?_⟩
    rw [← hF]
    refine hz ?_
    rintro (⟨h1, h2⟩ | ⟨h1, h2, h3⟩ | ⟨h1, h2, h3⟩)
    · exact c1 h1
    · omega
    · omega
  have c2 : kd = 1 := by
    rcases Nat.eq_zero_or_pos kd with q | q
    · rw [q] at c2
      exact absurd rfl c2
    · omega
  refine go rfl ⟨_, rfl, ?_⟩
  refine go rfl ⟨_, _, _, _, rfl, rfl, rfl, ?_⟩
  refine go rfl ⟨_, rfl, ?_⟩
  refine go rfl ⟨_, _, _, _, _, rfl, rfl, (vp_in_nI (show a < 60 by omega) (by omega)), ?_⟩
  refine go rfl ⟨_, rfl, ?_⟩
  refine go rfl ⟨_, _, _, _, rfl, rfl, rfl, ?_⟩
  refine go rfl ⟨_, rfl, ?_⟩
  refine go rfl ⟨_, _, _, _, _, rfl, rfl, (vp_in_nI (show b < 60 by omega) (by omega)), ?_⟩
  rw [vr_loadlen hw ha, vr_loadlen hw hb]
  refine go rfl ?_
  refine go rfl ⟨_, _, _, rfl, ?_⟩
  rw [nI_add]
  refine go rfl ⟨_, _, _, rfl, fun c3 => ?_, fun c3 => ?_⟩
  rotate_left
  · have c3 := (nI_eq (by omega) (by omega)).mp c3
    refine go rfl ⟨_, rfl, ?_⟩
    refine go rfl ⟨_, rfl, ?_⟩
    refine go rfl ⟨_, rfl, ?_⟩
    refine go rfl ⟨_, _, _, _, _, rfl, rfl, rfl, rfl, rfl, ⟨th, sz, mn, sp, wy, kp, sd, n, N, ch, lt, ml, a, b, rfl, rfl, rfl, rfl, hw, hb, ha, c3, fun h => ?_, fun h => ?_⟩⟩
    · refine go rfl ⟨_, rfl, rfl, rfl, (Or.inr rfl), ?_⟩
      rw [← hF]
      exact ho (Or.inr (Or.inr ⟨c2, c3, h⟩))
    · refine go rfl ⟨_, rfl, rfl, rfl, (Or.inl rfl), ?_⟩
      rw [← hF]
      refine hz ?_
      rintro (⟨h1, h2⟩ | ⟨h1, h2, h3⟩ | ⟨h1, h2, h3⟩)
      · exact c1 h1
      · omega
      · exact h h3
  have c3 : ¬ N a = N b + 1 := fun h => c3 (by rw [h])
  refine go rfl ⟨_, rfl, ?_⟩
  refine go rfl ⟨_, _, _, _, rfl, rfl, rfl, ?_⟩
  refine go rfl ⟨_, rfl, ?_⟩
  refine go rfl ⟨_, _, _, _, _, rfl, rfl, (vp_in_nI (show b < 60 by omega) (by omega)), ?_⟩
  refine go rfl ⟨_, rfl, ?_⟩
  refine go rfl ⟨_, _, _, _, rfl, rfl, rfl, ?_⟩
  refine go rfl ⟨_, rfl, ?_⟩
  refine go rfl ⟨_, _, _, _, _, rfl, rfl, (vp_in_nI (show a < 60 by omega) (by omega)), ?_⟩
  rw [vr_loadlen hw ha, vr_loadlen hw hb]
  refine go rfl ?_
  refine go rfl ⟨_, _, _, rfl, ?_⟩
  rw [nI_add]
  have no : ¬ stepP N ch kd a b → Rr 82 [some (mx_r 40), some (mx_i (nI a)), some (mx_i (nI b)), some (mx_i (nI kd))] [] (mx_put (mx_put (mx_put F 42 (mx_ia 360 lt)) 43 (mx_ia 60 ml)) 40 (e_M th sz mn sp wy kp sd)) 0 0 := by
    intro h
    refine go rfl ?_
    refine go rfl ⟨_, rfl, rfl, rfl, (Or.inl rfl), ?_⟩
    rw [← hF]
    exact hz h
  refine go rfl ⟨_, _, _, rfl, fun c4 => ?_, fun c4 => ?_⟩
  · have c4 : ¬ N b = N a + 1 := fun h => c4 (by rw [h])
    refine no ?_
    rintro (⟨h1, h2⟩ | ⟨h1, h2, h3⟩ | ⟨h1, h2, h3⟩)
    · exact c1 h1
    · exact c4 h2
    · exact c3 h2
  have c4 := (nI_eq (by omega) (by omega)).mp c4
  refine go rfl ⟨_, rfl, ?_⟩
  refine go rfl ⟨_, rfl, ?_⟩
  refine go rfl ⟨_, rfl, ?_⟩
  refine go rfl ⟨_, _, _, _, _, rfl, rfl, rfl, rfl, rfl, ⟨th, sz, mn, sp, wy, kp, sd, n, N, ch, lt, ml, b, a, rfl, rfl, rfl, rfl, hw, ha, hb, c4, fun h => ?_, fun h => ?_⟩⟩
  · refine go rfl ⟨_, _, rfl, fun e => ?_, fun e => ?_⟩
    · exact absurd e (by decide)
    refine go rfl ?_
    refine go rfl ?_
    refine go rfl ⟨_, rfl, rfl, rfl, (Or.inr rfl), ?_⟩
    rw [← hF]
    exact ho (Or.inr (Or.inl ⟨c2, c4, h⟩))
  · refine go rfl ⟨_, _, rfl, fun e => ?_, fun e => ?_⟩
    · refine no ?_
      rintro (⟨h1, h2⟩ | ⟨h1, h2, h3⟩ | ⟨h1, h2, h3⟩)
      · exact c1 h1
      · exact h h3
      · exact c3 h2
    · exact absurd rfl e
