/-- the words: n of them, the k-th one's letters from S k on -/
def wok (n : Nat) (S : Nat → Nat) (st : Nat → Int32) : Prop := n ≤ 60 ∧ S 0 = 0 ∧ (∀ k, k < n → S k + 1 ≤ S (k + 1) ∧ S (k + 1) ≤ S k + 6) ∧ ∀ k, k ≤ n → st k = nI (S k)
theorem wok_le {n : Nat} {S : Nat → Nat} {st : Nat → Int32} (h : wok n S st) : ∀ k, k ≤ n → S k ≤ 6 * k := by
  intro k
  induction k with
  | zero => intro _; rw [h.2.1]; exact Nat.zero_le _
  | succ k ih =>
    intro hk
    have h1 := ih (by omega)
    have h2 := (h.2.2.1 k (by omega)).2
    omega
theorem wok_lt {n : Nat} {S : Nat → Nat} {st : Nat → Int32} (h : wok n S st) {k : Nat} (hk : k ≤ n) : S k ≤ 360 := by
  have h1 := wok_le h k hk
  have h2 := h.1
  omega
-- LadderWords$Words.count()I
def sp_W_count : mx_Sp := fun As F P => ∃ n : Nat, As = [mx_r 3] ∧ F 3 = some (e_W n) ∧ P (some (mx_i (nI n))) F
theorem d_W_count_0 : decode c_W_count 0 = .ok (.aload_n 0, 1) := by decide +kernel
theorem d_W_count_1 : decode c_W_count 1 = .ok (.getfield 18, 3) := by decide +kernel
theorem d_W_count_4 : decode c_W_count 4 = .ok (.ireturn, 1) := by decide +kernel
abbrev w_W_count : List Cond := mx_ws y_W_count c_W_count 1 (some .int)
abbrev rm_W_count : Room := { frames := 10, cells := 0, slots := 0, locals := 200 }
def t_W_count  (P : Option mx_V → mx_F → Prop) : List (Nat × mx_O) := [
  (0, mx_aload 0 1),
  (1, mx_get 5 2 4),
  (4, mx_iret P)]
set_option maxRecDepth 20000 in
theorem a_W_count  {p : Program} {l : Launch} {e : Env} {s : State} {m : MethodId} {args : Array Value} {below : List Frame} {meth : Method} {c : Code} {D : va_G} {tc : Nat → ClassId} {tb : Nat → Nat} {sz : Nat} {a0 : Nat → Nat} {G : mx_F} {P : Option mx_V → mx_F → Prop}  (C : mx_C p s m args c c_W_count y_W_count.cls w_W_count D tc tb (mx_A a0 G sz) 1 (mx_Ok0 a0 G)) (hr : meth.sig.returnType = (some .int)) (hlk : meth.locks = false) : mx_all (mx_W p l e rm_W_count s m args below meth c (MQ below (mx_Q D tc tb a0 G sz P) args s 0 0 (mx_A a0 G sz)) D tc tb (mx_A a0 G sz) 1 (mx_Ok0 a0 G)) (t_W_count  P) :=
  ⟨mx_s_aload_n C d_W_count_0 rfl,
  mx_s_get (T := T_W) (N := 3) (k := 2) C (fun w h => List.mem_cons_of_mem _ (in_W w h)) rfl (by decide) (List.mem_cons_of_mem _ fk_W_18) rfl d_W_count_1,
  mx_s_iret C hr hlk d_W_count_4,
  trivial⟩
set_option maxRecDepth 20000 in
set_option maxHeartbeats 2000000 in
theorem m_W_count (l : Launch) : mx_M l y_W_count w_W_count rm_W_count sp_W_count := by
  intro zD ztc ztb zad As F P sz0 h
  obtain ⟨n, rfl, h1, hp⟩ := h
  refine mx_run (cc := c_W_count) (maxL := 1) (ret := (some .int)) (tab := t_W_count  P) (by decide) rfl zD ztc ztb zad _ F P sz0 (Nat.le_of_ble_eq_true rfl) (fun p e s m args below meth c C hr hlk => a_W_count  C hr hlk) ?_
  intro Rr go
  have hF := mx_as1 h1
  rw [hF]
  refine go rfl ⟨_, rfl, ?_⟩
  refine go rfl ⟨_, _, _, _, rfl, rfl, rfl, ?_⟩
  refine go rfl ⟨_, rfl, rfl, rfl, ?_⟩
  rw [← hF]
  exact hp
-- LadderWords$Words.has(I)Z
def sp_W_has : mx_Sp := fun As F P => ∃ (n : Nat) (w : Int32), As = [mx_r 3, mx_i w] ∧ F 3 = some (e_W n) ∧ ((w < 0 ∨ nI n ≤ w) → P (some (mx_i (nI 0))) F) ∧ (¬ (w < 0 ∨ nI n ≤ w) → P (some (mx_i (nI 1))) F)
theorem d_W_has_0 : decode c_W_has 0 = .ok (.iload_n 1, 1) := by decide +kernel
theorem d_W_has_1 : decode c_W_has 1 = .ok (.ifCond .lt 15, 3) := by decide +kernel
theorem d_W_has_4 : decode c_W_has 4 = .ok (.iload_n 1, 1) := by decide +kernel
theorem d_W_has_5 : decode c_W_has 5 = .ok (.aload_n 0, 1) := by decide +kernel
theorem d_W_has_6 : decode c_W_has 6 = .ok (.getfield 18, 3) := by decide +kernel
theorem d_W_has_9 : decode c_W_has 9 = .ok (.if_icmp .ge 7, 3) := by decide +kernel
theorem d_W_has_12 : decode c_W_has 12 = .ok (.iconst 1, 1) := by decide +kernel
theorem d_W_has_13 : decode c_W_has 13 = .ok (.goto 4, 3) := by decide +kernel
theorem d_W_has_16 : decode c_W_has 16 = .ok (.iconst 0, 1) := by decide +kernel
theorem d_W_has_17 : decode c_W_has 17 = .ok (.ireturn, 1) := by decide +kernel
abbrev w_W_has : List Cond := mx_ws y_W_has c_W_has 2 (some .boolean)
abbrev rm_W_has : Room := { frames := 10, cells := 0, slots := 0, locals := 200 }
def t_W_has  (P : Option mx_V → mx_F → Prop) : List (Nat × mx_O) := [
  (0, mx_iload 1 1),
  (1, mx_if_lt 16 4),
  (4, mx_iload 1 5),
  (5, mx_aload 0 6),
  (6, mx_get 5 2 9),
  (9, mx_ic_ge 16 12),
  (12, mx_push (.inl (nI 1)) 13),
  (13, mx_goto 17),
  (16, mx_push (.inl (nI 0)) 17),
  (17, mx_zret P)]
set_option maxRecDepth 20000 in
theorem a_W_has  {p : Program} {l : Launch} {e : Env} {s : State} {m : MethodId} {args : Array Value} {below : List Frame} {meth : Method} {c : Code} {D : va_G} {tc : Nat → ClassId} {tb : Nat → Nat} {sz : Nat} {a0 : Nat → Nat} {G : mx_F} {P : Option mx_V → mx_F → Prop}  (C : mx_C p s m args c c_W_has y_W_has.cls w_W_has D tc tb (mx_A a0 G sz) 2 (mx_Ok0 a0 G)) (hr : meth.sig.returnType = (some .boolean)) (hlk : meth.locks = false) : mx_all (mx_W p l e rm_W_has s m args below meth c (MQ below (mx_Q D tc tb a0 G sz P) args s 0 0 (mx_A a0 G sz)) D tc tb (mx_A a0 G sz) 2 (mx_Ok0 a0 G)) (t_W_has  P) :=
  ⟨mx_s_iload_n C d_W_has_0 rfl,
  mx_s_if_lt C d_W_has_1 (by decide),
  mx_s_iload_n C d_W_has_4 rfl,
  mx_s_aload_n C d_W_has_5 rfl,
  mx_s_get (T := T_W) (N := 3) (k := 2) C (fun w h => List.mem_cons_of_mem _ (in_W w h)) rfl (by decide) (List.mem_cons_of_mem _ fk_W_18) rfl d_W_has_6,
  mx_s_ic_ge C d_W_has_9 (by decide),
  mx_s_iconst C d_W_has_12 (by decide),
  mx_s_goto C d_W_has_13 (by decide),
  mx_s_iconst C d_W_has_16 (by decide),
  mx_s_zret C hr hlk d_W_has_17,
  trivial⟩
set_option maxRecDepth 20000 in
set_option maxHeartbeats 2000000 in
theorem m_W_has (l : Launch) : mx_M l y_W_has w_W_has rm_W_has sp_W_has := by
  intro zD ztc ztb zad As F P sz0 h
  obtain ⟨n, w, rfl, h1, hz, ho⟩ := h
  refine mx_run (cc := c_W_has) (maxL := 2) (ret := (some .boolean)) (tab := t_W_has  P) (by decide) rfl zD ztc ztb zad _ F P sz0 (Nat.le_of_ble_eq_true rfl) (fun p e s m args below meth c C hr hlk => a_W_has  C hr hlk) ?_
  intro Rr go
  have hF := mx_as1 h1
  rw [hF]
  refine go rfl ⟨_, rfl, ?_⟩
  refine go rfl ⟨_, _, rfl, fun c1 => ?_, fun c1 => ?_⟩
  · refine go rfl ?_
    refine go rfl ⟨_, rfl, rfl, rfl, (Or.inl rfl), ?_⟩
    rw [← hF]
    exact hz (Or.inl c1)
  refine go rfl ⟨_, rfl, ?_⟩
  refine go rfl ⟨_, rfl, ?_⟩
  refine go rfl ⟨_, _, _, _, rfl, rfl, rfl, ?_⟩
  refine go rfl ⟨_, _, _, rfl, fun c2 => ?_, fun c2 => ?_⟩
  · refine go rfl ?_
    refine go rfl ⟨_, rfl, rfl, rfl, (Or.inl rfl), ?_⟩
    rw [← hF]
    exact hz (Or.inr c2)
  refine go rfl ?_
  refine go rfl ?_
  refine go rfl ⟨_, rfl, rfl, rfl, (Or.inr rfl), ?_⟩
  rw [← hF]
  exact ho (fun h => h.elim c1 c2)
-- LadderWords$Words.lengthOf(I)I
def sp_W_lengthOf : mx_Sp := fun As F P => ∃ (n : Nat) (S : Nat → Nat) (st : Nat → Int32) (w : Int32), As = [mx_r 3, mx_i w] ∧ F 3 = some (e_W n) ∧ F 5 = some (mx_ia 61 st) ∧ wok n S st ∧ (∀ j, j < n → w = nI j → P (some (mx_i (nI (S (j + 1) - S j)))) F) ∧ ((w < 0 ∨ nI n ≤ w) → P (some (mx_i (nI 0))) F)
theorem d_W_lengthOf_0 : decode c_W_lengthOf 0 = .ok (.iload_n 1, 1) := by decide +kernel
theorem d_W_lengthOf_1 : decode c_W_lengthOf 1 = .ok (.ifCond .lt 29, 3) := by decide +kernel
theorem d_W_lengthOf_4 : decode c_W_lengthOf 4 = .ok (.iload_n 1, 1) := by decide +kernel
theorem d_W_lengthOf_5 : decode c_W_lengthOf 5 = .ok (.aload_n 0, 1) := by decide +kernel
theorem d_W_lengthOf_6 : decode c_W_lengthOf 6 = .ok (.getfield 18, 3) := by decide +kernel
theorem d_W_lengthOf_9 : decode c_W_lengthOf 9 = .ok (.if_icmp .ge 21, 3) := by decide +kernel
theorem d_W_lengthOf_12 : decode c_W_lengthOf 12 = .ok (.aload_n 0, 1) := by decide +kernel
theorem d_W_lengthOf_13 : decode c_W_lengthOf 13 = .ok (.getfield 15, 3) := by decide +kernel
theorem d_W_lengthOf_16 : decode c_W_lengthOf 16 = .ok (.iload_n 1, 1) := by decide +kernel
theorem d_W_lengthOf_17 : decode c_W_lengthOf 17 = .ok (.iconst 1, 1) := by decide +kernel
theorem d_W_lengthOf_18 : decode c_W_lengthOf 18 = .ok (.iadd, 1) := by decide +kernel
theorem d_W_lengthOf_19 : decode c_W_lengthOf 19 = .ok (.iaload, 1) := by decide +kernel
theorem d_W_lengthOf_20 : decode c_W_lengthOf 20 = .ok (.aload_n 0, 1) := by decide +kernel
theorem d_W_lengthOf_21 : decode c_W_lengthOf 21 = .ok (.getfield 15, 3) := by decide +kernel
theorem d_W_lengthOf_24 : decode c_W_lengthOf 24 = .ok (.iload_n 1, 1) := by decide +kernel
theorem d_W_lengthOf_25 : decode c_W_lengthOf 25 = .ok (.iaload, 1) := by decide +kernel
theorem d_W_lengthOf_26 : decode c_W_lengthOf 26 = .ok (.isub, 1) := by decide +kernel
theorem d_W_lengthOf_27 : decode c_W_lengthOf 27 = .ok (.goto 4, 3) := by decide +kernel
theorem d_W_lengthOf_30 : decode c_W_lengthOf 30 = .ok (.iconst 0, 1) := by decide +kernel
theorem d_W_lengthOf_31 : decode c_W_lengthOf 31 = .ok (.ireturn, 1) := by decide +kernel
abbrev w_W_lengthOf : List Cond := mx_ws y_W_lengthOf c_W_lengthOf 2 (some .int)
abbrev rm_W_lengthOf : Room := { frames := 10, cells := 0, slots := 0, locals := 200 }
def t_W_lengthOf  (P : Option mx_V → mx_F → Prop) : List (Nat × mx_O) := [
  (0, mx_iload 1 1),
  (1, mx_if_lt 30 4),
  (4, mx_iload 1 5),
  (5, mx_aload 0 6),
  (6, mx_get 5 2 9),
  (9, mx_ic_ge 30 12),
  (12, mx_aload 0 13),
  (13, mx_get 5 1 16),
  (16, mx_iload 1 17),
  (17, mx_push (.inl (nI 1)) 18),
  (18, mx_iadd 19),
  (19, mx_iald 20),
  (20, mx_aload 0 21),
  (21, mx_get 5 1 24),
  (24, mx_iload 1 25),
  (25, mx_iald 26),
  (26, mx_isub 27),
  (27, mx_goto 31),
  (30, mx_push (.inl (nI 0)) 31),
  (31, mx_iret P)]
set_option maxRecDepth 20000 in
theorem a_W_lengthOf  {p : Program} {l : Launch} {e : Env} {s : State} {m : MethodId} {args : Array Value} {below : List Frame} {meth : Method} {c : Code} {D : va_G} {tc : Nat → ClassId} {tb : Nat → Nat} {sz : Nat} {a0 : Nat → Nat} {G : mx_F} {P : Option mx_V → mx_F → Prop}  (C : mx_C p s m args c c_W_lengthOf y_W_lengthOf.cls w_W_lengthOf D tc tb (mx_A a0 G sz) 2 (mx_Ok0 a0 G)) (hr : meth.sig.returnType = (some .int)) (hlk : meth.locks = false) : mx_all (mx_W p l e rm_W_lengthOf s m args below meth c (MQ below (mx_Q D tc tb a0 G sz P) args s 0 0 (mx_A a0 G sz)) D tc tb (mx_A a0 G sz) 2 (mx_Ok0 a0 G)) (t_W_lengthOf  P) :=
  ⟨mx_s_iload_n C d_W_lengthOf_0 rfl,
  mx_s_if_lt C d_W_lengthOf_1 (by decide),
  mx_s_iload_n C d_W_lengthOf_4 rfl,
  mx_s_aload_n C d_W_lengthOf_5 rfl,
  mx_s_get (T := T_W) (N := 3) (k := 2) C (fun w h => List.mem_cons_of_mem _ (in_W w h)) rfl (by decide) (List.mem_cons_of_mem _ fk_W_18) rfl d_W_lengthOf_6,
  mx_s_ic_ge C d_W_lengthOf_9 (by decide),
  mx_s_aload_n C d_W_lengthOf_12 rfl,
  mx_s_get (T := T_W) (N := 3) (k := 1) C (fun w h => List.mem_cons_of_mem _ (in_W w h)) rfl (by decide) (List.mem_cons_of_mem _ fk_W_15) rfl d_W_lengthOf_13,
  mx_s_iload_n C d_W_lengthOf_16 rfl,
  mx_s_iconst C d_W_lengthOf_17 (by decide),
  mx_s_iadd C d_W_lengthOf_18,
  mx_s_iald C d_W_lengthOf_19,
  mx_s_aload_n C d_W_lengthOf_20 rfl,
  mx_s_get (T := T_W) (N := 3) (k := 1) C (fun w h => List.mem_cons_of_mem _ (in_W w h)) rfl (by decide) (List.mem_cons_of_mem _ fk_W_15) rfl d_W_lengthOf_21,
  mx_s_iload_n C d_W_lengthOf_24 rfl,
  mx_s_iald C d_W_lengthOf_25,
  mx_s_isub C d_W_lengthOf_26,
  mx_s_goto C d_W_lengthOf_27 (by decide),
  mx_s_iconst C d_W_lengthOf_30 (by decide),
  mx_s_iret C hr hlk d_W_lengthOf_31,
  trivial⟩
set_option maxRecDepth 20000 in
set_option maxHeartbeats 2000000 in
theorem m_W_lengthOf (l : Launch) : mx_M l y_W_lengthOf w_W_lengthOf rm_W_lengthOf sp_W_lengthOf := by
  intro zD ztc ztb zad As F P sz0 h
  obtain ⟨n, S, st, w, rfl, h1, h2, hw, ho, hz⟩ := h
  refine mx_run (cc := c_W_lengthOf) (maxL := 2) (ret := (some .int)) (tab := t_W_lengthOf  P) (by decide) rfl zD ztc ztb zad _ F P sz0 (Nat.le_of_ble_eq_true rfl) (fun p e s m args below meth c C hr hlk => a_W_lengthOf  C hr hlk) ?_
  intro Rr go
  have hF := mx_as2 h1 h2
  rw [hF]
  have hn := hw.1
  refine go rfl ⟨_, rfl, ?_⟩
  refine go rfl ⟨_, _, rfl, fun c1 => ?_, fun c1 => ?_⟩
  · refine go rfl ?_
    refine go rfl ⟨_, rfl, rfl, rfl, ?_⟩
    rw [← hF]
    exact hz (Or.inl c1)
  refine go rfl ⟨_, rfl, ?_⟩
  refine go rfl ⟨_, rfl, ?_⟩
  refine go rfl ⟨_, _, _, _, rfl, rfl, rfl, ?_⟩
  refine go rfl ⟨_, _, _, rfl, fun c2 => ?_, fun c2 => ?_⟩
  · refine go rfl ?_
    refine go rfl ⟨_, rfl, rfl, rfl, ?_⟩
    rw [← hF]
    exact hz (Or.inr c2)
  rcases pk_ix w (n := n) (by omega) with q | q | ⟨j, hj, rfl⟩
  · exact absurd q c1
  · exact absurd q c2
  refine go rfl ⟨_, rfl, ?_⟩
  refine go rfl ⟨_, _, _, _, rfl, rfl, rfl, ?_⟩
  refine go rfl ⟨_, rfl, ?_⟩
  refine go rfl ?_
  refine go rfl ⟨_, _, _, rfl, ?_⟩
  rw [nI_add]
  refine go rfl ⟨_, _, _, _, _, rfl, rfl, (vp_in_nI (show j + 1 < 61 by omega) (by omega)), ?_⟩
  refine go rfl ⟨_, rfl, ?_⟩
  refine go rfl ⟨_, _, _, _, rfl, rfl, rfl, ?_⟩
  refine go rfl ⟨_, rfl, ?_⟩
  refine go rfl ⟨_, _, _, _, _, rfl, rfl, (vp_in_nI (by omega) (by omega)), ?_⟩
  rw [nI_clamp (by omega), nI_clamp (by omega), hw.2.2.2 (j + 1) (by omega), hw.2.2.2 j (by omega)]
  refine go rfl ⟨_, _, _, rfl, ?_⟩
  rw [pk_sub (by have := (hw.2.2.1 j hj).1; omega)]
  refine go rfl ?_
  refine go rfl ⟨_, rfl, rfl, rfl, ?_⟩
  rw [← hF]
  exact ho j hj rfl
-- LadderWords$Words.letterOf(II)I
def sp_W_letterOf : mx_Sp := fun As F P => ∃ (n : Nat) (S : Nat → Nat) (st lt : Nat → Int32) (w i : Int32), As = [mx_r 3, mx_i w, mx_i i] ∧ F 3 = some (e_W n) ∧ F 4 = some (mx_ia 360 lt) ∧ F 5 = some (mx_ia 61 st) ∧ wok n S st ∧ (∀ j k, j < n → k < S (j + 1) - S j → w = nI j → i = nI k → P (some (mx_i (lt (S j + k)))) F) ∧ ((¬ ∃ j k, j < n ∧ k < S (j + 1) - S j ∧ w = nI j ∧ i = nI k) → P (some (mx_i (-1))) F)
theorem d_W_letterOf_0 : decode c_W_letterOf 0 = .ok (.iload_n 1, 1) := by decide +kernel
theorem d_W_letterOf_1 : decode c_W_letterOf 1 = .ok (.ifCond .lt 34, 3) := by decide +kernel
theorem d_W_letterOf_4 : decode c_W_letterOf 4 = .ok (.iload_n 1, 1) := by decide +kernel
theorem d_W_letterOf_5 : decode c_W_letterOf 5 = .ok (.aload_n 0, 1) := by decide +kernel
theorem d_W_letterOf_6 : decode c_W_letterOf 6 = .ok (.getfield 18, 3) := by decide +kernel
theorem d_W_letterOf_9 : decode c_W_letterOf 9 = .ok (.if_icmp .ge 26, 3) := by decide +kernel
theorem d_W_letterOf_12 : decode c_W_letterOf 12 = .ok (.iload_n 2, 1) := by decide +kernel
theorem d_W_letterOf_13 : decode c_W_letterOf 13 = .ok (.ifCond .lt 22, 3) := by decide +kernel
theorem d_W_letterOf_16 : decode c_W_letterOf 16 = .ok (.iload_n 2, 1) := by decide +kernel
theorem d_W_letterOf_17 : decode c_W_letterOf 17 = .ok (.aload_n 0, 1) := by decide +kernel
theorem d_W_letterOf_18 : decode c_W_letterOf 18 = .ok (.getfield 15, 3) := by decide +kernel
theorem d_W_letterOf_21 : decode c_W_letterOf 21 = .ok (.iload_n 1, 1) := by decide +kernel
theorem d_W_letterOf_22 : decode c_W_letterOf 22 = .ok (.iconst 1, 1) := by decide +kernel
theorem d_W_letterOf_23 : decode c_W_letterOf 23 = .ok (.iadd, 1) := by decide +kernel
theorem d_W_letterOf_24 : decode c_W_letterOf 24 = .ok (.iaload, 1) := by decide +kernel
theorem d_W_letterOf_25 : decode c_W_letterOf 25 = .ok (.aload_n 0, 1) := by decide +kernel
theorem d_W_letterOf_26 : decode c_W_letterOf 26 = .ok (.getfield 15, 3) := by decide +kernel
theorem d_W_letterOf_29 : decode c_W_letterOf 29 = .ok (.iload_n 1, 1) := by decide +kernel
theorem d_W_letterOf_30 : decode c_W_letterOf 30 = .ok (.iaload, 1) := by decide +kernel
theorem d_W_letterOf_31 : decode c_W_letterOf 31 = .ok (.isub, 1) := by decide +kernel
theorem d_W_letterOf_32 : decode c_W_letterOf 32 = .ok (.if_icmp .lt 5, 3) := by decide +kernel
theorem d_W_letterOf_35 : decode c_W_letterOf 35 = .ok (.iconst (-1), 1) := by decide +kernel
theorem d_W_letterOf_36 : decode c_W_letterOf 36 = .ok (.ireturn, 1) := by decide +kernel
theorem d_W_letterOf_37 : decode c_W_letterOf 37 = .ok (.aload_n 0, 1) := by decide +kernel
theorem d_W_letterOf_38 : decode c_W_letterOf 38 = .ok (.getfield 9, 3) := by decide +kernel
theorem d_W_letterOf_41 : decode c_W_letterOf 41 = .ok (.aload_n 0, 1) := by decide +kernel
theorem d_W_letterOf_42 : decode c_W_letterOf 42 = .ok (.getfield 15, 3) := by decide +kernel
theorem d_W_letterOf_45 : decode c_W_letterOf 45 = .ok (.iload_n 1, 1) := by decide +kernel
theorem d_W_letterOf_46 : decode c_W_letterOf 46 = .ok (.iaload, 1) := by decide +kernel
theorem d_W_letterOf_47 : decode c_W_letterOf 47 = .ok (.iload_n 2, 1) := by decide +kernel
theorem d_W_letterOf_48 : decode c_W_letterOf 48 = .ok (.iadd, 1) := by decide +kernel
theorem d_W_letterOf_49 : decode c_W_letterOf 49 = .ok (.iaload, 1) := by decide +kernel
theorem d_W_letterOf_50 : decode c_W_letterOf 50 = .ok (.ireturn, 1) := by decide +kernel
abbrev w_W_letterOf : List Cond := mx_ws y_W_letterOf c_W_letterOf 3 (some .int)
abbrev rm_W_letterOf : Room := { frames := 10, cells := 0, slots := 0, locals := 200 }
def t_W_letterOf  (P : Option mx_V → mx_F → Prop) : List (Nat × mx_O) := [
  (0, mx_iload 1 1),
  (1, mx_if_lt 35 4),
  (4, mx_iload 1 5),
  (5, mx_aload 0 6),
  (6, mx_get 5 2 9),
  (9, mx_ic_ge 35 12),
  (12, mx_iload 2 13),
  (13, mx_if_lt 35 16),
  (16, mx_iload 2 17),
  (17, mx_aload 0 18),
  (18, mx_get 5 1 21),
  (21, mx_iload 1 22),
  (22, mx_push (.inl (nI 1)) 23),
  (23, mx_iadd 24),
  (24, mx_iald 25),
  (25, mx_aload 0 26),
  (26, mx_get 5 1 29),
  (29, mx_iload 1 30),
  (30, mx_iald 31),
  (31, mx_isub 32),
  (32, mx_ic_lt 37 35),
  (35, mx_push (.inl (-1)) 36),
  (36, mx_iret P),
  (37, mx_aload 0 38),
  (38, mx_get 5 0 41),
  (41, mx_aload 0 42),
  (42, mx_get 5 1 45),
  (45, mx_iload 1 46),
  (46, mx_iald 47),
  (47, mx_iload 2 48),
  (48, mx_iadd 49),
  (49, mx_iald 50),
  (50, mx_iret P)]
set_option maxRecDepth 20000 in
theorem a_W_letterOf  {p : Program} {l : Launch} {e : Env} {s : State} {m : MethodId} {args : Array Value} {below : List Frame} {meth : Method} {c : Code} {D : va_G} {tc : Nat → ClassId} {tb : Nat → Nat} {sz : Nat} {a0 : Nat → Nat} {G : mx_F} {P : Option mx_V → mx_F → Prop}  (C : mx_C p s m args c c_W_letterOf y_W_letterOf.cls w_W_letterOf D tc tb (mx_A a0 G sz) 3 (mx_Ok0 a0 G)) (hr : meth.sig.returnType = (some .int)) (hlk : meth.locks = false) : mx_all (mx_W p l e rm_W_letterOf s m args below meth c (MQ below (mx_Q D tc tb a0 G sz P) args s 0 0 (mx_A a0 G sz)) D tc tb (mx_A a0 G sz) 3 (mx_Ok0 a0 G)) (t_W_letterOf  P) :=
  ⟨mx_s_iload_n C d_W_letterOf_0 rfl,
  mx_s_if_lt C d_W_letterOf_1 (by decide),
  mx_s_iload_n C d_W_letterOf_4 rfl,
  mx_s_aload_n C d_W_letterOf_5 rfl,
  mx_s_get (T := T_W) (N := 3) (k := 2) C (fun w h => List.mem_cons_of_mem _ (in_W w h)) rfl (by decide) (List.mem_cons_of_mem _ fk_W_18) rfl d_W_letterOf_6,
  mx_s_ic_ge C d_W_letterOf_9 (by decide),
  mx_s_iload_n C d_W_letterOf_12 rfl,
  mx_s_if_lt C d_W_letterOf_13 (by decide),
  mx_s_iload_n C d_W_letterOf_16 rfl,
  mx_s_aload_n C d_W_letterOf_17 rfl,
  mx_s_get (T := T_W) (N := 3) (k := 1) C (fun w h => List.mem_cons_of_mem _ (in_W w h)) rfl (by decide) (List.mem_cons_of_mem _ fk_W_15) rfl d_W_letterOf_18,
  mx_s_iload_n C d_W_letterOf_21 rfl,
  mx_s_iconst C d_W_letterOf_22 (by decide),
  mx_s_iadd C d_W_letterOf_23,
  mx_s_iald C d_W_letterOf_24,
  mx_s_aload_n C d_W_letterOf_25 rfl,
  mx_s_get (T := T_W) (N := 3) (k := 1) C (fun w h => List.mem_cons_of_mem _ (in_W w h)) rfl (by decide) (List.mem_cons_of_mem _ fk_W_15) rfl d_W_letterOf_26,
  mx_s_iload_n C d_W_letterOf_29 rfl,
  mx_s_iald C d_W_letterOf_30,
  mx_s_isub C d_W_letterOf_31,
  mx_s_ic_lt C d_W_letterOf_32 (by decide),
  mx_s_iconst C d_W_letterOf_35 (by decide),
  mx_s_iret C hr hlk d_W_letterOf_36,
  mx_s_aload_n C d_W_letterOf_37 rfl,
  mx_s_get (T := T_W) (N := 3) (k := 0) C (fun w h => List.mem_cons_of_mem _ (in_W w h)) rfl (by decide) (List.mem_cons_of_mem _ fk_W_9) rfl d_W_letterOf_38,
  mx_s_aload_n C d_W_letterOf_41 rfl,
  mx_s_get (T := T_W) (N := 3) (k := 1) C (fun w h => List.mem_cons_of_mem _ (in_W w h)) rfl (by decide) (List.mem_cons_of_mem _ fk_W_15) rfl d_W_letterOf_42,
  mx_s_iload_n C d_W_letterOf_45 rfl,
  mx_s_iald C d_W_letterOf_46,
  mx_s_iload_n C d_W_letterOf_47 rfl,
  mx_s_iadd C d_W_letterOf_48,
  mx_s_iald C d_W_letterOf_49,
  mx_s_iret C hr hlk d_W_letterOf_50,
  trivial⟩
set_option maxRecDepth 20000 in
set_option maxHeartbeats 2000000 in
theorem m_W_letterOf (l : Launch) : mx_M l y_W_letterOf w_W_letterOf rm_W_letterOf sp_W_letterOf := by
  intro zD ztc ztb zad As F P sz0 h
  obtain ⟨n, S, st, lt, w, i, rfl, h1, h4, h2, hw, ho, hz⟩ := h
  refine mx_run (cc := c_W_letterOf) (maxL := 3) (ret := (some .int)) (tab := t_W_letterOf  P) (by decide) rfl zD ztc ztb zad _ F P sz0 (Nat.le_of_ble_eq_true rfl) (fun p e s m args below meth c C hr hlk => a_W_letterOf  C hr hlk) ?_
  intro Rr go
  have hF := mx_as3 h1 h4 h2
  rw [hF]
  have hn := hw.1
  have z : (¬ ∃ j k, j < n ∧ k < S (j + 1) - S j ∧ w = nI j ∧ i = nI k) → Rr 35 (mx_en [mx_r 3, mx_i w, mx_i i] 3) [] (mx_put (mx_put (mx_put F 3 (e_W n)) 4 (mx_ia 360 lt)) 5 (mx_ia 61 st)) 0 0 := by
    intro hc
    refine go rfl ?_
    refine go rfl ⟨_, rfl, rfl, rfl, ?_⟩
    rw [← hF]
    exact hz hc
  refine go rfl ⟨_, rfl, ?_⟩
  refine go rfl ⟨_, _, rfl, fun c1 => ?_, fun c1 => ?_⟩
  · refine z ?_
    rintro ⟨j, k, hj, hk, rfl, rfl⟩
    exact nI_pos (by omega) c1
  refine go rfl ⟨_, rfl, ?_⟩
  refine go rfl ⟨_, rfl, ?_⟩
  refine go rfl ⟨_, _, _, _, rfl, rfl, rfl, ?_⟩
  refine go rfl ⟨_, _, _, rfl, fun c2 => ?_, fun c2 => ?_⟩
  · refine z ?_
    rintro ⟨j, k, hj, hk, rfl, rfl⟩
    exact absurd ((nI_leI (by omega) (by omega)).mp c2) (by omega)
  rcases pk_ix w (n := n) (by omega) with q | q | ⟨j, hj, rfl⟩
  · exact absurd q c1
  · exact absurd q c2
  have hS1 := wok_lt hw (show j + 1 ≤ n by omega)
  have hS2 := (hw.2.2.1 j hj).1
  refine go rfl ⟨_, rfl, ?_⟩
  refine go rfl ⟨_, _, rfl, fun c3 => ?_, fun c3 => ?_⟩
  · refine z ?_
    rintro ⟨j2, k, hj2, hk, e1, rfl⟩
    have ej := (nI_eq (by omega) (by omega)).mp e1
    subst ej
    exact nI_pos (by omega) c3
  refine go rfl ⟨_, rfl, ?_⟩
  refine go rfl ⟨_, rfl, ?_⟩
  refine go rfl ⟨_, _, _, _, rfl, rfl, rfl, ?_⟩
  refine go rfl ⟨_, rfl, ?_⟩
  refine go rfl ?_
  refine go rfl ⟨_, _, _, rfl, ?_⟩
  rw [nI_add]
  refine go rfl ⟨_, _, _, _, _, rfl, rfl, (vp_in_nI (show j + 1 < 61 by omega) (by omega)), ?_⟩
  refine go rfl ⟨_, rfl, ?_⟩
  refine go rfl ⟨_, _, _, _, rfl, rfl, rfl, ?_⟩
  refine go rfl ⟨_, rfl, ?_⟩
  refine go rfl ⟨_, _, _, _, _, rfl, rfl, (vp_in_nI (by omega) (by omega)), ?_⟩
  rw [nI_clamp (by omega), nI_clamp (by omega), hw.2.2.2 (j + 1) (by omega), hw.2.2.2 j (by omega)]
  refine go rfl ⟨_, _, _, rfl, ?_⟩
  rw [pk_sub (by omega)]
  refine go rfl ⟨_, _, _, rfl, fun c4 => ?_, fun c4 => ?_⟩
  · obtain ⟨k, hk, rfl⟩ := nI_of c3
    have hlt : k < S (j + 1) - S j := (nI_ltI hk (by omega)).mp c4
    refine go rfl ⟨_, rfl, ?_⟩
    refine go rfl ⟨_, _, _, _, rfl, rfl, rfl, ?_⟩
    refine go rfl ⟨_, rfl, ?_⟩
    refine go rfl ⟨_, _, _, _, rfl, rfl, rfl, ?_⟩
    refine go rfl ⟨_, rfl, ?_⟩
    refine go rfl ⟨_, _, _, _, _, rfl, rfl, (vp_in_nI (by omega) (by omega)), ?_⟩
    rw [nI_clamp (by omega), hw.2.2.2 j (by omega)]
    refine go rfl ⟨_, rfl, ?_⟩
    refine go rfl ⟨_, _, _, rfl, ?_⟩
    rw [nI_add]
    refine go rfl ⟨_, _, _, _, _, rfl, rfl, (vp_in_nI (by omega) (by omega)), ?_⟩
    rw [nI_clamp (by omega)]
    refine go rfl ⟨_, rfl, rfl, rfl, ?_⟩
    rw [← hF]
    exact ho j k hj hlt rfl rfl
  · refine z ?_
    rintro ⟨j2, k, hj2, hk, e1, rfl⟩
    have ej := (nI_eq (by omega) (by omega)).mp e1
    subst ej
    exact c4 (nI_lt hk (by omega))
