theorem qrw_15 {F : mx_F} {e : mx_E} (h : qrw F) : qrw (mx_put F 15 e) := by
  refine ⟨fun k hk => ?_, fun k hk => ?_, ?_⟩
  · rw [mx_put_ne (by omega)]
    exact h.1 k hk
  · rw [mx_put_ne (by omega)]
    exact h.2.1 k hk
  · rw [mx_put_ne (by omega)]
    exact h.2.2
-- LadderWords$Squares.find(I)Z
def sp_Q_find : mx_Sp := fun As F P => ∃ (n : Nat) (N : Nat → Nat) (ch : Nat → Nat → Int32) (S : Nat → Nat) (lt st : Nat → Int32) (qs qt : Int32) (x : Int32), As = [mx_r 15, mx_i x] ∧ F 3 = some (e_W n) ∧ F 4 = some (mx_ia 360 lt) ∧ F 5 = some (mx_ia 61 st) ∧ wst n N ch S lt st ∧ F 15 = some (e_Q qs qt) ∧ F 16 = some (mx_qa 2 5 (mx_g5 19)) ∧ F 17 = some (mx_qa 2 5 (mx_g5 24)) ∧ qrw F ∧ hrw n N ch 0 0 0 F ∧ ((¬ ∃ m : Nat, 2 ≤ m ∧ m ≤ 5 ∧ x = nI m) → P (some (mx_i (nI 0))) (mx_put F 15 (e_Q (nI 0) qt))) ∧ (∀ m : Nat, 2 ≤ m → m ≤ 5 → x = nI m → ∀ F' f', F' 18 = some (mx_ia 5 f') → qfr (mx_put F 15 (e_Q (nI 0) qt)) F' → qrw F' → hrw n N ch 0 0 0 F' → (sr n N ch m m 0 (fun i => i) = none → P (some (mx_i (nI 0))) F') ∧ (∀ r, sr n N ch m m 0 (fun i => i) = some r → (∀ i, i < m → f' i = nI (r i)) → P (some (mx_i (nI 1))) (mx_put F' 15 (e_Q (nI m) (nI n)))))
theorem d_Q_find_0 : decode c_Q_find 0 = .ok (.aload_n 0, 1) := by decide +kernel
theorem d_Q_find_1 : decode c_Q_find 1 = .ok (.iconst 0, 1) := by decide +kernel
theorem d_Q_find_2 : decode c_Q_find 2 = .ok (.putfield 27, 3) := by decide +kernel
theorem d_Q_find_5 : decode c_Q_find 5 = .ok (.iload_n 1, 1) := by decide +kernel
theorem d_Q_find_6 : decode c_Q_find 6 = .ok (.iconst 2, 1) := by decide +kernel
theorem d_Q_find_7 : decode c_Q_find 7 = .ok (.if_icmp .lt 8, 3) := by decide +kernel
theorem d_Q_find_10 : decode c_Q_find 10 = .ok (.iload_n 1, 1) := by decide +kernel
theorem d_Q_find_11 : decode c_Q_find 11 = .ok (.iconst 5, 1) := by decide +kernel
theorem d_Q_find_12 : decode c_Q_find 12 = .ok (.if_icmp .le 5, 3) := by decide +kernel
theorem d_Q_find_15 : decode c_Q_find 15 = .ok (.iconst 0, 1) := by decide +kernel
theorem d_Q_find_16 : decode c_Q_find 16 = .ok (.ireturn, 1) := by decide +kernel
theorem d_Q_find_17 : decode c_Q_find 17 = .ok (.aload_n 0, 1) := by decide +kernel
theorem d_Q_find_18 : decode c_Q_find 18 = .ok (.iload_n 1, 1) := by decide +kernel
theorem d_Q_find_19 : decode c_Q_find 19 = .ok (.invokevirtual 31, 3) := by decide +kernel
theorem d_Q_find_22 : decode c_Q_find 22 = .ok (.aload_n 0, 1) := by decide +kernel
theorem d_Q_find_23 : decode c_Q_find 23 = .ok (.iconst 0, 1) := by decide +kernel
theorem d_Q_find_24 : decode c_Q_find 24 = .ok (.iload_n 1, 1) := by decide +kernel
theorem d_Q_find_25 : decode c_Q_find 25 = .ok (.invokevirtual 35, 3) := by decide +kernel
theorem d_Q_find_28 : decode c_Q_find 28 = .ok (.ifCond .ne 5, 3) := by decide +kernel
theorem d_Q_find_31 : decode c_Q_find 31 = .ok (.iconst 0, 1) := by decide +kernel
theorem d_Q_find_32 : decode c_Q_find 32 = .ok (.ireturn, 1) := by decide +kernel
theorem d_Q_find_33 : decode c_Q_find 33 = .ok (.aload_n 0, 1) := by decide +kernel
theorem d_Q_find_34 : decode c_Q_find 34 = .ok (.iload_n 1, 1) := by decide +kernel
theorem d_Q_find_35 : decode c_Q_find 35 = .ok (.putfield 27, 3) := by decide +kernel
theorem d_Q_find_38 : decode c_Q_find 38 = .ok (.aload_n 0, 1) := by decide +kernel
theorem d_Q_find_39 : decode c_Q_find 39 = .ok (.aload_n 0, 1) := by decide +kernel
theorem d_Q_find_40 : decode c_Q_find 40 = .ok (.getfield 23, 3) := by decide +kernel
theorem d_Q_find_43 : decode c_Q_find 43 = .ok (.invokevirtual 39, 3) := by decide +kernel
theorem d_Q_find_46 : decode c_Q_find 46 = .ok (.putfield 45, 3) := by decide +kernel
theorem d_Q_find_49 : decode c_Q_find 49 = .ok (.iconst 1, 1) := by decide +kernel
theorem d_Q_find_50 : decode c_Q_find 50 = .ok (.ireturn, 1) := by decide +kernel
abbrev w_Q_find : List Cond := mx_ws y_Q_find c_Q_find 2 (some .boolean)
abbrev rm_Q_find : Room := { frames := 140, cells := 0, slots := 0, locals := 2800 }
def t_Q_find  (P : Option mx_V → mx_F → Prop) : List (Nat × mx_O) := [
  (0, mx_aload 0 1),
  (1, mx_push (.inl (nI 0)) 2),
  (2, mx_puti 4 4 5),
  (5, mx_iload 1 6),
  (6, mx_push (.inl (nI 2)) 7),
  (7, mx_ic_lt 15 10),
  (10, mx_iload 1 11),
  (11, mx_push (.inl (nI 5)) 12),
  (12, mx_ic_le 17 15),
  (15, mx_push (.inl (nI 0)) 16),
  (16, mx_zret P),
  (17, mx_aload 0 18),
  (18, mx_iload 1 19),
  (19, mx_cv1 4 sp_Q_openAll 0 0 22),
  (22, mx_aload 0 23),
  (23, mx_push (.inl (nI 0)) 24),
  (24, mx_iload 1 25),
  (25, mx_cv2 4 sp_Q_complete0 0 0 28),
  (28, mx_if_ne 33 31),
  (31, mx_push (.inl (nI 0)) 32),
  (32, mx_zret P),
  (33, mx_aload 0 34),
  (34, mx_iload 1 35),
  (35, mx_puti 4 4 38),
  (38, mx_aload 0 39),
  (39, mx_aload 0 40),
  (40, mx_get 4 0 43),
  (43, mx_cv0 5 sp_W_count 0 0 46),
  (46, mx_puti 4 5 49),
  (49, mx_push (.inl (nI 1)) 50),
  (50, mx_zret P)]
set_option maxRecDepth 20000 in
theorem a_Q_find  {p : Program} {l : Launch} {e : Env} {s : State} {m : MethodId} {args : Array Value} {below : List Frame} {meth : Method} {c : Code} {D : va_G} {tc : Nat → ClassId} {tb : Nat → Nat} {sz : Nat} {a0 : Nat → Nat} {G : mx_F} {P : Option mx_V → mx_F → Prop}  (C : mx_C p s m args c c_Q_find y_Q_find.cls w_Q_find D tc tb (mx_A a0 G sz) 2 (mx_Ok0 a0 G)) (hr : meth.sig.returnType = (some .boolean)) (hlk : meth.locks = false) : mx_all (mx_W p l e rm_Q_find s m args below meth c (MQ below (mx_Q D tc tb a0 G sz P) args s 0 0 (mx_A a0 G sz)) D tc tb (mx_A a0 G sz) 2 (mx_Ok0 a0 G)) (t_Q_find  P) :=
  ⟨mx_s_aload_n C d_Q_find_0 rfl,
  mx_s_iconst C d_Q_find_1 (by decide),
  mx_s_puti (T := T_Q) (N := 6) (k := 4) C (fun w h => List.mem_cons_of_mem _ (in_Q w h)) rfl ty_Q ok_Q nm_Q (by decide) (List.mem_cons_of_mem _ fk_Q_27) rfl rfl (ok_Q 4 (by decide)) d_Q_find_2,
  mx_s_iload_n C d_Q_find_5 rfl,
  mx_s_iconst C d_Q_find_6 (by decide),
  mx_s_ic_lt C d_Q_find_7 (by decide),
  mx_s_iload_n C d_Q_find_10 rfl,
  mx_s_iconst C d_Q_find_11 (by decide),
  mx_s_ic_le C d_Q_find_12 (by decide),
  mx_s_iconst C d_Q_find_15 (by decide),
  mx_s_zret C hr hlk d_Q_find_16,
  mx_s_aload_n C d_Q_find_17 rfl,
  mx_s_iload_n C d_Q_find_18 rfl,
  mx_s_cv1 C (m_Q_openAll l) rfl (cwV 1 C.2.2.2.2.1 (mx_gV (fun w h => List.mem_cons_of_mem _ h) mk_Q_31 im_Q_openAll se_Q_openAll ic_Q co_Q_openAll) rfl rfl rfl (by decide +kernel) ⟨by decide, by decide⟩) d_Q_find_19 ⟨Nat.zero_le _, Nat.zero_le _⟩,
  mx_s_aload_n C d_Q_find_22 rfl,
  mx_s_iconst C d_Q_find_23 (by decide),
  mx_s_iload_n C d_Q_find_24 rfl,
  mx_s_cv2 C (m_Q_complete0 l) rfl (cwV 2 C.2.2.2.2.1 (mx_gV (fun w h => List.mem_cons_of_mem _ h) mk_Q_35 im_Q_complete se_Q_complete ic_Q co_Q_complete) rfl rfl rfl (by decide +kernel) ⟨by decide, by decide⟩) d_Q_find_25 ⟨Nat.zero_le _, Nat.zero_le _⟩,
  mx_s_if_ne C d_Q_find_28 (by decide),
  mx_s_iconst C d_Q_find_31 (by decide),
  mx_s_zret C hr hlk d_Q_find_32,
  mx_s_aload_n C d_Q_find_33 rfl,
  mx_s_iload_n C d_Q_find_34 rfl,
  mx_s_puti (T := T_Q) (N := 6) (k := 4) C (fun w h => List.mem_cons_of_mem _ (in_Q w h)) rfl ty_Q ok_Q nm_Q (by decide) (List.mem_cons_of_mem _ fk_Q_27) rfl rfl (ok_Q 4 (by decide)) d_Q_find_35,
  mx_s_aload_n C d_Q_find_38 rfl,
  mx_s_aload_n C d_Q_find_39 rfl,
  mx_s_get (T := T_Q) (N := 6) (k := 0) C (fun w h => List.mem_cons_of_mem _ (in_Q w h)) rfl (by decide) (List.mem_cons_of_mem _ fk_Q_23) rfl d_Q_find_40,
  mx_s_cv0 C (m_W_count l) rfl (cwV 0 C.2.2.2.2.1 (mx_gV (fun w h => List.mem_cons_of_mem _ h) mk_Q_39 im_W_count se_W_count ic_W co_W_count) rfl rfl rfl (by decide +kernel) ⟨by decide, by decide⟩) d_Q_find_43 ⟨Nat.zero_le _, Nat.zero_le _⟩,
  mx_s_puti (T := T_Q) (N := 6) (k := 5) C (fun w h => List.mem_cons_of_mem _ (in_Q w h)) rfl ty_Q ok_Q nm_Q (by decide) (List.mem_cons_of_mem _ fk_Q_45) rfl rfl (ok_Q 5 (by decide)) d_Q_find_46,
  mx_s_iconst C d_Q_find_49 (by decide),
  mx_s_zret C hr hlk d_Q_find_50,
  trivial⟩
set_option maxRecDepth 20000 in
set_option maxHeartbeats 2000000 in
theorem m_Q_find (l : Launch) : mx_M l y_Q_find w_Q_find rm_Q_find sp_Q_find := by
  intro zD ztc ztb zad As F P sz0 h
  obtain ⟨n, N, ch, S, lt, st, qs, qt, x, rfl, h3, h4, h5, hw, h15, h16, h17, hq, hh, hz, ho⟩ := h
  refine mx_run (cc := c_Q_find) (maxL := 2) (ret := (some .boolean)) (tab := t_Q_find  P) (by decide) rfl zD ztc ztb zad _ F P sz0 (Nat.le_of_ble_eq_true rfl) (fun p e s m args below meth c C hr hlk => a_Q_find  C hr hlk) ?_
  intro Rr go
  have hF := mx_as1 h15
  rw [hF]
  have hn := hw.1.1
  refine go rfl ⟨_, rfl, ?_⟩
  refine go rfl ?_
  refine go rfl ⟨_, _, _, _, rfl, rfl, (Nat.le_of_ble_eq_true rfl), ?_⟩
  rw [mx_pp]
  have bad : (¬ ∃ m : Nat, 2 ≤ m ∧ m ≤ 5 ∧ x = nI m) → Rr 15 (mx_en [mx_r 15, mx_i x] 2) [] (mx_put F 15 (e_Q (nI 0) qt)) 0 0 := by
    intro h
    refine go rfl ?_
    refine go rfl ⟨_, rfl, rfl, rfl, (Or.inl rfl), ?_⟩
    exact hz h
  refine go rfl ⟨_, rfl, ?_⟩
  refine go rfl ?_
  refine go rfl ⟨_, _, _, rfl, fun c1 => ?_, fun c1 => ?_⟩
  · refine bad ?_
    rintro ⟨m, q1, q2, rfl⟩
    exact absurd ((nI_ltI (by omega) (by omega)).mp c1) (by omega)
  refine go rfl ⟨_, rfl, ?_⟩
  refine go rfl ?_
  refine go rfl ⟨_, _, _, rfl, fun c2 => ?_, fun c2 => ?_⟩
  rotate_left
  · refine bad ?_
    rintro ⟨m, q1, q2, rfl⟩
    exact c2 (nI_le q2 (by omega))
  have hx0 : ¬ x < 0 := by
    intro h
    refine c1 ?_
    rw [Int32.lt_iff_toInt_lt] at h ⊢
    rw [nI_toInt (by omega)]
    have : (0 : Int32).toInt = 0 := by decide
    omega
  obtain ⟨m, hm, rfl⟩ := nI_of hx0
  have hm2 : 2 ≤ m := by
    rcases Nat.lt_or_ge m 2 with q | q
    · exact absurd (nI_lt q (by omega)) c1
    · exact q
  have hm5 : m ≤ 5 := (nI_leI (by omega) (by omega)).mp c2
  have ho := ho m hm2 hm5 rfl
  refine go rfl ⟨_, rfl, ?_⟩
  refine go rfl ⟨_, rfl, ?_⟩
  refine go rfl ⟨_, _, _, _, rfl, rfl, rfl, rfl, rfl, ⟨n, N, ch, S, lt, st, _, _, m, rfl, h3, h4, h5, hw, rfl, h16, h17, qrw_15 hq, hm5, hrw_0 (hrw_t hh (fun x hx => mx_put_ne (by omega))), fun F1 q1 q2 q3 q4 => ?_⟩⟩
  have g3 : F1 3 = _ := (q1 3 (by omega)).trans h3
  have g4 : F1 4 = _ := (q1 4 (by omega)).trans h4
  have g5 : F1 5 = _ := (q1 5 (by omega)).trans h5
  have g15 : F1 15 = some (e_Q (nI 0) qt) := q1 15 (by omega)
  have g16 : F1 16 = _ := (q1 16 (by omega)).trans h16
  have g17 : F1 17 = _ := (q1 17 (by omega)).trans h17
  obtain ⟨fl, g18⟩ := q2.2.2
  refine go rfl ⟨_, rfl, ?_⟩
  refine go rfl ?_
  refine go rfl ⟨_, rfl, ?_⟩
  refine go rfl ⟨_, _, _, _, _, rfl, g15, rfl, rfl, rfl, ⟨n, N, ch, S, lt, st, _, _, m, fl, fun i => i, rfl, g3, g4, g5, hw, g15, g16, g17, q2, hm5, g18, fun i hi => absurd hi (Nat.not_lt_zero i), q3, q4 _, Nat.zero_le _, fun F2 f2 k18 k1 k2 => ⟨fun r e k4 => ?_, fun e k4 => ?_⟩⟩⟩
  · have ho := ho F2 f2 k18 (fun k hk => (k1 k (by omega)).trans (q1 k (by omega))) k2 (hrw_0 (hrw_t q3 (fun x hx => k1 _ (by omega))))
    have k15 : F2 15 = some (e_Q (nI 0) qt) := (k1 15 (by omega)).trans g15
    have k3 : F2 3 = _ := (k1 3 (by omega)).trans g3
    have hF2 := mx_as2 k3 k15
    have hX : mx_put F2 3 (e_W n) = F2 := mx_self k3
    refine go rfl ⟨_, _, rfl, fun e9 => ?_, fun e9 => ?_⟩
    rotate_left
    · exact absurd e9 (by decide)
    rw [hF2]
    refine go rfl ⟨_, rfl, ?_⟩
    refine go rfl ⟨_, rfl, ?_⟩
    refine go rfl ⟨_, _, _, _, rfl, rfl, (Nat.le_of_ble_eq_true rfl), ?_⟩
    rw [mx_pp]
    refine go rfl ⟨_, rfl, ?_⟩
    refine go rfl ⟨_, rfl, ?_⟩
    refine go rfl ⟨_, _, _, _, rfl, rfl, rfl, ?_⟩
    refine go rfl ⟨_, _, _, rfl, rfl, rfl, rfl, rfl, ⟨n, rfl, rfl, ?_⟩⟩
    refine go rfl ⟨_, _, _, _, rfl, rfl, (Nat.le_of_ble_eq_true rfl), ?_⟩
    refine go rfl ?_
    refine go rfl ⟨_, rfl, rfl, rfl, (Or.inr rfl), ?_⟩
    rw [mx_pp, hX]
    exact ho.2 r e k4
  · have ho := ho F2 f2 k18 (fun k hk => (k1 k (by omega)).trans (q1 k (by omega))) k2 (hrw_0 (hrw_t q3 (fun x hx => k1 _ (by omega))))
    refine go rfl ⟨_, _, rfl, fun e9 => ?_, fun e9 => ?_⟩
    · exact absurd rfl e9
    refine go rfl ?_
    refine go rfl ⟨_, rfl, rfl, rfl, (Or.inl rfl), ?_⟩
    exact ho.1 e
-- LadderWords$Squares.wordAt(I)I
def sp_Q_wordAt : mx_Sp := fun As F P => ∃ (n kn m : Nat) (li : Nat → Int32) (x : Int32), As = [mx_r 15, mx_i x] ∧ F 3 = some (e_W n) ∧ F 15 = some (e_Q (nI kn) (nI m)) ∧ F 18 = some (mx_ia 5 li) ∧ n ≤ 60 ∧ m ≤ n ∧ kn ≤ 5 ∧ (∀ k, k < kn → m = n → x = nI k → P (some (mx_i (li k))) F) ∧ ((¬ ∃ k, k < kn ∧ m = n ∧ x = nI k) → P (some (mx_i (-1))) F)
theorem d_Q_wordAt_0 : decode c_Q_wordAt 0 = .ok (.iload_n 1, 1) := by decide +kernel
theorem d_Q_wordAt_1 : decode c_Q_wordAt 1 = .ok (.ifCond .lt 29, 3) := by decide +kernel
theorem d_Q_wordAt_4 : decode c_Q_wordAt 4 = .ok (.iload_n 1, 1) := by decide +kernel
theorem d_Q_wordAt_5 : decode c_Q_wordAt 5 = .ok (.aload_n 0, 1) := by decide +kernel
theorem d_Q_wordAt_6 : decode c_Q_wordAt 6 = .ok (.getfield 27, 3) := by decide +kernel
theorem d_Q_wordAt_9 : decode c_Q_wordAt 9 = .ok (.if_icmp .ge 21, 3) := by decide +kernel
theorem d_Q_wordAt_12 : decode c_Q_wordAt 12 = .ok (.aload_n 0, 1) := by decide +kernel
theorem d_Q_wordAt_13 : decode c_Q_wordAt 13 = .ok (.getfield 45, 3) := by decide +kernel
theorem d_Q_wordAt_16 : decode c_Q_wordAt 16 = .ok (.aload_n 0, 1) := by decide +kernel
theorem d_Q_wordAt_17 : decode c_Q_wordAt 17 = .ok (.getfield 23, 3) := by decide +kernel
theorem d_Q_wordAt_20 : decode c_Q_wordAt 20 = .ok (.invokevirtual 39, 3) := by decide +kernel
theorem d_Q_wordAt_23 : decode c_Q_wordAt 23 = .ok (.if_icmp .ne 7, 3) := by decide +kernel
theorem d_Q_wordAt_26 : decode c_Q_wordAt 26 = .ok (.iconst 1, 1) := by decide +kernel
theorem d_Q_wordAt_27 : decode c_Q_wordAt 27 = .ok (.goto 4, 3) := by decide +kernel
theorem d_Q_wordAt_30 : decode c_Q_wordAt 30 = .ok (.iconst 0, 1) := by decide +kernel
theorem d_Q_wordAt_31 : decode c_Q_wordAt 31 = .ok (.istore_n 2, 1) := by decide +kernel
theorem d_Q_wordAt_32 : decode c_Q_wordAt 32 = .ok (.iload_n 2, 1) := by decide +kernel
theorem d_Q_wordAt_33 : decode c_Q_wordAt 33 = .ok (.ifCond .eq 12, 3) := by decide +kernel
theorem d_Q_wordAt_36 : decode c_Q_wordAt 36 = .ok (.aload_n 0, 1) := by decide +kernel
theorem d_Q_wordAt_37 : decode c_Q_wordAt 37 = .ok (.getfield 19, 3) := by decide +kernel
theorem d_Q_wordAt_40 : decode c_Q_wordAt 40 = .ok (.iload_n 1, 1) := by decide +kernel
theorem d_Q_wordAt_41 : decode c_Q_wordAt 41 = .ok (.iaload, 1) := by decide +kernel
theorem d_Q_wordAt_42 : decode c_Q_wordAt 42 = .ok (.goto 4, 3) := by decide +kernel
theorem d_Q_wordAt_45 : decode c_Q_wordAt 45 = .ok (.iconst (-1), 1) := by decide +kernel
theorem d_Q_wordAt_46 : decode c_Q_wordAt 46 = .ok (.ireturn, 1) := by decide +kernel
abbrev w_Q_wordAt : List Cond := mx_ws y_Q_wordAt c_Q_wordAt 3 (some .int)
abbrev rm_Q_wordAt : Room := { frames := 20, cells := 0, slots := 0, locals := 400 }
def t_Q_wordAt  (P : Option mx_V → mx_F → Prop) : List (Nat × mx_O) := [
  (0, mx_iload 1 1),
  (1, mx_if_lt 30 4),
  (4, mx_iload 1 5),
  (5, mx_aload 0 6),
  (6, mx_get 4 4 9),
  (9, mx_ic_ge 30 12),
  (12, mx_aload 0 13),
  (13, mx_get 4 5 16),
  (16, mx_aload 0 17),
  (17, mx_get 4 0 20),
  (20, mx_cv0 5 sp_W_count 0 0 23),
  (23, mx_ic_ne 30 26),
  (26, mx_push (.inl (nI 1)) 27),
  (27, mx_goto 31),
  (30, mx_push (.inl (nI 0)) 31),
  (31, mx_istore 2 32),
  (32, mx_iload 2 33),
  (33, mx_if_eq 45 36),
  (36, mx_aload 0 37),
  (37, mx_get 4 3 40),
  (40, mx_iload 1 41),
  (41, mx_iald 42),
  (42, mx_goto 46),
  (45, mx_push (.inl (-1)) 46),
  (46, mx_iret P)]
set_option maxRecDepth 20000 in
theorem a_Q_wordAt  {p : Program} {l : Launch} {e : Env} {s : State} {m : MethodId} {args : Array Value} {below : List Frame} {meth : Method} {c : Code} {D : va_G} {tc : Nat → ClassId} {tb : Nat → Nat} {sz : Nat} {a0 : Nat → Nat} {G : mx_F} {P : Option mx_V → mx_F → Prop}  (C : mx_C p s m args c c_Q_wordAt y_Q_wordAt.cls w_Q_wordAt D tc tb (mx_A a0 G sz) 3 (mx_Ok0 a0 G)) (hr : meth.sig.returnType = (some .int)) (hlk : meth.locks = false) : mx_all (mx_W p l e rm_Q_wordAt s m args below meth c (MQ below (mx_Q D tc tb a0 G sz P) args s 0 0 (mx_A a0 G sz)) D tc tb (mx_A a0 G sz) 3 (mx_Ok0 a0 G)) (t_Q_wordAt  P) :=
  ⟨mx_s_iload_n C d_Q_wordAt_0 rfl,
  mx_s_if_lt C d_Q_wordAt_1 (by decide),
  mx_s_iload_n C d_Q_wordAt_4 rfl,
  mx_s_aload_n C d_Q_wordAt_5 rfl,
  mx_s_get (T := T_Q) (N := 6) (k := 4) C (fun w h => List.mem_cons_of_mem _ (in_Q w h)) rfl (by decide) (List.mem_cons_of_mem _ fk_Q_27) rfl d_Q_wordAt_6,
  mx_s_ic_ge C d_Q_wordAt_9 (by decide),
  mx_s_aload_n C d_Q_wordAt_12 rfl,
  mx_s_get (T := T_Q) (N := 6) (k := 5) C (fun w h => List.mem_cons_of_mem _ (in_Q w h)) rfl (by decide) (List.mem_cons_of_mem _ fk_Q_45) rfl d_Q_wordAt_13,
  mx_s_aload_n C d_Q_wordAt_16 rfl,
  mx_s_get (T := T_Q) (N := 6) (k := 0) C (fun w h => List.mem_cons_of_mem _ (in_Q w h)) rfl (by decide) (List.mem_cons_of_mem _ fk_Q_23) rfl d_Q_wordAt_17,
  mx_s_cv0 C (m_W_count l) rfl (cwV 0 C.2.2.2.2.1 (mx_gV (fun w h => List.mem_cons_of_mem _ h) mk_Q_39 im_W_count se_W_count ic_W co_W_count) rfl rfl rfl (by decide +kernel) ⟨by decide, by decide⟩) d_Q_wordAt_20 ⟨Nat.zero_le _, Nat.zero_le _⟩,
  mx_s_ic_ne C d_Q_wordAt_23 (by decide),
  mx_s_iconst C d_Q_wordAt_26 (by decide),
  mx_s_goto C d_Q_wordAt_27 (by decide),
  mx_s_iconst C d_Q_wordAt_30 (by decide),
  mx_s_istore_n C d_Q_wordAt_31 rfl (by decide),
  mx_s_iload_n C d_Q_wordAt_32 rfl,
  mx_s_if_eq C d_Q_wordAt_33 (by decide),
  mx_s_aload_n C d_Q_wordAt_36 rfl,
  mx_s_get (T := T_Q) (N := 6) (k := 3) C (fun w h => List.mem_cons_of_mem _ (in_Q w h)) rfl (by decide) (List.mem_cons_of_mem _ fk_Q_19) rfl d_Q_wordAt_37,
  mx_s_iload_n C d_Q_wordAt_40 rfl,
  mx_s_iald C d_Q_wordAt_41,
  mx_s_goto C d_Q_wordAt_42 (by decide),
  mx_s_iconst C d_Q_wordAt_45 (by decide),
  mx_s_iret C hr hlk d_Q_wordAt_46,
  trivial⟩
set_option maxRecDepth 20000 in
set_option maxHeartbeats 2000000 in
theorem m_Q_wordAt (l : Launch) : mx_M l y_Q_wordAt w_Q_wordAt rm_Q_wordAt sp_Q_wordAt := by
  intro zD ztc ztb zad As F P sz0 h
  obtain ⟨n, kn, m, li, x, rfl, h3, h15, h18, hn, hm, hr, ho, hz⟩ := h
  refine mx_run (cc := c_Q_wordAt) (maxL := 3) (ret := (some .int)) (tab := t_Q_wordAt  P) (by decide) rfl zD ztc ztb zad _ F P sz0 (Nat.le_of_ble_eq_true rfl) (fun p e s m args below meth c C hr hlk => a_Q_wordAt  C hr hlk) ?_
  intro Rr go
  have hF := mx_as3 h3 h15 h18
  rw [hF]
  have z : (¬ ∃ k, k < kn ∧ m = n ∧ x = nI k) → Rr 30 (mx_en [mx_r 15, mx_i x] 3) [] (mx_put (mx_put (mx_put F 3 (e_W n)) 15 (e_Q (nI kn) (nI m))) 18 (mx_ia 5 li)) 0 0 := by
    intro h
    refine go rfl ?_
    refine go rfl ⟨_, _, rfl, ?_⟩
    refine go rfl ⟨_, rfl, ?_⟩
    refine go rfl ⟨_, _, rfl, fun e => ?_, fun e => ?_⟩
    · refine go rfl ?_
      refine go rfl ⟨_, rfl, rfl, rfl, ?_⟩
      rw [← hF]
      exact hz h
    · exact absurd rfl e
  refine go rfl ⟨_, rfl, ?_⟩
  refine go rfl ⟨_, _, rfl, fun c1 => ?_, fun c1 => ?_⟩
  · refine z ?_
    rintro ⟨k, q1, q2, rfl⟩
    exact nI_pos (by omega) c1
  refine go rfl ⟨_, rfl, ?_⟩
  refine go rfl ⟨_, rfl, ?_⟩
  refine go rfl ⟨_, _, _, _, rfl, rfl, rfl, ?_⟩
  refine go rfl ⟨_, _, _, rfl, fun c2 => ?_, fun c2 => ?_⟩
  · refine z ?_
    rintro ⟨k, q1, q2, rfl⟩
    exact absurd ((nI_leI (by omega) (by omega)).mp c2) (by omega)
  rcases pk_ix x (n := kn) (by omega) with q | q | ⟨k, hk, rfl⟩
  · exact absurd q c1
  · exact absurd q c2
  refine go rfl ⟨_, rfl, ?_⟩
  refine go rfl ⟨_, _, _, _, rfl, rfl, rfl, ?_⟩
  refine go rfl ⟨_, rfl, ?_⟩
  refine go rfl ⟨_, _, _, _, rfl, rfl, rfl, ?_⟩
  refine go rfl ⟨_, _, _, rfl, rfl, rfl, rfl, rfl, ⟨n, rfl, rfl, ?_⟩⟩
  refine go rfl ⟨_, _, _, rfl, fun c3 => ?_, fun c3 => ?_⟩
  · refine z ?_
    rintro ⟨k, q1, rfl, _⟩
    exact c3 rfl
  have c3 := (nI_eq (by omega) (by omega)).mp c3
  refine go rfl ?_
  refine go rfl ?_
  refine go rfl ⟨_, _, rfl, ?_⟩
  refine go rfl ⟨_, rfl, ?_⟩
  refine go rfl ⟨_, _, rfl, fun e => ?_, fun e => ?_⟩
  · exact absurd e (by decide)
  refine go rfl ⟨_, rfl, ?_⟩
  refine go rfl ⟨_, _, _, _, rfl, rfl, rfl, ?_⟩
  refine go rfl ⟨_, rfl, ?_⟩
  refine go rfl ⟨_, _, _, _, _, rfl, rfl, (vp_in_nI (show k < 5 by omega) (by omega)), ?_⟩
  rw [nI_clamp (by omega)]
  refine go rfl ?_
  refine go rfl ⟨_, rfl, rfl, rfl, ?_⟩
  rw [← hF]
  exact ho k hk c3 rfl
-- LadderWords.square(I)Z
def sp_L_square : mx_Sp := fun As F P => ∃ (n : Nat) (N : Nat → Nat) (ch : Nat → Nat → Int32) (S : Nat → Nat) (lt st : Nat → Int32) (qs qt : Int32) (x : Int32), As = [mx_r 0, mx_i x] ∧ F 0 = some e_L ∧ F 3 = some (e_W n) ∧ F 4 = some (mx_ia 360 lt) ∧ F 5 = some (mx_ia 61 st) ∧ wst n N ch S lt st ∧ F 15 = some (e_Q qs qt) ∧ F 16 = some (mx_qa 2 5 (mx_g5 19)) ∧ F 17 = some (mx_qa 2 5 (mx_g5 24)) ∧ qrw F ∧ hrw n N ch 0 0 0 F ∧ ((¬ ∃ m : Nat, 2 ≤ m ∧ m ≤ 5 ∧ x = nI m) → P (some (mx_i (nI 0))) (mx_put F 15 (e_Q (nI 0) qt))) ∧ (∀ m : Nat, 2 ≤ m → m ≤ 5 → x = nI m → ∀ F' f', F' 18 = some (mx_ia 5 f') → qfr (mx_put F 15 (e_Q (nI 0) qt)) F' → qrw F' → hrw n N ch 0 0 0 F' → (sr n N ch m m 0 (fun i => i) = none → P (some (mx_i (nI 0))) F') ∧ (∀ r, sr n N ch m m 0 (fun i => i) = some r → (∀ i, i < m → f' i = nI (r i)) → P (some (mx_i (nI 1))) (mx_put F' 15 (e_Q (nI m) (nI n)))))
theorem d_L_square_0 : decode c_L_square 0 = .ok (.aload_n 0, 1) := by decide +kernel
theorem d_L_square_1 : decode c_L_square 1 = .ok (.getfield 42, 3) := by decide +kernel
theorem d_L_square_4 : decode c_L_square 4 = .ok (.iload_n 1, 1) := by decide +kernel
theorem d_L_square_5 : decode c_L_square 5 = .ok (.invokevirtual 86, 3) := by decide +kernel
theorem d_L_square_8 : decode c_L_square 8 = .ok (.ireturn, 1) := by decide +kernel
abbrev w_L_square : List Cond := mx_ws y_L_square c_L_square 2 (some .boolean)
abbrev rm_L_square : Room := { frames := 150, cells := 0, slots := 0, locals := 3000 }
def t_L_square  (P : Option mx_V → mx_F → Prop) : List (Nat × mx_O) := [
  (0, mx_aload 0 1),
  (1, mx_get 6 4 4),
  (4, mx_iload 1 5),
  (5, mx_cv1 4 sp_Q_find 0 0 8),
  (8, mx_zret P)]
set_option maxRecDepth 20000 in
theorem a_L_square  {p : Program} {l : Launch} {e : Env} {s : State} {m : MethodId} {args : Array Value} {below : List Frame} {meth : Method} {c : Code} {D : va_G} {tc : Nat → ClassId} {tb : Nat → Nat} {sz : Nat} {a0 : Nat → Nat} {G : mx_F} {P : Option mx_V → mx_F → Prop}  (C : mx_C p s m args c c_L_square y_L_square.cls w_L_square D tc tb (mx_A a0 G sz) 2 (mx_Ok0 a0 G)) (hr : meth.sig.returnType = (some .boolean)) (hlk : meth.locks = false) : mx_all (mx_W p l e rm_L_square s m args below meth c (MQ below (mx_Q D tc tb a0 G sz P) args s 0 0 (mx_A a0 G sz)) D tc tb (mx_A a0 G sz) 2 (mx_Ok0 a0 G)) (t_L_square  P) :=
  ⟨mx_s_aload_n C d_L_square_0 rfl,
  mx_s_get (T := T_L) (N := 6) (k := 4) C (fun w h => List.mem_cons_of_mem _ (in_L w h)) rfl (by decide) (List.mem_cons_of_mem _ fk_L_42) rfl d_L_square_1,
  mx_s_iload_n C d_L_square_4 rfl,
  mx_s_cv1 C (m_Q_find l) rfl (cwV 1 C.2.2.2.2.1 (mx_gV (fun w h => List.mem_cons_of_mem _ h) mk_L_86 im_Q_find se_Q_find ic_Q co_Q_find) rfl rfl rfl (by decide +kernel) ⟨by decide, by decide⟩) d_L_square_5 ⟨Nat.zero_le _, Nat.zero_le _⟩,
  mx_s_zret C hr hlk d_L_square_8,
  trivial⟩
set_option maxRecDepth 20000 in
set_option maxHeartbeats 2000000 in
theorem m_L_square (l : Launch) : mx_M l y_L_square w_L_square rm_L_square sp_L_square := by
  intro zD ztc ztb zad As F P sz0 h
  obtain ⟨n, N, ch, S, lt, st, qs, qt, x, rfl, h0, h3, h4, h5, hw, h15, h16, h17, hq, hh, hz, ho⟩ := h
  refine mx_run (cc := c_L_square) (maxL := 2) (ret := (some .boolean)) (tab := t_L_square  P) (by decide) rfl zD ztc ztb zad _ F P sz0 (Nat.le_of_ble_eq_true rfl) (fun p e s m args below meth c C hr hlk => a_L_square  C hr hlk) ?_
  intro Rr go
  have hF := mx_as2 h0 h15
  rw [hF]
  refine go rfl ⟨_, rfl, ?_⟩
  refine go rfl ⟨_, _, _, _, rfl, rfl, rfl, ?_⟩
  refine go rfl ⟨_, rfl, ?_⟩
  rw [← hF]
  refine go rfl ⟨_, _, _, _, rfl, h15, rfl, rfl, rfl, ⟨n, N, ch, S, lt, st, _, _, x, rfl, h3, h4, h5, hw, h15, h16, h17, hq, hh, fun c => ?_, fun m q1 q2 q3 F' f' q4 q5 q6 q7 => ⟨fun e => ?_, fun r e e2 => ?_⟩⟩⟩
  · refine go rfl ⟨_, rfl, rfl, rfl, (Or.inl rfl), ?_⟩
    exact hz c
  · refine go rfl ⟨_, rfl, rfl, rfl, (Or.inl rfl), ?_⟩
    exact (ho m q1 q2 q3 F' f' q4 q5 q6 q7).1 e
  · refine go rfl ⟨_, rfl, rfl, rfl, (Or.inr rfl), ?_⟩
    exact (ho m q1 q2 q3 F' f' q4 q5 q6 q7).2 r e e2
-- LadderWords.line(I)I
def sp_L_line : mx_Sp := fun As F P => ∃ (n kn m : Nat) (li : Nat → Int32) (x : Int32), As = [mx_r 0, mx_i x] ∧ F 0 = some e_L ∧ F 3 = some (e_W n) ∧ F 15 = some (e_Q (nI kn) (nI m)) ∧ F 18 = some (mx_ia 5 li) ∧ n ≤ 60 ∧ m ≤ n ∧ kn ≤ 5 ∧ (∀ k, k < kn → m = n → x = nI k → P (some (mx_i (li k))) F) ∧ ((¬ ∃ k, k < kn ∧ m = n ∧ x = nI k) → P (some (mx_i (-1))) F)
theorem d_L_line_0 : decode c_L_line 0 = .ok (.aload_n 0, 1) := by decide +kernel
theorem d_L_line_1 : decode c_L_line 1 = .ok (.getfield 42, 3) := by decide +kernel
theorem d_L_line_4 : decode c_L_line 4 = .ok (.iload_n 1, 1) := by decide +kernel
theorem d_L_line_5 : decode c_L_line 5 = .ok (.invokevirtual 88, 3) := by decide +kernel
theorem d_L_line_8 : decode c_L_line 8 = .ok (.ireturn, 1) := by decide +kernel
abbrev w_L_line : List Cond := mx_ws y_L_line c_L_line 2 (some .int)
abbrev rm_L_line : Room := { frames := 30, cells := 0, slots := 0, locals := 600 }
def t_L_line  (P : Option mx_V → mx_F → Prop) : List (Nat × mx_O) := [
  (0, mx_aload 0 1),
  (1, mx_get 6 4 4),
  (4, mx_iload 1 5),
  (5, mx_cv1 4 sp_Q_wordAt 0 0 8),
  (8, mx_iret P)]
set_option maxRecDepth 20000 in
theorem a_L_line  {p : Program} {l : Launch} {e : Env} {s : State} {m : MethodId} {args : Array Value} {below : List Frame} {meth : Method} {c : Code} {D : va_G} {tc : Nat → ClassId} {tb : Nat → Nat} {sz : Nat} {a0 : Nat → Nat} {G : mx_F} {P : Option mx_V → mx_F → Prop}  (C : mx_C p s m args c c_L_line y_L_line.cls w_L_line D tc tb (mx_A a0 G sz) 2 (mx_Ok0 a0 G)) (hr : meth.sig.returnType = (some .int)) (hlk : meth.locks = false) : mx_all (mx_W p l e rm_L_line s m args below meth c (MQ below (mx_Q D tc tb a0 G sz P) args s 0 0 (mx_A a0 G sz)) D tc tb (mx_A a0 G sz) 2 (mx_Ok0 a0 G)) (t_L_line  P) :=
  ⟨mx_s_aload_n C d_L_line_0 rfl,
  mx_s_get (T := T_L) (N := 6) (k := 4) C (fun w h => List.mem_cons_of_mem _ (in_L w h)) rfl (by decide) (List.mem_cons_of_mem _ fk_L_42) rfl d_L_line_1,
  mx_s_iload_n C d_L_line_4 rfl,
  mx_s_cv1 C (m_Q_wordAt l) rfl (cwV 1 C.2.2.2.2.1 (mx_gV (fun w h => List.mem_cons_of_mem _ h) mk_L_88 im_Q_wordAt se_Q_wordAt ic_Q co_Q_wordAt) rfl rfl rfl (by decide +kernel) ⟨by decide, by decide⟩) d_L_line_5 ⟨Nat.zero_le _, Nat.zero_le _⟩,
  mx_s_iret C hr hlk d_L_line_8,
  trivial⟩
set_option maxRecDepth 20000 in
set_option maxHeartbeats 2000000 in
theorem m_L_line (l : Launch) : mx_M l y_L_line w_L_line rm_L_line sp_L_line := by
  intro zD ztc ztb zad As F P sz0 h
  obtain ⟨n, kn, m, li, x, rfl, h0, h3, h15, h18, hn, hm, hr, ho, hz⟩ := h
  refine mx_run (cc := c_L_line) (maxL := 2) (ret := (some .int)) (tab := t_L_line  P) (by decide) rfl zD ztc ztb zad _ F P sz0 (Nat.le_of_ble_eq_true rfl) (fun p e s m args below meth c C hr hlk => a_L_line  C hr hlk) ?_
  intro Rr go
  have hF := mx_as4 h0 h3 h15 h18
  rw [hF]
  refine go rfl ⟨_, rfl, ?_⟩
  refine go rfl ⟨_, _, _, _, rfl, rfl, rfl, ?_⟩
  refine go rfl ⟨_, rfl, ?_⟩
  refine go rfl ⟨_, _, _, _, rfl, rfl, rfl, rfl, rfl, ⟨n, kn, m, li, x, rfl, rfl, rfl, rfl, hn, hm, hr, fun k q1 q2 q3 => ?_, fun c => ?_⟩⟩
  · refine go rfl ⟨_, rfl, rfl, rfl, ?_⟩
    rw [← hF]
    exact ho k q1 q2 q3
  · refine go rfl ⟨_, rfl, rfl, rfl, ?_⟩
    rw [← hF]
    exact hz c
-- LadderWordsModel.mayBe(III)Z
def sp_M_mayBe : mx_Sp := fun As F P => ∃ (th sz sp : Int32) (wy : Int64) (kp sd : Int32) (n : Nat) (N : Nat → Nat) (ch : Nat → Nat → Int32) (lt ml : Nat → Int32) (li : Nat → Int32) (p : Nat → Nat) (j k m : Nat), As = [mx_r 40, mx_i (nI j), mx_i (nI k), mx_i (nI m)] ∧ F 42 = some (mx_ia 360 lt) ∧ F 43 = some (mx_ia 60 ml) ∧ F 40 = some (e_M th sz (nI n) sp wy kp sd) ∧ F 50 = some (mx_ia 6 li) ∧ mst n N ch lt ml ∧ j < n ∧ k < m ∧ m ≤ 5 ∧ (∀ i, i < k → li i = nI (p i) ∧ p i < n ∧ N (p i) = m) ∧ ((N j = m ∧ ∀ i, i < k → ch j i = ch (p i) k) → P (some (mx_i (nI 1))) F) ∧ (¬ (N j = m ∧ ∀ i, i < k → ch j i = ch (p i) k) → P (some (mx_i (nI 0))) F)
theorem d_M_mayBe_0 : decode c_M_mayBe 0 = .ok (.aload_n 0, 1) := by decide +kernel
theorem d_M_mayBe_1 : decode c_M_mayBe 1 = .ok (.getfield 16, 3) := by decide +kernel
theorem d_M_mayBe_4 : decode c_M_mayBe 4 = .ok (.iload_n 1, 1) := by decide +kernel
theorem d_M_mayBe_5 : decode c_M_mayBe 5 = .ok (.iaload, 1) := by decide +kernel
theorem d_M_mayBe_6 : decode c_M_mayBe 6 = .ok (.iload_n 3, 1) := by decide +kernel
theorem d_M_mayBe_7 : decode c_M_mayBe 7 = .ok (.if_icmp .eq 5, 3) := by decide +kernel
theorem d_M_mayBe_10 : decode c_M_mayBe 10 = .ok (.iconst 0, 1) := by decide +kernel
theorem d_M_mayBe_11 : decode c_M_mayBe 11 = .ok (.ireturn, 1) := by decide +kernel
theorem d_M_mayBe_12 : decode c_M_mayBe 12 = .ok (.iconst 0, 1) := by decide +kernel
theorem d_M_mayBe_13 : decode c_M_mayBe 13 = .ok (.istore 4, 2) := by decide +kernel
theorem d_M_mayBe_15 : decode c_M_mayBe 15 = .ok (.iload 4, 2) := by decide +kernel
theorem d_M_mayBe_17 : decode c_M_mayBe 17 = .ok (.iload_n 2, 1) := by decide +kernel
theorem d_M_mayBe_18 : decode c_M_mayBe 18 = .ok (.if_icmp .ge 33, 3) := by decide +kernel
theorem d_M_mayBe_21 : decode c_M_mayBe 21 = .ok (.aload_n 0, 1) := by decide +kernel
theorem d_M_mayBe_22 : decode c_M_mayBe 22 = .ok (.iload_n 1, 1) := by decide +kernel
theorem d_M_mayBe_23 : decode c_M_mayBe 23 = .ok (.iload 4, 2) := by decide +kernel
theorem d_M_mayBe_25 : decode c_M_mayBe 25 = .ok (.invokevirtual 57, 3) := by decide +kernel
theorem d_M_mayBe_28 : decode c_M_mayBe 28 = .ok (.aload_n 0, 1) := by decide +kernel
theorem d_M_mayBe_29 : decode c_M_mayBe 29 = .ok (.aload_n 0, 1) := by decide +kernel
theorem d_M_mayBe_30 : decode c_M_mayBe 30 = .ok (.getfield 42, 3) := by decide +kernel
theorem d_M_mayBe_33 : decode c_M_mayBe 33 = .ok (.iload 4, 2) := by decide +kernel
theorem d_M_mayBe_35 : decode c_M_mayBe 35 = .ok (.iaload, 1) := by decide +kernel
theorem d_M_mayBe_36 : decode c_M_mayBe 36 = .ok (.iload_n 2, 1) := by decide +kernel
theorem d_M_mayBe_37 : decode c_M_mayBe 37 = .ok (.invokevirtual 57, 3) := by decide +kernel
theorem d_M_mayBe_40 : decode c_M_mayBe 40 = .ok (.if_icmp .eq 5, 3) := by decide +kernel
theorem d_M_mayBe_43 : decode c_M_mayBe 43 = .ok (.iconst 0, 1) := by decide +kernel
theorem d_M_mayBe_44 : decode c_M_mayBe 44 = .ok (.ireturn, 1) := by decide +kernel
theorem d_M_mayBe_45 : decode c_M_mayBe 45 = .ok (.iinc 4 1, 3) := by decide +kernel
theorem d_M_mayBe_48 : decode c_M_mayBe 48 = .ok (.goto (-33), 3) := by decide +kernel
theorem d_M_mayBe_51 : decode c_M_mayBe 51 = .ok (.iconst 1, 1) := by decide +kernel
theorem d_M_mayBe_52 : decode c_M_mayBe 52 = .ok (.ireturn, 1) := by decide +kernel
abbrev w_M_mayBe : List Cond := mx_ws y_M_mayBe c_M_mayBe 5 (some .boolean)
abbrev rm_M_mayBe : Room := { frames := 20, cells := 0, slots := 0, locals := 400 }
def t_M_mayBe  (P : Option mx_V → mx_F → Prop) : List (Nat × mx_O) := [
  (0, mx_aload 0 1),
  (1, mx_get 7 5 4),
  (4, mx_iload 1 5),
  (5, mx_iald 6),
  (6, mx_iload 3 7),
  (7, mx_ic_eq 12 10),
  (10, mx_push (.inl (nI 0)) 11),
  (11, mx_zret P),
  (12, mx_push (.inl (nI 0)) 13),
  (13, mx_istore 4 15),
  (15, mx_iload 4 17),
  (17, mx_iload 2 18),
  (18, mx_ic_ge 51 21),
  (21, mx_aload 0 22),
  (22, mx_iload 1 23),
  (23, mx_iload 4 25),
  (25, mx_cv2 7 sp_M_at 0 0 28),
  (28, mx_aload 0 29),
  (29, mx_aload 0 30),
  (30, mx_get 7 16 33),
  (33, mx_iload 4 35),
  (35, mx_iald 36),
  (36, mx_iload 2 37),
  (37, mx_cv2 7 sp_M_at 0 0 40),
  (40, mx_ic_eq 45 43),
  (43, mx_push (.inl (nI 0)) 44),
  (44, mx_zret P),
  (45, mx_iinc 4 (nI 1) 48),
  (48, mx_goto 15),
  (51, mx_push (.inl (nI 1)) 52),
  (52, mx_zret P)]
set_option maxRecDepth 20000 in
theorem a_M_mayBe  {p : Program} {l : Launch} {e : Env} {s : State} {m : MethodId} {args : Array Value} {below : List Frame} {meth : Method} {c : Code} {D : va_G} {tc : Nat → ClassId} {tb : Nat → Nat} {sz : Nat} {a0 : Nat → Nat} {G : mx_F} {P : Option mx_V → mx_F → Prop}  (C : mx_C p s m args c c_M_mayBe y_M_mayBe.cls w_M_mayBe D tc tb (mx_A a0 G sz) 5 (mx_Ok0 a0 G)) (hr : meth.sig.returnType = (some .boolean)) (hlk : meth.locks = false) : mx_all (mx_W p l e rm_M_mayBe s m args below meth c (MQ below (mx_Q D tc tb a0 G sz P) args s 0 0 (mx_A a0 G sz)) D tc tb (mx_A a0 G sz) 5 (mx_Ok0 a0 G)) (t_M_mayBe  P) :=
  ⟨mx_s_aload_n C d_M_mayBe_0 rfl,
  mx_s_get (T := T_M) (N := 18) (k := 5) C (fun w h => List.mem_cons_of_mem _ (in_M w h)) rfl (by decide) (List.mem_cons_of_mem _ fk_M_16) rfl d_M_mayBe_1,
  mx_s_iload_n C d_M_mayBe_4 rfl,
  mx_s_iald C d_M_mayBe_5,
  mx_s_iload_n C d_M_mayBe_6 rfl,
  mx_s_ic_eq C d_M_mayBe_7 (by decide),
  mx_s_iconst C d_M_mayBe_10 (by decide),
  mx_s_zret C hr hlk d_M_mayBe_11,
  mx_s_iconst C d_M_mayBe_12 (by decide),
  mx_s_istore C d_M_mayBe_13 (by decide),
  mx_s_iload C d_M_mayBe_15,
  mx_s_iload_n C d_M_mayBe_17 rfl,
  mx_s_ic_ge C d_M_mayBe_18 (by decide),
  mx_s_aload_n C d_M_mayBe_21 rfl,
  mx_s_iload_n C d_M_mayBe_22 rfl,
  mx_s_iload C d_M_mayBe_23,
  mx_s_cv2 C (m_M_at l) rfl (cwV 2 C.2.2.2.2.1 (mx_gV (fun w h => List.mem_cons_of_mem _ h) mk_M_57 im_M_at se_M_at ic_M co_M_at) rfl rfl rfl (by decide +kernel) ⟨by decide, by decide⟩) d_M_mayBe_25 ⟨Nat.zero_le _, Nat.zero_le _⟩,
  mx_s_aload_n C d_M_mayBe_28 rfl,
  mx_s_aload_n C d_M_mayBe_29 rfl,
  mx_s_get (T := T_M) (N := 18) (k := 16) C (fun w h => List.mem_cons_of_mem _ (in_M w h)) rfl (by decide) (List.mem_cons_of_mem _ fk_M_42) rfl d_M_mayBe_30,
  mx_s_iload C d_M_mayBe_33,
  mx_s_iald C d_M_mayBe_35,
  mx_s_iload_n C d_M_mayBe_36 rfl,
  mx_s_cv2 C (m_M_at l) rfl (cwV 2 C.2.2.2.2.1 (mx_gV (fun w h => List.mem_cons_of_mem _ h) mk_M_57 im_M_at se_M_at ic_M co_M_at) rfl rfl rfl (by decide +kernel) ⟨by decide, by decide⟩) d_M_mayBe_37 ⟨Nat.zero_le _, Nat.zero_le _⟩,
  mx_s_ic_eq C d_M_mayBe_40 (by decide),
  mx_s_iconst C d_M_mayBe_43 (by decide),
  mx_s_zret C hr hlk d_M_mayBe_44,
  mx_s_iinc C d_M_mayBe_45 (by decide) (by decide),
  mx_s_goto C d_M_mayBe_48 (by decide),
  mx_s_iconst C d_M_mayBe_51 (by decide),
  mx_s_zret C hr hlk d_M_mayBe_52,
  trivial⟩
set_option maxRecDepth 20000 in
set_option maxHeartbeats 2000000 in
theorem m_M_mayBe (l : Launch) : mx_M l y_M_mayBe w_M_mayBe rm_M_mayBe sp_M_mayBe := by
  intro zD ztc ztb zad As F P sz0 h
  obtain ⟨th, sz, sp, wy, kp, sd, n, N, ch, lt, ml, li, p, j, k, m, rfl, h2, h3, h0, h50, hw, hj, hk, hm, hp, ho, hz⟩ := h
  refine mx_run (cc := c_M_mayBe) (maxL := 5) (ret := (some .boolean)) (tab := t_M_mayBe  P) (by decide) rfl zD ztc ztb zad _ F P sz0 (Nat.le_of_ble_eq_true rfl) (fun p e s m args below meth c C hr hlk => a_M_mayBe  C hr hlk) ?_
  intro Rr go
  have hF := mx_as4 h2 h3 h0 h50
  rw [hF]
  have hn := hw.1.1
  have hN := hw.2.1.2.1 j hj
  refine go rfl ⟨_, rfl, ?_⟩
  refine go rfl ⟨_, _, _, _, rfl, rfl, rfl, ?_⟩
  refine go rfl ⟨_, rfl, ?_⟩
  refine go rfl ⟨_, _, _, _, _, rfl, rfl, (vp_in_nI (show j < 60 by omega) (by omega)), ?_⟩
  rw [vr_loadlen hw hj]
  refine go rfl ⟨_, rfl, ?_⟩
  refine go rfl ⟨_, _, _, rfl, fun c1 => ?_, fun c1 => ?_⟩
  rotate_left
  · refine go rfl ?_
    refine go rfl ⟨_, rfl, rfl, rfl, (Or.inl rfl), ?_⟩
    rw [← hF]
    exact hz (fun h => c1 (by rw [h.1]))
  have hNj : N j = m := (nI_eq (by omega) (by omega)).mp c1
  have loop : ∀ (r i : Nat), i + r = k → (∀ q, q < i → ch j q = ch (p q) k) → Rr 15 [some (mx_r 40), some (mx_i (nI j)), some (mx_i (nI k)), some (mx_i (nI m)), some (mx_i (nI i))] [] (mx_put (mx_put (mx_put (mx_put F 42 (mx_ia 360 lt)) 43 (mx_ia 60 ml)) 40 (e_M th sz (nI n) sp wy kp sd)) 50 (mx_ia 6 li)) 0 0 := by
    intro r
    induction r with
    | zero =>
      intro i hi hq
      refine go rfl ⟨_, rfl, ?_⟩
      refine go rfl ⟨_, rfl, ?_⟩
      refine go rfl ⟨_, _, _, rfl, fun c => ?_, fun c => ?_⟩
      · refine go rfl ?_
        refine go rfl ⟨_, rfl, rfl, rfl, (Or.inr rfl), ?_⟩
        rw [← hF]
        exact ho ⟨hNj, fun q hq2 => hq q (by omega)⟩
      · exact absurd (nI_le (by omega) (by omega)) c
    | succ r ih =>
      intro i hi hq
      obtain ⟨e1, e2, e3⟩ := hp i (by omega)
      refine go rfl ⟨_, rfl, ?_⟩
      refine go rfl ⟨_, rfl, ?_⟩
      refine go rfl ⟨_, _, _, rfl, fun c => ?_, fun c => ?_⟩
      · exact absurd ((nI_leI (by omega) (by omega)).mp c) (by omega)
      refine go rfl ⟨_, rfl, ?_⟩
      refine go rfl ⟨_, rfl, ?_⟩
      refine go rfl ⟨_, rfl, ?_⟩
      refine go rfl ⟨_, _, _, _, _, rfl, rfl, rfl, rfl, rfl, u_at hw hj (show i < N j by omega) rfl rfl ?_⟩
      refine go rfl ⟨_, rfl, ?_⟩
      refine go rfl ⟨_, rfl, ?_⟩
      refine go rfl ⟨_, _, _, _, rfl, rfl, rfl, ?_⟩
      refine go rfl ⟨_, rfl, ?_⟩
      refine go rfl ⟨_, _, _, _, _, rfl, rfl, (vp_in_nI (show i < 6 by omega) (by omega)), ?_⟩
      rw [nI_clamp (by omega), e1]
      refine go rfl ⟨_, rfl, ?_⟩
      refine go rfl ⟨_, _, _, _, _, rfl, rfl, rfl, rfl, rfl, u_at hw e2 (show k < N (p i) by omega) rfl rfl ?_⟩
      refine go rfl ⟨_, _, _, rfl, fun e => ?_, fun e => ?_⟩
      · refine go rfl ⟨_, rfl, ?_⟩
        refine go rfl ?_
        rw [nI_add]
        refine ih (i + 1) (by omega) (fun q hq2 => ?_)
        rcases Nat.lt_or_ge q i with w | w
        · exact hq q w
        · rw [show q = i by omega]
          exact e
      · refine go rfl ?_
        refine go rfl ⟨_, rfl, rfl, rfl, (Or.inl rfl), ?_⟩
        rw [← hF]
        exact hz (fun h => e (h.2 i (by omega)))
  refine go rfl ?_
  refine go rfl ⟨_, _, rfl, ?_⟩
  exact loop k 0 (by omega) (fun q hq => absurd hq (Nat.not_lt_zero q))
-- LadderWordsModel.square(I)Z
def sp_M_square : mx_Sp := fun As F P => ∃ (th sz sp : Int32) (wy : Int64) (kp sd : Int32) (n : Nat) (N : Nat → Nat) (ch : Nat → Nat → Int32) (lt ml : Nat → Int32) (ls : Nat → Int32) (x : Int32), As = [mx_r 40, mx_i x] ∧ F 42 = some (mx_ia 360 lt) ∧ F 43 = some (mx_ia 60 ml) ∧ F 40 = some (e_M th sz (nI n) sp wy kp sd) ∧ F 50 = some (mx_ia 6 ls) ∧ mst n N ch lt ml ∧ ((¬ ∃ m : Nat, 2 ≤ m ∧ m ≤ 5 ∧ x = nI m) → P (some (mx_i (nI 0))) (mx_put F 40 (e_M (nI 0) sz (nI n) sp wy kp (nI 0)))) ∧ (∀ m : Nat, 2 ≤ m → m ≤ 5 → x = nI m → (sr n N ch m m 0 (fun i => i) = none → ∀ ls', P (some (mx_i (nI 0))) (mx_put (mx_put F 40 (e_M (nI 0) sz (nI n) sp wy kp (nI 0))) 50 (mx_ia 6 ls'))) ∧ (∀ r, sr n N ch m m 0 (fun i => i) = some r → ∀ ls', (∀ i, i < m → ls' i = nI (r i)) → P (some (mx_i (nI 1))) (mx_put (mx_put F 40 (e_M (nI 0) sz (nI n) sp wy kp (nI m))) 50 (mx_ia 6 ls'))))
theorem d_M_square_0 : decode c_M_square 0 = .ok (.aload_n 0, 1) := by decide +kernel
theorem d_M_square_1 : decode c_M_square 1 = .ok (.iconst 0, 1) := by decide +kernel
theorem d_M_square_2 : decode c_M_square 2 = .ok (.putfield 48, 3) := by decide +kernel
theorem d_M_square_5 : decode c_M_square 5 = .ok (.aload_n 0, 1) := by decide +kernel
theorem d_M_square_6 : decode c_M_square 6 = .ok (.iconst 0, 1) := by decide +kernel
theorem d_M_square_7 : decode c_M_square 7 = .ok (.putfield 68, 3) := by decide +kernel
theorem d_M_square_10 : decode c_M_square 10 = .ok (.iload_n 1, 1) := by decide +kernel
theorem d_M_square_11 : decode c_M_square 11 = .ok (.iconst 2, 1) := by decide +kernel
theorem d_M_square_12 : decode c_M_square 12 = .ok (.if_icmp .lt 8, 3) := by decide +kernel
theorem d_M_square_15 : decode c_M_square 15 = .ok (.iload_n 1, 1) := by decide +kernel
theorem d_M_square_16 : decode c_M_square 16 = .ok (.iconst 5, 1) := by decide +kernel
theorem d_M_square_17 : decode c_M_square 17 = .ok (.if_icmp .le 5, 3) := by decide +kernel
theorem d_M_square_20 : decode c_M_square 20 = .ok (.iconst 0, 1) := by decide +kernel
theorem d_M_square_21 : decode c_M_square 21 = .ok (.ireturn, 1) := by decide +kernel
theorem d_M_square_22 : decode c_M_square 22 = .ok (.iconst 0, 1) := by decide +kernel
theorem d_M_square_23 : decode c_M_square 23 = .ok (.istore_n 2, 1) := by decide +kernel
theorem d_M_square_24 : decode c_M_square 24 = .ok (.aload_n 0, 1) := by decide +kernel
theorem d_M_square_25 : decode c_M_square 25 = .ok (.getfield 42, 3) := by decide +kernel
theorem d_M_square_28 : decode c_M_square 28 = .ok (.iconst 0, 1) := by decide +kernel
theorem d_M_square_29 : decode c_M_square 29 = .ok (.iconst (-1), 1) := by decide +kernel
theorem d_M_square_30 : decode c_M_square 30 = .ok (.iastore, 1) := by decide +kernel
theorem d_M_square_31 : decode c_M_square 31 = .ok (.iload_n 2, 1) := by decide +kernel
theorem d_M_square_32 : decode c_M_square 32 = .ok (.ifCond .lt 91, 3) := by decide +kernel
theorem d_M_square_35 : decode c_M_square 35 = .ok (.iload_n 2, 1) := by decide +kernel
theorem d_M_square_36 : decode c_M_square 36 = .ok (.iload_n 1, 1) := by decide +kernel
theorem d_M_square_37 : decode c_M_square 37 = .ok (.if_icmp .ge 86, 3) := by decide +kernel
theorem d_M_square_40 : decode c_M_square 40 = .ok (.aload_n 0, 1) := by decide +kernel
theorem d_M_square_41 : decode c_M_square 41 = .ok (.getfield 42, 3) := by decide +kernel
theorem d_M_square_44 : decode c_M_square 44 = .ok (.iload_n 2, 1) := by decide +kernel
theorem d_M_square_45 : decode c_M_square 45 = .ok (.dup2, 1) := by decide +kernel
theorem d_M_square_46 : decode c_M_square 46 = .ok (.iaload, 1) := by decide +kernel
theorem d_M_square_47 : decode c_M_square 47 = .ok (.iconst 1, 1) := by decide +kernel
theorem d_M_square_48 : decode c_M_square 48 = .ok (.iadd, 1) := by decide +kernel
theorem d_M_square_49 : decode c_M_square 49 = .ok (.iastore, 1) := by decide +kernel
theorem d_M_square_50 : decode c_M_square 50 = .ok (.aload_n 0, 1) := by decide +kernel
theorem d_M_square_51 : decode c_M_square 51 = .ok (.getfield 42, 3) := by decide +kernel
theorem d_M_square_54 : decode c_M_square 54 = .ok (.iload_n 2, 1) := by decide +kernel
theorem d_M_square_55 : decode c_M_square 55 = .ok (.iaload, 1) := by decide +kernel
theorem d_M_square_56 : decode c_M_square 56 = .ok (.aload_n 0, 1) := by decide +kernel
theorem d_M_square_57 : decode c_M_square 57 = .ok (.getfield 51, 3) := by decide +kernel
theorem d_M_square_60 : decode c_M_square 60 = .ok (.if_icmp .ge 31, 3) := by decide +kernel
theorem d_M_square_63 : decode c_M_square 63 = .ok (.aload_n 0, 1) := by decide +kernel
theorem d_M_square_64 : decode c_M_square 64 = .ok (.aload_n 0, 1) := by decide +kernel
theorem d_M_square_65 : decode c_M_square 65 = .ok (.getfield 42, 3) := by decide +kernel
theorem d_M_square_68 : decode c_M_square 68 = .ok (.iload_n 2, 1) := by decide +kernel
theorem d_M_square_69 : decode c_M_square 69 = .ok (.iaload, 1) := by decide +kernel
theorem d_M_square_70 : decode c_M_square 70 = .ok (.iload_n 2, 1) := by decide +kernel
theorem d_M_square_71 : decode c_M_square 71 = .ok (.iload_n 1, 1) := by decide +kernel
theorem d_M_square_72 : decode c_M_square 72 = .ok (.invokevirtual 104, 3) := by decide +kernel
theorem d_M_square_75 : decode c_M_square 75 = .ok (.ifCond .ne 16, 3) := by decide +kernel
theorem d_M_square_78 : decode c_M_square 78 = .ok (.aload_n 0, 1) := by decide +kernel
theorem d_M_square_79 : decode c_M_square 79 = .ok (.getfield 42, 3) := by decide +kernel
theorem d_M_square_82 : decode c_M_square 82 = .ok (.iload_n 2, 1) := by decide +kernel
theorem d_M_square_83 : decode c_M_square 83 = .ok (.dup2, 1) := by decide +kernel
theorem d_M_square_84 : decode c_M_square 84 = .ok (.iaload, 1) := by decide +kernel
theorem d_M_square_85 : decode c_M_square 85 = .ok (.iconst 1, 1) := by decide +kernel
theorem d_M_square_86 : decode c_M_square 86 = .ok (.iadd, 1) := by decide +kernel
theorem d_M_square_87 : decode c_M_square 87 = .ok (.iastore, 1) := by decide +kernel
theorem d_M_square_88 : decode c_M_square 88 = .ok (.goto (-38), 3) := by decide +kernel
theorem d_M_square_91 : decode c_M_square 91 = .ok (.aload_n 0, 1) := by decide +kernel
theorem d_M_square_92 : decode c_M_square 92 = .ok (.getfield 42, 3) := by decide +kernel
theorem d_M_square_95 : decode c_M_square 95 = .ok (.iload_n 2, 1) := by decide +kernel
theorem d_M_square_96 : decode c_M_square 96 = .ok (.iaload, 1) := by decide +kernel
theorem d_M_square_97 : decode c_M_square 97 = .ok (.aload_n 0, 1) := by decide +kernel
theorem d_M_square_98 : decode c_M_square 98 = .ok (.getfield 51, 3) := by decide +kernel
theorem d_M_square_101 : decode c_M_square 101 = .ok (.if_icmp .ne 9, 3) := by decide +kernel
theorem d_M_square_104 : decode c_M_square 104 = .ok (.iinc 2 (-1), 3) := by decide +kernel
theorem d_M_square_107 : decode c_M_square 107 = .ok (.goto (-76), 3) := by decide +kernel
theorem d_M_square_110 : decode c_M_square 110 = .ok (.iinc 2 1, 3) := by decide +kernel
theorem d_M_square_113 : decode c_M_square 113 = .ok (.aload_n 0, 1) := by decide +kernel
theorem d_M_square_114 : decode c_M_square 114 = .ok (.getfield 42, 3) := by decide +kernel
theorem d_M_square_117 : decode c_M_square 117 = .ok (.iload_n 2, 1) := by decide +kernel
theorem d_M_square_118 : decode c_M_square 118 = .ok (.iconst (-1), 1) := by decide +kernel
theorem d_M_square_119 : decode c_M_square 119 = .ok (.iastore, 1) := by decide +kernel
theorem d_M_square_120 : decode c_M_square 120 = .ok (.goto (-89), 3) := by decide +kernel
theorem d_M_square_123 : decode c_M_square 123 = .ok (.aload_n 0, 1) := by decide +kernel
theorem d_M_square_124 : decode c_M_square 124 = .ok (.iload_n 2, 1) := by decide +kernel
theorem d_M_square_125 : decode c_M_square 125 = .ok (.ifCond .ge 7, 3) := by decide +kernel
theorem d_M_square_128 : decode c_M_square 128 = .ok (.iconst 0, 1) := by decide +kernel
theorem d_M_square_129 : decode c_M_square 129 = .ok (.goto 4, 3) := by decide +kernel
theorem d_M_square_132 : decode c_M_square 132 = .ok (.iload_n 1, 1) := by decide +kernel
theorem d_M_square_133 : decode c_M_square 133 = .ok (.putfield 68, 3) := by decide +kernel
theorem d_M_square_136 : decode c_M_square 136 = .ok (.iload_n 2, 1) := by decide +kernel
theorem d_M_square_137 : decode c_M_square 137 = .ok (.iload_n 1, 1) := by decide +kernel
theorem d_M_square_138 : decode c_M_square 138 = .ok (.if_icmp .ne 7, 3) := by decide +kernel
theorem d_M_square_141 : decode c_M_square 141 = .ok (.iconst 1, 1) := by decide +kernel
theorem d_M_square_142 : decode c_M_square 142 = .ok (.goto 4, 3) := by decide +kernel
theorem d_M_square_145 : decode c_M_square 145 = .ok (.iconst 0, 1) := by decide +kernel
theorem d_M_square_146 : decode c_M_square 146 = .ok (.ireturn, 1) := by decide +kernel
abbrev w_M_square : List Cond := mx_ws y_M_square c_M_square 3 (some .boolean)
abbrev rm_M_square : Room := { frames := 30, cells := 0, slots := 0, locals := 600 }
def t_M_square  (P : Option mx_V → mx_F → Prop) : List (Nat × mx_O) := [
  (0, mx_aload 0 1),
  (1, mx_push (.inl (nI 0)) 2),
  (2, mx_puti 7 0 5),
  (5, mx_aload 0 6),
  (6, mx_push (.inl (nI 0)) 7),
  (7, mx_puti 7 15 10),
  (10, mx_iload 1 11),
  (11, mx_push (.inl (nI 2)) 12),
  (12, mx_ic_lt 20 15),
  (15, mx_iload 1 16),
  (16, mx_push (.inl (nI 5)) 17),
  (17, mx_ic_le 22 20),
  (20, mx_push (.inl (nI 0)) 21),
  (21, mx_zret P),
  (22, mx_push (.inl (nI 0)) 23),
  (23, mx_istore 2 24),
  (24, mx_aload 0 25),
  (25, mx_get 7 16 28),
  (28, mx_push (.inl (nI 0)) 29),
  (29, mx_push (.inl (-1)) 30),
  (30, mx_iast 31),
  (31, mx_iload 2 32),
  (32, mx_if_lt 123 35),
  (35, mx_iload 2 36),
  (36, mx_iload 1 37),
  (37, mx_ic_ge 123 40),
  (40, mx_aload 0 41),
  (41, mx_get 7 16 44),
  (44, mx_iload 2 45),
  (45, mx_dup2 46),
  (46, mx_iald 47),
  (47, mx_push (.inl (nI 1)) 48),
  (48, mx_iadd 49),
  (49, mx_iast 50),
  (50, mx_aload 0 51),
  (51, mx_get 7 16 54),
  (54, mx_iload 2 55),
  (55, mx_iald 56),
  (56, mx_aload 0 57),
  (57, mx_get 7 3 60),
  (60, mx_ic_ge 91 63),
  (63, mx_aload 0 64),
  (64, mx_aload 0 65),
  (65, mx_get 7 16 68),
  (68, mx_iload 2 69),
  (69, mx_iald 70),
  (70, mx_iload 2 71),
  (71, mx_iload 1 72),
  (72, mx_cv3 7 sp_M_mayBe 0 0 75),
  (75, mx_if_ne 91 78),
  (78, mx_aload 0 79),
  (79, mx_get 7 16 82),
  (82, mx_iload 2 83),
  (83, mx_dup2 84),
  (84, mx_iald 85),
  (85, mx_push (.inl (nI 1)) 86),
  (86, mx_iadd 87),
  (87, mx_iast 88),
  (88, mx_goto 50),
  (91, mx_aload 0 92),
  (92, mx_get 7 16 95),
  (95, mx_iload 2 96),
  (96, mx_iald 97),
  (97, mx_aload 0 98),
  (98, mx_get 7 3 101),
  (101, mx_ic_ne 110 104),
  (104, mx_iinc 2 (-1) 107),
  (107, mx_goto 31),
  (110, mx_iinc 2 (nI 1) 113),
  (113, mx_aload 0 114),
  (114, mx_get 7 16 117),
  (117, mx_iload 2 118),
  (118, mx_push (.inl (-1)) 119),
  (119, mx_iast 120),
  (120, mx_goto 31),
  (123, mx_aload 0 124),
  (124, mx_iload 2 125),
  (125, mx_if_ge 132 128),
  (128, mx_push (.inl (nI 0)) 129),
  (129, mx_goto 133),
  (132, mx_iload 1 133),
  (133, mx_puti 7 15 136),
  (136, mx_iload 2 137),
  (137, mx_iload 1 138),
  (138, mx_ic_ne 145 141),
  (141, mx_push (.inl (nI 1)) 142),
  (142, mx_goto 146),
  (145, mx_push (.inl (nI 0)) 146),
  (146, mx_zret P)]
set_option maxRecDepth 20000 in
theorem a_M_square  {p : Program} {l : Launch} {e : Env} {s : State} {m : MethodId} {args : Array Value} {below : List Frame} {meth : Method} {c : Code} {D : va_G} {tc : Nat → ClassId} {tb : Nat → Nat} {sz : Nat} {a0 : Nat → Nat} {G : mx_F} {P : Option mx_V → mx_F → Prop}  (C : mx_C p s m args c c_M_square y_M_square.cls w_M_square D tc tb (mx_A a0 G sz) 3 (mx_Ok0 a0 G)) (hr : meth.sig.returnType = (some .boolean)) (hlk : meth.locks = false) : mx_all (mx_W p l e rm_M_square s m args below meth c (MQ below (mx_Q D tc tb a0 G sz P) args s 0 0 (mx_A a0 G sz)) D tc tb (mx_A a0 G sz) 3 (mx_Ok0 a0 G)) (t_M_square  P) :=
  ⟨mx_s_aload_n C d_M_square_0 rfl,
  mx_s_iconst C d_M_square_1 (by decide),
  mx_s_puti (T := T_M) (N := 18) (k := 0) C (fun w h => List.mem_cons_of_mem _ (in_M w h)) rfl ty_M ok_M nm_M (by decide) (List.mem_cons_of_mem _ fk_M_48) rfl rfl (ok_M 0 (by decide)) d_M_square_2,
  mx_s_aload_n C d_M_square_5 rfl,
  mx_s_iconst C d_M_square_6 (by decide),
  mx_s_puti (T := T_M) (N := 18) (k := 15) C (fun w h => List.mem_cons_of_mem _ (in_M w h)) rfl ty_M ok_M nm_M (by decide) (List.mem_cons_of_mem _ fk_M_68) rfl rfl (ok_M 15 (by decide)) d_M_square_7,
  mx_s_iload_n C d_M_square_10 rfl,
  mx_s_iconst C d_M_square_11 (by decide),
  mx_s_ic_lt C d_M_square_12 (by decide),
  mx_s_iload_n C d_M_square_15 rfl,
  mx_s_iconst C d_M_square_16 (by decide),
  mx_s_ic_le C d_M_square_17 (by decide),
  mx_s_iconst C d_M_square_20 (by decide),
  mx_s_zret C hr hlk d_M_square_21,
  mx_s_iconst C d_M_square_22 (by decide),
  mx_s_istore_n C d_M_square_23 rfl (by decide),
  mx_s_aload_n C d_M_square_24 rfl,
  mx_s_get (T := T_M) (N := 18) (k := 16) C (fun w h => List.mem_cons_of_mem _ (in_M w h)) rfl (by decide) (List.mem_cons_of_mem _ fk_M_42) rfl d_M_square_25,
  mx_s_iconst C d_M_square_28 (by decide),
  mx_s_iconst C d_M_square_29 (by decide),
  mx_s_iast C d_M_square_30,
  mx_s_iload_n C d_M_square_31 rfl,
  mx_s_if_lt C d_M_square_32 (by decide),
  mx_s_iload_n C d_M_square_35 rfl,
  mx_s_iload_n C d_M_square_36 rfl,
  mx_s_ic_ge C d_M_square_37 (by decide),
  mx_s_aload_n C d_M_square_40 rfl,
  mx_s_get (T := T_M) (N := 18) (k := 16) C (fun w h => List.mem_cons_of_mem _ (in_M w h)) rfl (by decide) (List.mem_cons_of_mem _ fk_M_42) rfl d_M_square_41,
  mx_s_iload_n C d_M_square_44 rfl,
  mx_s_dup2 C d_M_square_45,
  mx_s_iald C d_M_square_46,
  mx_s_iconst C d_M_square_47 (by decide),
  mx_s_iadd C d_M_square_48,
  mx_s_iast C d_M_square_49,
  mx_s_aload_n C d_M_square_50 rfl,
  mx_s_get (T := T_M) (N := 18) (k := 16) C (fun w h => List.mem_cons_of_mem _ (in_M w h)) rfl (by decide) (List.mem_cons_of_mem _ fk_M_42) rfl d_M_square_51,
  mx_s_iload_n C d_M_square_54 rfl,
  mx_s_iald C d_M_square_55,
  mx_s_aload_n C d_M_square_56 rfl,
  mx_s_get (T := T_M) (N := 18) (k := 3) C (fun w h => List.mem_cons_of_mem _ (in_M w h)) rfl (by decide) (List.mem_cons_of_mem _ fk_M_51) rfl d_M_square_57,
  mx_s_ic_ge C d_M_square_60 (by decide),
  mx_s_aload_n C d_M_square_63 rfl,
  mx_s_aload_n C d_M_square_64 rfl,
  mx_s_get (T := T_M) (N := 18) (k := 16) C (fun w h => List.mem_cons_of_mem _ (in_M w h)) rfl (by decide) (List.mem_cons_of_mem _ fk_M_42) rfl d_M_square_65,
  mx_s_iload_n C d_M_square_68 rfl,
  mx_s_iald C d_M_square_69,
  mx_s_iload_n C d_M_square_70 rfl,
  mx_s_iload_n C d_M_square_71 rfl,
  mx_s_cv3 C (m_M_mayBe l) rfl (cwV 3 C.2.2.2.2.1 (mx_gV (fun w h => List.mem_cons_of_mem _ h) mk_M_104 im_M_mayBe se_M_mayBe ic_M co_M_mayBe) rfl rfl rfl (by decide +kernel) ⟨by decide, by decide⟩) d_M_square_72 ⟨Nat.zero_le _, Nat.zero_le _⟩,
  mx_s_if_ne C d_M_square_75 (by decide),
  mx_s_aload_n C d_M_square_78 rfl,
  mx_s_get (T := T_M) (N := 18) (k := 16) C (fun w h => List.mem_cons_of_mem _ (in_M w h)) rfl (by decide) (List.mem_cons_of_mem _ fk_M_42) rfl d_M_square_79,
  mx_s_iload_n C d_M_square_82 rfl,
  mx_s_dup2 C d_M_square_83,
  mx_s_iald C d_M_square_84,
  mx_s_iconst C d_M_square_85 (by decide),
  mx_s_iadd C d_M_square_86,
  mx_s_iast C d_M_square_87,
  mx_s_goto C d_M_square_88 (by decide),
  mx_s_aload_n C d_M_square_91 rfl,
  mx_s_get (T := T_M) (N := 18) (k := 16) C (fun w h => List.mem_cons_of_mem _ (in_M w h)) rfl (by decide) (List.mem_cons_of_mem _ fk_M_42) rfl d_M_square_92,
  mx_s_iload_n C d_M_square_95 rfl,
  mx_s_iald C d_M_square_96,
  mx_s_aload_n C d_M_square_97 rfl,
  mx_s_get (T := T_M) (N := 18) (k := 3) C (fun w h => List.mem_cons_of_mem _ (in_M w h)) rfl (by decide) (List.mem_cons_of_mem _ fk_M_51) rfl d_M_square_98,
  mx_s_ic_ne C d_M_square_101 (by decide),
  mx_s_iinc C d_M_square_104 (by decide) (by decide),
  mx_s_goto C d_M_square_107 (by decide),
  mx_s_iinc C d_M_square_110 (by decide) (by decide),
  mx_s_aload_n C d_M_square_113 rfl,
  mx_s_get (T := T_M) (N := 18) (k := 16) C (fun w h => List.mem_cons_of_mem _ (in_M w h)) rfl (by decide) (List.mem_cons_of_mem _ fk_M_42) rfl d_M_square_114,
  mx_s_iload_n C d_M_square_117 rfl,
  mx_s_iconst C d_M_square_118 (by decide),
  mx_s_iast C d_M_square_119,
  mx_s_goto C d_M_square_120 (by decide),
  mx_s_aload_n C d_M_square_123 rfl,
  mx_s_iload_n C d_M_square_124 rfl,
  mx_s_if_ge C d_M_square_125 (by decide),
  mx_s_iconst C d_M_square_128 (by decide),
  mx_s_goto C d_M_square_129 (by decide),
  mx_s_iload_n C d_M_square_132 rfl,
  mx_s_puti (T := T_M) (N := 18) (k := 15) C (fun w h => List.mem_cons_of_mem _ (in_M w h)) rfl ty_M ok_M nm_M (by decide) (List.mem_cons_of_mem _ fk_M_68) rfl rfl (ok_M 15 (by decide)) d_M_square_133,
  mx_s_iload_n C d_M_square_136 rfl,
  mx_s_iload_n C d_M_square_137 rfl,
  mx_s_ic_ne C d_M_square_138 (by decide),
  mx_s_iconst C d_M_square_141 (by decide),
  mx_s_goto C d_M_square_142 (by decide),
  mx_s_iconst C d_M_square_145 (by decide),
  mx_s_zret C hr hlk d_M_square_146,
  trivial⟩
set_option maxRecDepth 20000 in
set_option maxHeartbeats 2000000 in
theorem m_M_square (l : Launch) : mx_M l y_M_square w_M_square rm_M_square sp_M_square := by
  intro zD ztc ztb zad As F P sz0 h
  obtain ⟨th, sz, sp, wy, kp, sd, n, N, ch, lt, ml, ls, x, rfl, h2, h3, h0, h50, hw, hz, ho⟩ := h
  refine mx_run (cc := c_M_square) (maxL := 3) (ret := (some .boolean)) (tab := t_M_square  P) (by decide) rfl zD ztc ztb zad _ F P sz0 (Nat.le_of_ble_eq_true rfl) (fun p e s m args below meth c C hr hlk => a_M_square  C hr hlk) ?_
  intro Rr go
  have hF : F = mx_put (mx_put (mx_put (mx_put F 42 (mx_ia 360 lt)) 43 (mx_ia 60 ml)) 40 (e_M th sz (nI n) sp wy kp sd)) 50 (mx_ia 6 ls) := by rw [mx_self h2, mx_self h3, mx_self h0, mx_self h50]
  have hB : (mx_put (mx_put F 42 (mx_ia 360 lt)) 43 (mx_ia 60 ml)) = F := by rw [mx_self h2, mx_self h3]
  have hn := hw.1.1
  rw [hF]
  refine go rfl ⟨_, rfl, ?_⟩
  refine go rfl ?_
  refine go rfl ⟨_, _, _, _, rfl, rfl, (Nat.le_of_ble_eq_true rfl), ?_⟩
  refine go rfl ⟨_, rfl, ?_⟩
  refine go rfl ?_
  refine go rfl ⟨_, _, _, _, rfl, rfl, (Nat.le_of_ble_eq_true rfl), ?_⟩
  rw [mx_pc _ _ _ (show (40 : Nat) ≠ 50 by decide), mx_pp, mx_pc _ _ _ (show (40 : Nat) ≠ 50 by decide), mx_pp]
  have bad : (¬ ∃ m : Nat, 2 ≤ m ∧ m ≤ 5 ∧ x = nI m) → Rr 20 (mx_en [mx_r 40, mx_i x] 3) [] (mx_put (mx_put (mx_put (mx_put F 42 (mx_ia 360 lt)) 43 (mx_ia 60 ml)) 40 (e_M (nI 0) sz (nI n) sp wy kp (nI 0))) 50 (mx_ia 6 ls)) 0 0 := by
    intro h
    refine go rfl ?_
    refine go rfl ⟨_, rfl, rfl, rfl, (Or.inl rfl), ?_⟩
    rw [mx_pc _ _ _ (show (50 : Nat) ≠ 40 by decide), hB, mx_self h50]
    exact hz h
  refine go rfl ⟨_, rfl, ?_⟩
  refine go rfl ?_
  refine go rfl ⟨_, _, _, rfl, fun c1 => ?_, fun c1 => ?_⟩
  · refine bad ?_
    rintro ⟨m, q1, q2, rfl⟩
    exact absurd ((nI_ltI (by omega) (by omega)).mp c1) (by omega)
  refine go rfl ⟨_, rfl, ?_⟩
  refine go rfl ?_
  refine go rfl ⟨_, _, _, rfl, fun c2 => ?_, fun c2 => ?_⟩
  rotate_left
  · refine bad ?_
    rintro ⟨m, q1, q2, rfl⟩
    exact c2 (nI_le q2 (by omega))
  have hx0 : ¬ x < 0 := by
    intro h
    refine c1 ?_
    rw [Int32.lt_iff_toInt_lt] at h ⊢
    rw [nI_toInt (by omega)]
    have : (0 : Int32).toInt = 0 := by decide
    omega
  obtain ⟨m, hm, rfl⟩ := nI_of hx0
  have hm2 : 2 ≤ m := by
    rcases Nat.lt_or_ge m 2 with q | q
    · exact absurd (nI_lt q (by omega)) c1
    · exact q
  have hm5 : m ≤ 5 := (nI_leI (by omega) (by omega)).mp c2
  have ho := ho m hm2 hm5 rfl
  have up : ∀ (k v : Nat) (p : Nat → Nat), k < m → (∀ ls' : Nat → Int32, (∀ i, i < k → ls' i = nI (p i)) → ls' k = nI v → Rr 50 [some (mx_r 40), some (mx_i (nI m)), some (mx_i (nI k))] [] (mx_put (mx_put (mx_put (mx_put F 42 (mx_ia 360 lt)) 43 (mx_ia 60 ml)) 40 (e_M (nI 0) sz (nI n) sp wy kp (nI 0))) 50 (mx_ia 6 ls')) 0 0) → (∀ ls' : Nat → Int32, (∀ i, i < k → ls' i = nI (p i)) → ls' k + nI 1 = nI v → Rr 31 [some (mx_r 40), some (mx_i (nI m)), some (mx_i (nI k))] [] (mx_put (mx_put (mx_put (mx_put F 42 (mx_ia 360 lt)) 43 (mx_ia 60 ml)) 40 (e_M (nI 0) sz (nI n) sp wy kp (nI 0))) 50 (mx_ia 6 ls')) 0 0) := by
    intro k v p hk hs ls' h1 h2
    refine go rfl ⟨_, rfl, ?_⟩
    refine go rfl ⟨_, _, rfl, fun c => ?_, fun c => ?_⟩
    · exact absurd c (nI_pos (by omega))
    refine go rfl ⟨_, rfl, ?_⟩
    refine go rfl ⟨_, rfl, ?_⟩
    refine go rfl ⟨_, _, _, rfl, fun c3 => ?_, fun c3 => ?_⟩
    · exact absurd ((nI_leI (by omega) (by omega)).mp c3) (by omega)
    refine go rfl ⟨_, rfl, ?_⟩
    refine go rfl ⟨_, _, _, _, rfl, rfl, rfl, ?_⟩
    refine go rfl ⟨_, rfl, ?_⟩
    refine go rfl ⟨_, _, _, rfl, rfl, rfl, ?_⟩
    refine go rfl ⟨_, _, _, _, _, rfl, rfl, (vp_in_nI (show k < 6 by omega) (by omega)), ?_⟩
    rw [nI_clamp (show k < 2 ^ 31 by omega)]
    refine go rfl ?_
    refine go rfl ⟨_, _, _, rfl, ?_⟩
    rw [h2]
    refine go rfl ⟨_, _, _, _, _, _, rfl, rfl, (vp_in_nI (show k < 6 by omega) (by omega)), ?_⟩
    rw [nI_clamp (show k < 2 ^ 31 by omega), mx_pp]
    refine hs _ (fun i hi => ?_) pk_us
    rw [pk_un (by omega)]
    exact h1 i hi

  have fin : ∀ (ls' : Nat → Int32) (x : Nat → Nat), sr n N ch m m 0 (fun i => i) = some x → (∀ i, i < m → ls' i = nI (x i)) → Rr 31 [some (mx_r 40), some (mx_i (nI m)), some (mx_i (nI m))] [] (mx_put (mx_put (mx_put (mx_put F 42 (mx_ia 360 lt)) 43 (mx_ia 60 ml)) 40 (e_M (nI 0) sz (nI n) sp wy kp (nI 0))) 50 (mx_ia 6 ls')) 0 0 := by
    intro ls' x ex hx
    refine go rfl ⟨_, rfl, ?_⟩
    refine go rfl ⟨_, _, rfl, fun c => ?_, fun c => ?_⟩
    · exact absurd c (nI_pos (by omega))
    refine go rfl ⟨_, rfl, ?_⟩
    refine go rfl ⟨_, rfl, ?_⟩
    refine go rfl ⟨_, _, _, rfl, fun c3 => ?_, fun c3 => ?_⟩
    rotate_left
    · exact absurd (nI_le (by omega) (by omega)) c3
    refine go rfl ⟨_, rfl, ?_⟩
    refine go rfl ⟨_, rfl, ?_⟩
    refine go rfl ⟨_, _, rfl, fun c4 => ?_, fun c4 => ?_⟩
    rotate_left
    · exact absurd (nI_pos' (by omega)) c4
    refine go rfl ⟨_, rfl, ?_⟩
    refine go rfl ⟨_, _, _, _, rfl, rfl, (Nat.le_of_ble_eq_true rfl), ?_⟩
    refine go rfl ⟨_, rfl, ?_⟩
    refine go rfl ⟨_, rfl, ?_⟩
    refine go rfl ⟨_, _, _, rfl, fun c5 => ?_, fun c5 => ?_⟩
    · exact absurd rfl c5
    refine go rfl ?_
    refine go rfl ?_
    refine go rfl ⟨_, rfl, rfl, rfl, (Or.inr rfl), ?_⟩
    rw [mx_pc _ _ _ (show (40 : Nat) ≠ 50 by decide), mx_pp, hB]
    exact ho.2 x ex ls' hx
  have none_ : sr n N ch m m 0 (fun i => i) = none → (∀ ls' : Nat → Int32, (∀ i, i < 0 → ls' i = nI ((fun i => i) i)) → Rr 31 [some (mx_r 40), some (mx_i (nI m)), some (mx_i (nI 0 + (-1)))] [] (mx_put (mx_put (mx_put (mx_put F 42 (mx_ia 360 lt)) 43 (mx_ia 60 ml)) 40 (e_M (nI 0) sz (nI n) sp wy kp (nI 0))) 50 (mx_ia 6 ls')) 0 0) := by
    intro ex ls' _
    refine go rfl ⟨_, rfl, ?_⟩
    refine go rfl ⟨_, _, rfl, fun c => ?_, fun c => ?_⟩
    rotate_left
    · exact absurd (by decide) c
    refine go rfl ⟨_, rfl, ?_⟩
    refine go rfl ⟨_, rfl, ?_⟩
    refine go rfl ⟨_, _, rfl, fun c4 => ?_, fun c4 => ?_⟩
    · exact absurd c4 (by decide)
    refine go rfl ?_
    refine go rfl ?_
    refine go rfl ⟨_, _, _, _, rfl, rfl, (Nat.le_of_ble_eq_true rfl), ?_⟩
    refine go rfl ⟨_, rfl, ?_⟩
    refine go rfl ⟨_, rfl, ?_⟩
    refine go rfl ⟨_, _, _, rfl, fun c5 => ?_, fun c5 => ?_⟩
    rotate_left
    · exact absurd c5.symm (nI_m1 (by omega))
    refine go rfl ?_
    refine go rfl ⟨_, rfl, rfl, rfl, (Or.inl rfl), ?_⟩
    rw [mx_pc _ _ _ (show (40 : Nat) ≠ 50 by decide), mx_pp, hB]
    exact ho.1 ex ls'

  have one : ∀ (k v : Nat) (p : Nat → Nat), k < m → v ≤ n → (∀ i, i < k → p i < n ∧ N (p i) = m) → (v = n → (∀ ls' : Nat → Int32, (∀ i, i < k → ls' i = nI (p i)) → Rr 31 [some (mx_r 40), some (mx_i (nI m)), some (mx_i (nI k + (-1)))] [] (mx_put (mx_put (mx_put (mx_put F 42 (mx_ia 360 lt)) 43 (mx_ia 60 ml)) 40 (e_M (nI 0) sz (nI n) sp wy kp (nI 0))) 50 (mx_ia 6 ls')) 0 0)) → (v < n → ¬ cand N ch m k p v → (∀ ls' : Nat → Int32, (∀ i, i < k → ls' i = nI (p i)) → ls' k = nI (v + 1) → Rr 50 [some (mx_r 40), some (mx_i (nI m)), some (mx_i (nI k))] [] (mx_put (mx_put (mx_put (mx_put F 42 (mx_ia 360 lt)) 43 (mx_ia 60 ml)) 40 (e_M (nI 0) sz (nI n) sp wy kp (nI 0))) 50 (mx_ia 6 ls')) 0 0)) → (v < n → N v = m → (∀ i, i < k → ch v i = ch (p i) k) → (∀ ls' : Nat → Int32, (∀ i, i < (k + 1) → ls' i = nI ((pu p k v) i)) → ls' (k + 1) + nI 1 = nI 0 → Rr 31 [some (mx_r 40), some (mx_i (nI m)), some (mx_i (nI (k + 1)))] [] (mx_put (mx_put (mx_put (mx_put F 42 (mx_ia 360 lt)) 43 (mx_ia 60 ml)) 40 (e_M (nI 0) sz (nI n) sp wy kp (nI 0))) 50 (mx_ia 6 ls')) 0 0)) → (∀ ls' : Nat → Int32, (∀ i, i < k → ls' i = nI (p i)) → ls' k = nI v → Rr 50 [some (mx_r 40), some (mx_i (nI m)), some (mx_i (nI k))] [] (mx_put (mx_put (mx_put (mx_put F 42 (mx_ia 360 lt)) 43 (mx_ia 60 ml)) 40 (e_M (nI 0) sz (nI n) sp wy kp (nI 0))) 50 (mx_ia 6 ls')) 0 0) := by
    intro k v p hk hv hpn hback hnext hdeep ls' h1 h2
    refine go rfl ⟨_, rfl, ?_⟩
    refine go rfl ⟨_, _, _, _, rfl, rfl, rfl, ?_⟩
    refine go rfl ⟨_, rfl, ?_⟩
    refine go rfl ⟨_, _, _, _, _, rfl, rfl, (vp_in_nI (show k < 6 by omega) (by omega)), ?_⟩
    rw [nI_clamp (show k < 2 ^ 31 by omega), h2]
    refine go rfl ⟨_, rfl, ?_⟩
    refine go rfl ⟨_, _, _, _, rfl, rfl, rfl, ?_⟩
    rcases Nat.lt_or_ge v n with hvn | hvn
    rotate_left
    · refine go rfl ⟨_, _, _, rfl, fun e => ?_, fun e => ?_⟩
      rotate_left
      · exact absurd (nI_le (by omega) (by omega)) e
      refine go rfl ⟨_, rfl, ?_⟩
      refine go rfl ⟨_, _, _, _, rfl, rfl, rfl, ?_⟩
      refine go rfl ⟨_, rfl, ?_⟩
      refine go rfl ⟨_, _, _, _, _, rfl, rfl, (vp_in_nI (show k < 6 by omega) (by omega)), ?_⟩
      rw [nI_clamp (show k < 2 ^ 31 by omega), h2]
      refine go rfl ⟨_, rfl, ?_⟩
      refine go rfl ⟨_, _, _, _, rfl, rfl, rfl, ?_⟩
      refine go rfl ⟨_, _, _, rfl, fun e2 => ?_, fun e2 => ?_⟩
      · exact absurd (by rw [show v = n by omega]) e2
      refine go rfl ⟨_, rfl, ?_⟩
      refine go rfl ?_
      exact hback (by omega) ls' h1
    refine go rfl ⟨_, _, _, rfl, fun e => ?_, fun e => ?_⟩
    · exact absurd ((nI_leI (by omega) (by omega)).mp e) (by omega)
    refine go rfl ⟨_, rfl, ?_⟩
    refine go rfl ⟨_, rfl, ?_⟩
    refine go rfl ⟨_, _, _, _, rfl, rfl, rfl, ?_⟩
    refine go rfl ⟨_, rfl, ?_⟩
    refine go rfl ⟨_, _, _, _, _, rfl, rfl, (vp_in_nI (show k < 6 by omega) (by omega)), ?_⟩
    rw [nI_clamp (show k < 2 ^ 31 by omega), h2]
    refine go rfl ⟨_, rfl, ?_⟩
    refine go rfl ⟨_, rfl, ?_⟩
    refine go rfl ⟨_, _, _, _, _, _, rfl, rfl, rfl, rfl, rfl, ⟨_, _, _, _, _, _, n, N, ch, lt, ml, ls', p, v, k, m, rfl, rfl, rfl, rfl, rfl, hw, hvn, hk, hm5, fun i hi => ⟨h1 i hi, hpn i hi⟩, fun hs => ?_, fun hs => ?_⟩⟩
    · refine go rfl ⟨_, _, rfl, fun e2 => ?_, fun e2 => ?_⟩
      rotate_left
      · exact absurd e2 (by decide)
      refine go rfl ⟨_, rfl, ?_⟩
      refine go rfl ⟨_, _, _, _, rfl, rfl, rfl, ?_⟩
      refine go rfl ⟨_, rfl, ?_⟩
      refine go rfl ⟨_, _, _, _, _, rfl, rfl, (vp_in_nI (show k < 6 by omega) (by omega)), ?_⟩
      rw [nI_clamp (show k < 2 ^ 31 by omega), h2]
      refine go rfl ⟨_, rfl, ?_⟩
      refine go rfl ⟨_, _, _, _, rfl, rfl, rfl, ?_⟩
      refine go rfl ⟨_, _, _, rfl, fun e3 => ?_, fun e3 => ?_⟩
      rotate_left
      · have := (nI_eq (by omega) (by omega)).mp e3
        omega
      refine go rfl ⟨_, rfl, ?_⟩
      rw [nI_add]
      refine go rfl ⟨_, rfl, ?_⟩
      refine go rfl ⟨_, _, _, _, rfl, rfl, rfl, ?_⟩
      refine go rfl ⟨_, rfl, ?_⟩
      refine go rfl ?_
      refine go rfl ⟨_, _, _, _, _, _, rfl, rfl, (vp_in_nI (show k + 1 < 6 by omega) (by omega)), ?_⟩
      rw [nI_clamp (show k + 1 < 2 ^ 31 by omega), mx_pp]
      refine go rfl ?_
      refine hdeep hvn hs.1 hs.2 _ (fun i hi => ?_) (by rw [pk_us]; decide)
      rw [pk_un (by omega)]
      by_cases e4 : i = k
      · rw [e4, pu_s, h2]
      · rw [pu_n e4]
        exact h1 i (by omega)
    · refine go rfl ⟨_, _, rfl, fun e2 => ?_, fun e2 => ?_⟩
      · exact absurd rfl e2
      refine go rfl ⟨_, rfl, ?_⟩
      refine go rfl ⟨_, _, _, _, rfl, rfl, rfl, ?_⟩
      refine go rfl ⟨_, rfl, ?_⟩
      refine go rfl ⟨_, _, _, rfl, rfl, rfl, ?_⟩
      refine go rfl ⟨_, _, _, _, _, rfl, rfl, (vp_in_nI (show k < 6 by omega) (by omega)), ?_⟩
      rw [nI_clamp (show k < 2 ^ 31 by omega), h2]
      refine go rfl ?_
      refine go rfl ⟨_, _, _, rfl, ?_⟩
      rw [nI_add]
      refine go rfl ⟨_, _, _, _, _, _, rfl, rfl, (vp_in_nI (show k < 6 by omega) (by omega)), ?_⟩
      refine go rfl ?_
      rw [nI_clamp (show k < 2 ^ 31 by omega), mx_pp]
      refine hnext hvn hs _ (fun i hi => ?_) pk_us
      rw [pk_un (by omega)]
      exact h1 i hi

  have all : ∀ (q k : Nat) (p : Nat → Nat), k + q + 1 = m → (∀ i, i < k → p i < n ∧ N (p i) = m) → ∀ (r v : Nat), v + r = n → (∀ x, scf (sv n N ch m q k p) v r = some x → sr n N ch m m 0 (fun i => i) = some x) → (scf (sv n N ch m q k p) v r = none → (∀ ls' : Nat → Int32, (∀ i, i < k → ls' i = nI (p i)) → Rr 31 [some (mx_r 40), some (mx_i (nI m)), some (mx_i (nI k + (-1)))] [] (mx_put (mx_put (mx_put (mx_put F 42 (mx_ia 360 lt)) 43 (mx_ia 60 ml)) 40 (e_M (nI 0) sz (nI n) sp wy kp (nI 0))) 50 (mx_ia 6 ls')) 0 0)) → (∀ ls' : Nat → Int32, (∀ i, i < k → ls' i = nI (p i)) → ls' k = nI v → Rr 50 [some (mx_r 40), some (mx_i (nI m)), some (mx_i (nI k))] [] (mx_put (mx_put (mx_put (mx_put F 42 (mx_ia 360 lt)) 43 (mx_ia 60 ml)) 40 (e_M (nI 0) sz (nI n) sp wy kp (nI 0))) 50 (mx_ia 6 ls')) 0 0) := by
    intro q
    induction q with
    | zero =>
      intro k p hk hpn r
      induction r with
      | zero =>
        intro v hv hs hback
        exact one k v p (by omega) (by omega) hpn (fun _ => hback rfl) (fun h => absurd h (by omega)) (fun h => absurd h (by omega))
      | succ r ihr =>
        intro v hv hs hback
        refine one k v p (by omega) (by omega) hpn (fun h => absurd h (by omega)) (fun _ hc => ?_) (fun hvn hNv hcv => ?_)
        · refine ihr (v + 1) (by omega) (fun x hx => hs x ?_) (fun hx => hback ?_)
          · rw [scf_n (sv_n hc)]
            exact hx
          · rw [scf_n (sv_n hc)]
            exact hx
        · intro ls' h1 _
          rw [show k + 1 = m by omega]
          refine fin ls' (pu p k v) (hs _ (scf_s ?_)) (fun i hi => h1 i (by omega))
          rw [sv_y ⟨hNv, hcv⟩]
          rfl
    | succ q ihq =>
      intro k p hk hpn r
      induction r with
      | zero =>
        intro v hv hs hback
        exact one k v p (by omega) (by omega) hpn (fun _ => hback rfl) (fun h => absurd h (by omega)) (fun h => absurd h (by omega))
      | succ r ihr =>
        intro v hv hs hback
        refine one k v p (by omega) (by omega) hpn (fun h => absurd h (by omega)) (fun _ hc => ?_) (fun hvn hNv hcv => ?_)
        · refine ihr (v + 1) (by omega) (fun x hx => hs x ?_) (fun hx => hback ?_)
          · rw [scf_n (sv_n hc)]
            exact hx
          · rw [scf_n (sv_n hc)]
            exact hx
        · have hsv : sv n N ch m (q + 1) k p v = scf (sv n N ch m q (k + 1) (pu p k v)) 0 n := by rw [sv_y ⟨hNv, hcv⟩, sr_s]
          refine up (k + 1) 0 (pu p k v) (by omega) (ihq (k + 1) (pu p k v) (by omega) (fun i hi => ?_) n 0 (by omega) (fun x hx => hs x (scf_s (hsv.trans hx))) (fun hx => ?_))
          · by_cases e : i = k
            · rw [e, pu_s]
              exact ⟨hvn, hNv⟩
            · rw [pu_n e]
              exact hpn i (by omega)
          · have hno := hsv.trans hx
            intro ls' h1
            rw [pk_m1]
            have hk2 := h1 k (by omega)
            rw [pu_s] at hk2
            refine up k (v + 1) p (by omega) (ihr (v + 1) (by omega) (fun x hx => hs x ?_) (fun hx => hback ?_)) ls' (fun i hi => ?_) (by rw [hk2, nI_add])
            · rw [scf_n hno]
              exact hx
            · rw [scf_n hno]
              exact hx
            · have h3 := h1 i (by omega)
              rw [pu_n (by omega)] at h3
              exact h3
  refine go rfl ?_
  refine go rfl ⟨_, _, rfl, ?_⟩
  refine go rfl ⟨_, rfl, ?_⟩
  refine go rfl ⟨_, _, _, _, rfl, rfl, rfl, ?_⟩
  refine go rfl ?_
  refine go rfl ?_
  refine go rfl ⟨_, _, _, _, _, _, rfl, rfl, (vp_in_nI (show 0 < 6 by omega) (by omega)), ?_⟩
  rw [nI_clamp (show 0 < 2 ^ 31 by omega), mx_pp]
  have htot : sr n N ch m m 0 (fun i => i) = scf (sv n N ch m (m - 1) 0 (fun i => i)) 0 n := by
    have h := sr_s (n := n) (N := N) (ch := ch) (m := m) (q := m - 1) (k := 0) (l := fun i => i)
    rw [show m - 1 + 1 = m by omega] at h
    exact h
  exact up 0 0 (fun i => i) (by omega) (all (m - 1) 0 (fun i => i) (by omega) (fun i hi => absurd hi (Nat.not_lt_zero i)) n 0 (by omega) (fun x hx => htot.trans hx) (fun hx => none_ (htot.trans hx))) _ (fun i hi => absurd hi (Nat.not_lt_zero i)) (by rw [pk_us]; decide)
-- LadderWordsModel.line(I)I
def sp_M_line : mx_Sp := fun As F P => ∃ (th sz mn sp : Int32) (wy : Int64) (kp : Int32) (kn : Nat) (li : Nat → Int32) (x : Int32), As = [mx_r 40, mx_i x] ∧ F 50 = some (mx_ia 6 li) ∧ F 40 = some (e_M th sz mn sp wy kp (nI kn)) ∧ kn ≤ 5 ∧ (∀ k, k < kn → x = nI k → P (some (mx_i (li k))) (mx_put F 40 (e_M (nI 0) sz mn sp wy kp (nI kn)))) ∧ ((¬ ∃ k, k < kn ∧ x = nI k) → P (some (mx_i (-1))) (mx_put F 40 (e_M (nI 0) sz mn sp wy kp (nI kn))))
theorem d_M_line_0 : decode c_M_line 0 = .ok (.aload_n 0, 1) := by decide +kernel
theorem d_M_line_1 : decode c_M_line 1 = .ok (.iconst 0, 1) := by decide +kernel
theorem d_M_line_2 : decode c_M_line 2 = .ok (.putfield 48, 3) := by decide +kernel
theorem d_M_line_5 : decode c_M_line 5 = .ok (.iload_n 1, 1) := by decide +kernel
theorem d_M_line_6 : decode c_M_line 6 = .ok (.ifCond .lt 20, 3) := by decide +kernel
theorem d_M_line_9 : decode c_M_line 9 = .ok (.iload_n 1, 1) := by decide +kernel
theorem d_M_line_10 : decode c_M_line 10 = .ok (.aload_n 0, 1) := by decide +kernel
theorem d_M_line_11 : decode c_M_line 11 = .ok (.getfield 68, 3) := by decide +kernel
theorem d_M_line_14 : decode c_M_line 14 = .ok (.if_icmp .ge 12, 3) := by decide +kernel
theorem d_M_line_17 : decode c_M_line 17 = .ok (.aload_n 0, 1) := by decide +kernel
theorem d_M_line_18 : decode c_M_line 18 = .ok (.getfield 42, 3) := by decide +kernel
theorem d_M_line_21 : decode c_M_line 21 = .ok (.iload_n 1, 1) := by decide +kernel
theorem d_M_line_22 : decode c_M_line 22 = .ok (.iaload, 1) := by decide +kernel
theorem d_M_line_23 : decode c_M_line 23 = .ok (.goto 4, 3) := by decide +kernel
theorem d_M_line_26 : decode c_M_line 26 = .ok (.iconst (-1), 1) := by decide +kernel
theorem d_M_line_27 : decode c_M_line 27 = .ok (.ireturn, 1) := by decide +kernel
abbrev w_M_line : List Cond := mx_ws y_M_line c_M_line 2 (some .int)
abbrev rm_M_line : Room := { frames := 10, cells := 0, slots := 0, locals := 200 }
def t_M_line  (P : Option mx_V → mx_F → Prop) : List (Nat × mx_O) := [
  (0, mx_aload 0 1),
  (1, mx_push (.inl (nI 0)) 2),
  (2, mx_puti 7 0 5),
  (5, mx_iload 1 6),
  (6, mx_if_lt 26 9),
  (9, mx_iload 1 10),
  (10, mx_aload 0 11),
  (11, mx_get 7 15 14),
  (14, mx_ic_ge 26 17),
  (17, mx_aload 0 18),
  (18, mx_get 7 16 21),
  (21, mx_iload 1 22),
  (22, mx_iald 23),
  (23, mx_goto 27),
  (26, mx_push (.inl (-1)) 27),
  (27, mx_iret P)]
set_option maxRecDepth 20000 in
theorem a_M_line  {p : Program} {l : Launch} {e : Env} {s : State} {m : MethodId} {args : Array Value} {below : List Frame} {meth : Method} {c : Code} {D : va_G} {tc : Nat → ClassId} {tb : Nat → Nat} {sz : Nat} {a0 : Nat → Nat} {G : mx_F} {P : Option mx_V → mx_F → Prop}  (C : mx_C p s m args c c_M_line y_M_line.cls w_M_line D tc tb (mx_A a0 G sz) 2 (mx_Ok0 a0 G)) (hr : meth.sig.returnType = (some .int)) (hlk : meth.locks = false) : mx_all (mx_W p l e rm_M_line s m args below meth c (MQ below (mx_Q D tc tb a0 G sz P) args s 0 0 (mx_A a0 G sz)) D tc tb (mx_A a0 G sz) 2 (mx_Ok0 a0 G)) (t_M_line  P) :=
  ⟨mx_s_aload_n C d_M_line_0 rfl,
  mx_s_iconst C d_M_line_1 (by decide),
  mx_s_puti (T := T_M) (N := 18) (k := 0) C (fun w h => List.mem_cons_of_mem _ (in_M w h)) rfl ty_M ok_M nm_M (by decide) (List.mem_cons_of_mem _ fk_M_48) rfl rfl (ok_M 0 (by decide)) d_M_line_2,
  mx_s_iload_n C d_M_line_5 rfl,
  mx_s_if_lt C d_M_line_6 (by decide),
  mx_s_iload_n C d_M_line_9 rfl,
  mx_s_aload_n C d_M_line_10 rfl,
  mx_s_get (T := T_M) (N := 18) (k := 15) C (fun w h => List.mem_cons_of_mem _ (in_M w h)) rfl (by decide) (List.mem_cons_of_mem _ fk_M_68) rfl d_M_line_11,
  mx_s_ic_ge C d_M_line_14 (by decide),
  mx_s_aload_n C d_M_line_17 rfl,
  mx_s_get (T := T_M) (N := 18) (k := 16) C (fun w h => List.mem_cons_of_mem _ (in_M w h)) rfl (by decide) (List.mem_cons_of_mem _ fk_M_42) rfl d_M_line_18,
  mx_s_iload_n C d_M_line_21 rfl,
  mx_s_iald C d_M_line_22,
  mx_s_goto C d_M_line_23 (by decide),
  mx_s_iconst C d_M_line_26 (by decide),
  mx_s_iret C hr hlk d_M_line_27,
  trivial⟩
set_option maxRecDepth 20000 in
set_option maxHeartbeats 2000000 in
theorem m_M_line (l : Launch) : mx_M l y_M_line w_M_line rm_M_line sp_M_line := by
  intro zD ztc ztb zad As F P sz0 h
  obtain ⟨th, sz, mn, sp, wy, kp, kn, li, x, rfl, h50, h0, hk, ho, hz⟩ := h
  refine mx_run (cc := c_M_line) (maxL := 2) (ret := (some .int)) (tab := t_M_line  P) (by decide) rfl zD ztc ztb zad _ F P sz0 (Nat.le_of_ble_eq_true rfl) (fun p e s m args below meth c C hr hlk => a_M_line  C hr hlk) ?_
  intro Rr go
  have hF := mx_as2 h50 h0
  have hX : mx_put F 50 (mx_ia 6 li) = F := mx_self h50
  rw [hF]
  have z : (¬ ∃ k, k < kn ∧ x = nI k) → Rr 26 (mx_en [mx_r 40, mx_i x] 2) [] (mx_put (mx_put F 50 (mx_ia 6 li)) 40 (e_M (nI 0) sz mn sp wy kp (nI kn))) 0 0 := by
    intro h
    refine go rfl ?_
    refine go rfl ⟨_, rfl, rfl, rfl, ?_⟩
    rw [hX]
    exact hz h
  refine go rfl ⟨_, rfl, ?_⟩
  refine go rfl ?_
  refine go rfl ⟨_, _, _, _, rfl, rfl, (Nat.le_of_ble_eq_true rfl), ?_⟩
  rw [mx_pp]
  refine go rfl ⟨_, rfl, ?_⟩
  refine go rfl ⟨_, _, rfl, fun c1 => ?_, fun c1 => ?_⟩
  · refine z ?_
    rintro ⟨k, q1, rfl⟩
    exact nI_pos (by omega) c1
  refine go rfl ⟨_, rfl, ?_⟩
  refine go rfl ⟨_, rfl, ?_⟩
  refine go rfl ⟨_, _, _, _, rfl, rfl, rfl, ?_⟩
  refine go rfl ⟨_, _, _, rfl, fun c2 => ?_, fun c2 => ?_⟩
  · refine z ?_
    rintro ⟨k, q1, rfl⟩
    exact absurd ((nI_leI (by omega) (by omega)).mp c2) (by omega)
  rcases pk_ix x (n := kn) (by omega) with q | q | ⟨k, hk2, rfl⟩
  · exact absurd q c1
  · exact absurd q c2
  refine go rfl ⟨_, rfl, ?_⟩
  refine go rfl ⟨_, _, _, _, rfl, rfl, rfl, ?_⟩
  refine go rfl ⟨_, rfl, ?_⟩
  refine go rfl ⟨_, _, _, _, _, rfl, rfl, (vp_in_nI (show k < 6 by omega) (by omega)), ?_⟩
  rw [nI_clamp (by omega)]
  refine go rfl ?_
  refine go rfl ⟨_, rfl, rfl, rfl, ?_⟩
  rw [hX]
  exact ho k hk2 rfl
