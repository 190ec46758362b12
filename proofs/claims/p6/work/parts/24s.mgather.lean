/-- what taking a word does to the counts -/
def tkf (lf a : Nat → Int32) (x : Int32) : Nat → Nat → Int32
  | 0 => lf
  | k + 1 => fun u => if a k = nI (97 + u) then tkf lf a x k u - x else tkf lf a x k u
theorem tk_1 {lf a : Nat → Int32} {u : Nat} : ∀ k, tkf lf a (nI 1) k u = lf u - nI (wc a u k)
  | 0 => by
    show lf u = lf u - nI 0
    rw [nI_0, Int32.sub_zero]
  | k + 1 => by
    show (if a k = nI (97 + u) then tkf lf a (nI 1) k u - nI 1 else tkf lf a (nI 1) k u) = _
    by_cases h : a k = nI (97 + u)
    · rw [if_pos h, tk_1 k, wc_y h, ← nI_add, Int32.sub_sub]
    · rw [if_neg h, tk_1 k, wc_n h]
theorem tk_m {lf a : Nat → Int32} {u : Nat} : ∀ k, tkf lf a (-1) k u = lf u + nI (wc a u k)
  | 0 => by
    show lf u = lf u + nI 0
    rw [nI_0, Int32.add_zero]
  | k + 1 => by
    show (if a k = nI (97 + u) then tkf lf a (-1) k u - (-1) else tkf lf a (-1) k u) = _
    by_cases h : a k = nI (97 + u)
    · rw [if_pos h, tk_m k, wc_y h, ← nI_add, Int32.sub_eq_add_neg, show -(-1 : Int32) = nI 1 by decide, Int32.add_assoc]
    · rw [if_neg h, tk_m k, wc_n h]
-- LadderWordsModel.take(II)Z
def sp_M_take : mx_Sp := fun As F P => ∃ (th sz sp : Int32) (wy : Int64) (kp sd : Int32) (n : Nat) (N : Nat → Nat) (ch : Nat → Nat → Int32) (lt ml : Nat → Int32) (lf : Nat → Int32) (j : Nat) (x : Int32), As = [mx_r 40, mx_i (nI j), mx_i x] ∧ F 42 = some (mx_ia 360 lt) ∧ F 43 = some (mx_ia 60 ml) ∧ F 40 = some (e_M th sz (nI n) sp wy kp sd) ∧ F 49 = some (mx_ia 26 lf) ∧ mst n N ch lt ml ∧ j < n ∧ ∀ (lf' : Nat → Int32), (∀ u, u < 26 → lf' u = tkf lf (ch j) x (N j) u) → ((∀ u, u < 26 → ¬ lf' u < 0) → P (some (mx_i (nI 1))) (mx_put F 49 (mx_ia 26 lf'))) ∧ ((¬ ∀ u, u < 26 → ¬ lf' u < 0) → P (some (mx_i (nI 0))) (mx_put F 49 (mx_ia 26 lf')))
theorem d_M_take_0 : decode c_M_take 0 = .ok (.iconst 0, 1) := by decide +kernel
theorem d_M_take_1 : decode c_M_take 1 = .ok (.istore_n 3, 1) := by decide +kernel
theorem d_M_take_2 : decode c_M_take 2 = .ok (.iload_n 3, 1) := by decide +kernel
theorem d_M_take_3 : decode c_M_take 3 = .ok (.aload_n 0, 1) := by decide +kernel
theorem d_M_take_4 : decode c_M_take 4 = .ok (.getfield 16, 3) := by decide +kernel
theorem d_M_take_7 : decode c_M_take 7 = .ok (.iload_n 1, 1) := by decide +kernel
theorem d_M_take_8 : decode c_M_take 8 = .ok (.iaload, 1) := by decide +kernel
theorem d_M_take_9 : decode c_M_take 9 = .ok (.if_icmp .ge 27, 3) := by decide +kernel
theorem d_M_take_12 : decode c_M_take 12 = .ok (.aload_n 0, 1) := by decide +kernel
theorem d_M_take_13 : decode c_M_take 13 = .ok (.getfield 39, 3) := by decide +kernel
theorem d_M_take_16 : decode c_M_take 16 = .ok (.aload_n 0, 1) := by decide +kernel
theorem d_M_take_17 : decode c_M_take 17 = .ok (.iload_n 1, 1) := by decide +kernel
theorem d_M_take_18 : decode c_M_take 18 = .ok (.iload_n 3, 1) := by decide +kernel
theorem d_M_take_19 : decode c_M_take 19 = .ok (.invokevirtual 57, 3) := by decide +kernel
theorem d_M_take_22 : decode c_M_take 22 = .ok (.bipush 97, 2) := by decide +kernel
theorem d_M_take_24 : decode c_M_take 24 = .ok (.isub, 1) := by decide +kernel
theorem d_M_take_25 : decode c_M_take 25 = .ok (.dup2, 1) := by decide +kernel
theorem d_M_take_26 : decode c_M_take 26 = .ok (.iaload, 1) := by decide +kernel
theorem d_M_take_27 : decode c_M_take 27 = .ok (.iload_n 2, 1) := by decide +kernel
theorem d_M_take_28 : decode c_M_take 28 = .ok (.isub, 1) := by decide +kernel
theorem d_M_take_29 : decode c_M_take 29 = .ok (.iastore, 1) := by decide +kernel
theorem d_M_take_30 : decode c_M_take 30 = .ok (.iinc 3 1, 3) := by decide +kernel
theorem d_M_take_33 : decode c_M_take 33 = .ok (.goto (-31), 3) := by decide +kernel
theorem d_M_take_36 : decode c_M_take 36 = .ok (.iconst 0, 1) := by decide +kernel
theorem d_M_take_37 : decode c_M_take 37 = .ok (.istore_n 3, 1) := by decide +kernel
theorem d_M_take_38 : decode c_M_take 38 = .ok (.iload_n 3, 1) := by decide +kernel
theorem d_M_take_39 : decode c_M_take 39 = .ok (.bipush 26, 2) := by decide +kernel
theorem d_M_take_41 : decode c_M_take 41 = .ok (.if_icmp .ge 20, 3) := by decide +kernel
theorem d_M_take_44 : decode c_M_take 44 = .ok (.aload_n 0, 1) := by decide +kernel
theorem d_M_take_45 : decode c_M_take 45 = .ok (.getfield 39, 3) := by decide +kernel
theorem d_M_take_48 : decode c_M_take 48 = .ok (.iload_n 3, 1) := by decide +kernel
theorem d_M_take_49 : decode c_M_take 49 = .ok (.iaload, 1) := by decide +kernel
theorem d_M_take_50 : decode c_M_take 50 = .ok (.ifCond .ge 5, 3) := by decide +kernel
theorem d_M_take_53 : decode c_M_take 53 = .ok (.iconst 0, 1) := by decide +kernel
theorem d_M_take_54 : decode c_M_take 54 = .ok (.ireturn, 1) := by decide +kernel
theorem d_M_take_55 : decode c_M_take 55 = .ok (.iinc 3 1, 3) := by decide +kernel
theorem d_M_take_58 : decode c_M_take 58 = .ok (.goto (-20), 3) := by decide +kernel
theorem d_M_take_61 : decode c_M_take 61 = .ok (.iconst 1, 1) := by decide +kernel
theorem d_M_take_62 : decode c_M_take 62 = .ok (.ireturn, 1) := by decide +kernel
abbrev w_M_take : List Cond := mx_ws y_M_take c_M_take 4 (some .boolean)
abbrev rm_M_take : Room := { frames := 20, cells := 0, slots := 0, locals := 400 }
def t_M_take  (P : Option mx_V → mx_F → Prop) : List (Nat × mx_O) := [
  (0, mx_push (.inl (nI 0)) 1),
  (1, mx_istore 3 2),
  (2, mx_iload 3 3),
  (3, mx_aload 0 4),
  (4, mx_get 7 5 7),
  (7, mx_iload 1 8),
  (8, mx_iald 9),
  (9, mx_ic_ge 36 12),
  (12, mx_aload 0 13),
  (13, mx_get 7 14 16),
  (16, mx_aload 0 17),
  (17, mx_iload 1 18),
  (18, mx_iload 3 19),
  (19, mx_cv2 7 sp_M_at 0 0 22),
  (22, mx_push (.inl (nI 97)) 24),
  (24, mx_isub 25),
  (25, mx_dup2 26),
  (26, mx_iald 27),
  (27, mx_iload 2 28),
  (28, mx_isub 29),
  (29, mx_iast 30),
  (30, mx_iinc 3 (nI 1) 33),
  (33, mx_goto 2),
  (36, mx_push (.inl (nI 0)) 37),
  (37, mx_istore 3 38),
  (38, mx_iload 3 39),
  (39, mx_push (.inl (nI 26)) 41),
  (41, mx_ic_ge 61 44),
  (44, mx_aload 0 45),
  (45, mx_get 7 14 48),
  (48, mx_iload 3 49),
  (49, mx_iald 50),
  (50, mx_if_ge 55 53),
  (53, mx_push (.inl (nI 0)) 54),
  (54, mx_zret P),
  (55, mx_iinc 3 (nI 1) 58),
  (58, mx_goto 38),
  (61, mx_push (.inl (nI 1)) 62),
  (62, mx_zret P)]
set_option maxRecDepth 20000 in
theorem a_M_take  {p : Program} {l : Launch} {e : Env} {s : State} {m : MethodId} {args : Array Value} {below : List Frame} {meth : Method} {c : Code} {D : va_G} {tc : Nat → ClassId} {tb : Nat → Nat} {sz : Nat} {a0 : Nat → Nat} {G : mx_F} {P : Option mx_V → mx_F → Prop}  (C : mx_C p s m args c c_M_take y_M_take.cls w_M_take D tc tb (mx_A a0 G sz) 4 (mx_Ok0 a0 G)) (hr : meth.sig.returnType = (some .boolean)) (hlk : meth.locks = false) : mx_all (mx_W p l e rm_M_take s m args below meth c (MQ below (mx_Q D tc tb a0 G sz P) args s 0 0 (mx_A a0 G sz)) D tc tb (mx_A a0 G sz) 4 (mx_Ok0 a0 G)) (t_M_take  P) :=
  ⟨mx_s_iconst C d_M_take_0 (by decide),
  mx_s_istore_n C d_M_take_1 rfl (by decide),
  mx_s_iload_n C d_M_take_2 rfl,
  mx_s_aload_n C d_M_take_3 rfl,
  mx_s_get (T := T_M) (N := 18) (k := 5) C (fun w h => List.mem_cons_of_mem _ (in_M w h)) rfl (by decide) (List.mem_cons_of_mem _ fk_M_16) rfl d_M_take_4,
  mx_s_iload_n C d_M_take_7 rfl,
  mx_s_iald C d_M_take_8,
  mx_s_ic_ge C d_M_take_9 (by decide),
  mx_s_aload_n C d_M_take_12 rfl,
  mx_s_get (T := T_M) (N := 18) (k := 14) C (fun w h => List.mem_cons_of_mem _ (in_M w h)) rfl (by decide) (List.mem_cons_of_mem _ fk_M_39) rfl d_M_take_13,
  mx_s_aload_n C d_M_take_16 rfl,
  mx_s_iload_n C d_M_take_17 rfl,
  mx_s_iload_n C d_M_take_18 rfl,
  mx_s_cv2 C (m_M_at l) rfl (cwV 2 C.2.2.2.2.1 (mx_gV (fun w h => List.mem_cons_of_mem _ h) mk_M_57 im_M_at se_M_at ic_M co_M_at) rfl rfl rfl (by decide +kernel) ⟨by decide, by decide⟩) d_M_take_19 ⟨Nat.zero_le _, Nat.zero_le _⟩,
  mx_s_bipush C d_M_take_22 (by decide),
  mx_s_isub C d_M_take_24,
  mx_s_dup2 C d_M_take_25,
  mx_s_iald C d_M_take_26,
  mx_s_iload_n C d_M_take_27 rfl,
  mx_s_isub C d_M_take_28,
  mx_s_iast C d_M_take_29,
  mx_s_iinc C d_M_take_30 (by decide) (by decide),
  mx_s_goto C d_M_take_33 (by decide),
  mx_s_iconst C d_M_take_36 (by decide),
  mx_s_istore_n C d_M_take_37 rfl (by decide),
  mx_s_iload_n C d_M_take_38 rfl,
  mx_s_bipush C d_M_take_39 (by decide),
  mx_s_ic_ge C d_M_take_41 (by decide),
  mx_s_aload_n C d_M_take_44 rfl,
  mx_s_get (T := T_M) (N := 18) (k := 14) C (fun w h => List.mem_cons_of_mem _ (in_M w h)) rfl (by decide) (List.mem_cons_of_mem _ fk_M_39) rfl d_M_take_45,
  mx_s_iload_n C d_M_take_48 rfl,
  mx_s_iald C d_M_take_49,
  mx_s_if_ge C d_M_take_50 (by decide),
  mx_s_iconst C d_M_take_53 (by decide),
  mx_s_zret C hr hlk d_M_take_54,
  mx_s_iinc C d_M_take_55 (by decide) (by decide),
  mx_s_goto C d_M_take_58 (by decide),
  mx_s_iconst C d_M_take_61 (by decide),
  mx_s_zret C hr hlk d_M_take_62,
  trivial⟩
set_option maxRecDepth 20000 in
set_option maxHeartbeats 2000000 in
theorem m_M_take (l : Launch) : mx_M l y_M_take w_M_take rm_M_take sp_M_take := by
  intro zD ztc ztb zad As F P sz0 h
  obtain ⟨th, sz, sp, wy, kp, sd, n, N, ch, lt, ml, lf, j, x, rfl, h2, h3, h0, h49, hw, hj, hp⟩ := h
  refine mx_run (cc := c_M_take) (maxL := 4) (ret := (some .boolean)) (tab := t_M_take  P) (by decide) rfl zD ztc ztb zad _ F P sz0 (Nat.le_of_ble_eq_true rfl) (fun p e s m args below meth c C hr hlk => a_M_take  C hr hlk) ?_
  intro Rr go
  have hF : F = mx_put (mx_put (mx_put (mx_put F 42 (mx_ia 360 lt)) 43 (mx_ia 60 ml)) 40 (e_M th sz (nI n) sp wy kp sd)) 49 (mx_ia 26 lf) := by rw [mx_self h2, mx_self h3, mx_self h0, mx_self h49]
  have hB : (mx_put (mx_put (mx_put F 42 (mx_ia 360 lt)) 43 (mx_ia 60 ml)) 40 (e_M th sz (nI n) sp wy kp sd)) = F := by rw [mx_self h2, mx_self h3, mx_self h0]
  rw [hF]
  have hn := hw.1.1
  have hN := hw.2.1.2.1 j hj
  have chk : ∀ (lf' : Nat → Int32), (∀ u, u < 26 → lf' u = tkf lf (ch j) x (N j) u) → ∀ (m i : Nat), i + m = 26 → (∀ u, u < i → ¬ lf' u < 0) → Rr 38 [some (mx_r 40), some (mx_i (nI j)), some (mx_i x), some (mx_i (nI i))] [] (mx_put (mx_put (mx_put (mx_put F 42 (mx_ia 360 lt)) 43 (mx_ia 60 ml)) 40 (e_M th sz (nI n) sp wy kp sd)) 49 (mx_ia 26 lf')) 0 0 := by
    intro lf' hlf m
    induction m with
    | zero =>
      intro i hi hq
      refine go rfl ⟨_, rfl, ?_⟩
      refine go rfl ?_
      refine go rfl ⟨_, _, _, rfl, fun c => ?_, fun c => ?_⟩
      · refine go rfl ?_
        refine go rfl ⟨_, rfl, rfl, rfl, (Or.inr rfl), ?_⟩
        rw [hB]
        exact (hp lf' hlf).1 (fun u hu => hq u (by omega))
      · exact absurd (nI_le (by omega) (by omega)) c
    | succ m ih =>
      intro i hi hq
      refine go rfl ⟨_, rfl, ?_⟩
      refine go rfl ?_
      refine go rfl ⟨_, _, _, rfl, fun c => ?_, fun c => ?_⟩
      · exact absurd ((nI_leI (by omega) (by omega)).mp c) (by omega)
      refine go rfl ⟨_, rfl, ?_⟩
      refine go rfl ⟨_, _, _, _, rfl, rfl, rfl, ?_⟩
      refine go rfl ⟨_, rfl, ?_⟩
      refine go rfl ⟨_, _, _, _, _, rfl, rfl, (vp_in_nI (show i < 26 by omega) (by omega)), ?_⟩
      rw [nI_clamp (by omega)]
      refine go rfl ⟨_, _, rfl, fun c2 => ?_, fun c2 => ?_⟩
      · refine go rfl ⟨_, rfl, ?_⟩
        refine go rfl ?_
        rw [nI_add]
        refine ih (i + 1) (by omega) (fun u hu => ?_)
        by_cases e : u = i
        · rw [e]
          exact Int32.not_lt.mpr c2
        · exact hq u (by omega)
      · refine go rfl ?_
        refine go rfl ⟨_, rfl, rfl, rfl, (Or.inl rfl), ?_⟩
        rw [hB]
        exact (hp lf' hlf).2 (fun h => c2 (Int32.not_lt.mp (h i (by omega))))
  have loop : ∀ (m i : Nat) (lf' : Nat → Int32), i + m = N j → (∀ u, u < 26 → lf' u = tkf lf (ch j) x i u) → Rr 2 [some (mx_r 40), some (mx_i (nI j)), some (mx_i x), some (mx_i (nI i))] [] (mx_put (mx_put (mx_put (mx_put F 42 (mx_ia 360 lt)) 43 (mx_ia 60 ml)) 40 (e_M th sz (nI n) sp wy kp sd)) 49 (mx_ia 26 lf')) 0 0 := by
    intro m
    induction m with
    | zero =>
      intro i lf' hi hlf
      refine go rfl ⟨_, rfl, ?_⟩
      refine go rfl ⟨_, rfl, ?_⟩
      refine go rfl ⟨_, _, _, _, rfl, rfl, rfl, ?_⟩
      refine go rfl ⟨_, rfl, ?_⟩
      refine go rfl ⟨_, _, _, _, _, rfl, rfl, (vp_in_nI (show j < 60 by omega) (by omega)), ?_⟩
      rw [vr_loadlen hw hj]
      refine go rfl ⟨_, _, _, rfl, fun c => ?_, fun c => ?_⟩
      · refine go rfl ?_
        refine go rfl ⟨_, _, rfl, ?_⟩
        refine chk lf' ?_ 26 0 (by omega) (fun u hu => absurd hu (Nat.not_lt_zero u))
        rw [show N j = i by omega]
        exact hlf
      · exact absurd (nI_le (by omega) (by omega)) c
    | succ m ih =>
      intro i lf' hi hlf
      refine go rfl ⟨_, rfl, ?_⟩
      refine go rfl ⟨_, rfl, ?_⟩
      refine go rfl ⟨_, _, _, _, rfl, rfl, rfl, ?_⟩
      refine go rfl ⟨_, rfl, ?_⟩
      refine go rfl ⟨_, _, _, _, _, rfl, rfl, (vp_in_nI (show j < 60 by omega) (by omega)), ?_⟩
      rw [vr_loadlen hw hj]
      refine go rfl ⟨_, _, _, rfl, fun c => ?_, fun c => ?_⟩
      · exact absurd ((nI_leI (by omega) (by omega)).mp c) (by omega)
      obtain ⟨u, hu, eu, ee⟩ := vl_ixe (hw.2.1.2.2 j i hj (by omega))
      refine go rfl ⟨_, rfl, ?_⟩
      refine go rfl ⟨_, _, _, _, rfl, rfl, rfl, ?_⟩
      refine go rfl ⟨_, rfl, ?_⟩
      refine go rfl ⟨_, rfl, ?_⟩
      refine go rfl ⟨_, rfl, ?_⟩
      refine go rfl ⟨_, _, _, _, _, rfl, rfl, rfl, rfl, rfl, u_at hw hj (show i < N j by omega) rfl rfl ?_⟩
      refine go rfl ?_
      refine go rfl ⟨_, _, _, rfl, ?_⟩
      rw [eu]
      refine go rfl ⟨_, _, _, rfl, rfl, rfl, ?_⟩
      refine go rfl ⟨_, _, _, _, _, rfl, rfl, (vp_in_nI hu (by omega)), ?_⟩
      rw [nI_clamp (by omega)]
      refine go rfl ⟨_, rfl, ?_⟩
      refine go rfl ⟨_, _, _, rfl, ?_⟩
      refine go rfl ⟨_, _, _, _, _, _, rfl, rfl, (vp_in_nI hu (by omega)), ?_⟩
      rw [nI_clamp (by omega), mx_pp]
      refine go rfl ⟨_, rfl, ?_⟩
      refine go rfl ?_
      rw [nI_add]
      refine ih (i + 1) _ (by omega) (fun z hz => ?_)
      show _ = if ch j i = nI (97 + z) then _ else _
      by_cases ez : z = u
      · rw [ez, pk_us, if_pos ee, hlf u hu]
      · rw [pk_un ez, if_neg (fun h => ez (by have := (nI_eq (by omega) (by omega)).mp (h.symm.trans ee); omega)), hlf z hz]
  refine go rfl ?_
  refine go rfl ⟨_, _, rfl, ?_⟩
  exact loop (N j) 0 lf (by omega) (fun _ _ => rfl)
-- LadderWordsModel.isEmpty()Z
def sp_M_isEmpty : mx_Sp := fun As F P => ∃ (th sz mn sp : Int32) (wy : Int64) (kp sd : Int32) (lf : Nat → Int32), As = [mx_r 40] ∧ F 40 = some (e_M th sz mn sp wy kp sd) ∧ F 49 = some (mx_ia 26 lf) ∧ ((∀ u, u < 26 → lf u ≤ 0) → P (some (mx_i (nI 1))) F) ∧ ((¬ ∀ u, u < 26 → lf u ≤ 0) → P (some (mx_i (nI 0))) F)
theorem d_M_isEmpty_0 : decode c_M_isEmpty 0 = .ok (.iconst 0, 1) := by decide +kernel
theorem d_M_isEmpty_1 : decode c_M_isEmpty 1 = .ok (.istore_n 1, 1) := by decide +kernel
theorem d_M_isEmpty_2 : decode c_M_isEmpty 2 = .ok (.iload_n 1, 1) := by decide +kernel
theorem d_M_isEmpty_3 : decode c_M_isEmpty 3 = .ok (.bipush 26, 2) := by decide +kernel
theorem d_M_isEmpty_5 : decode c_M_isEmpty 5 = .ok (.if_icmp .ge 20, 3) := by decide +kernel
theorem d_M_isEmpty_8 : decode c_M_isEmpty 8 = .ok (.aload_n 0, 1) := by decide +kernel
theorem d_M_isEmpty_9 : decode c_M_isEmpty 9 = .ok (.getfield 39, 3) := by decide +kernel
theorem d_M_isEmpty_12 : decode c_M_isEmpty 12 = .ok (.iload_n 1, 1) := by decide +kernel
theorem d_M_isEmpty_13 : decode c_M_isEmpty 13 = .ok (.iaload, 1) := by decide +kernel
theorem d_M_isEmpty_14 : decode c_M_isEmpty 14 = .ok (.ifCond .le 5, 3) := by decide +kernel
theorem d_M_isEmpty_17 : decode c_M_isEmpty 17 = .ok (.iconst 0, 1) := by decide +kernel
theorem d_M_isEmpty_18 : decode c_M_isEmpty 18 = .ok (.ireturn, 1) := by decide +kernel
theorem d_M_isEmpty_19 : decode c_M_isEmpty 19 = .ok (.iinc 1 1, 3) := by decide +kernel
theorem d_M_isEmpty_22 : decode c_M_isEmpty 22 = .ok (.goto (-20), 3) := by decide +kernel
theorem d_M_isEmpty_25 : decode c_M_isEmpty 25 = .ok (.iconst 1, 1) := by decide +kernel
theorem d_M_isEmpty_26 : decode c_M_isEmpty 26 = .ok (.ireturn, 1) := by decide +kernel
abbrev w_M_isEmpty : List Cond := mx_ws y_M_isEmpty c_M_isEmpty 2 (some .boolean)
abbrev rm_M_isEmpty : Room := { frames := 10, cells := 0, slots := 0, locals := 200 }
def t_M_isEmpty  (P : Option mx_V → mx_F → Prop) : List (Nat × mx_O) := [
  (0, mx_push (.inl (nI 0)) 1),
  (1, mx_istore 1 2),
  (2, mx_iload 1 3),
  (3, mx_push (.inl (nI 26)) 5),
  (5, mx_ic_ge 25 8),
  (8, mx_aload 0 9),
  (9, mx_get 7 14 12),
  (12, mx_iload 1 13),
  (13, mx_iald 14),
  (14, mx_if_le 19 17),
  (17, mx_push (.inl (nI 0)) 18),
  (18, mx_zret P),
  (19, mx_iinc 1 (nI 1) 22),
  (22, mx_goto 2),
  (25, mx_push (.inl (nI 1)) 26),
  (26, mx_zret P)]
set_option maxRecDepth 20000 in
theorem a_M_isEmpty  {p : Program} {l : Launch} {e : Env} {s : State} {m : MethodId} {args : Array Value} {below : List Frame} {meth : Method} {c : Code} {D : va_G} {tc : Nat → ClassId} {tb : Nat → Nat} {sz : Nat} {a0 : Nat → Nat} {G : mx_F} {P : Option mx_V → mx_F → Prop}  (C : mx_C p s m args c c_M_isEmpty y_M_isEmpty.cls w_M_isEmpty D tc tb (mx_A a0 G sz) 2 (mx_Ok0 a0 G)) (hr : meth.sig.returnType = (some .boolean)) (hlk : meth.locks = false) : mx_all (mx_W p l e rm_M_isEmpty s m args below meth c (MQ below (mx_Q D tc tb a0 G sz P) args s 0 0 (mx_A a0 G sz)) D tc tb (mx_A a0 G sz) 2 (mx_Ok0 a0 G)) (t_M_isEmpty  P) :=
  ⟨mx_s_iconst C d_M_isEmpty_0 (by decide),
  mx_s_istore_n C d_M_isEmpty_1 rfl (by decide),
  mx_s_iload_n C d_M_isEmpty_2 rfl,
  mx_s_bipush C d_M_isEmpty_3 (by decide),
  mx_s_ic_ge C d_M_isEmpty_5 (by decide),
  mx_s_aload_n C d_M_isEmpty_8 rfl,
  mx_s_get (T := T_M) (N := 18) (k := 14) C (fun w h => List.mem_cons_of_mem _ (in_M w h)) rfl (by decide) (List.mem_cons_of_mem _ fk_M_39) rfl d_M_isEmpty_9,
  mx_s_iload_n C d_M_isEmpty_12 rfl,
  mx_s_iald C d_M_isEmpty_13,
  mx_s_if_le C d_M_isEmpty_14 (by decide),
  mx_s_iconst C d_M_isEmpty_17 (by decide),
  mx_s_zret C hr hlk d_M_isEmpty_18,
  mx_s_iinc C d_M_isEmpty_19 (by decide) (by decide),
  mx_s_goto C d_M_isEmpty_22 (by decide),
  mx_s_iconst C d_M_isEmpty_25 (by decide),
  mx_s_zret C hr hlk d_M_isEmpty_26,
  trivial⟩
set_option maxRecDepth 20000 in
set_option maxHeartbeats 2000000 in
theorem m_M_isEmpty (l : Launch) : mx_M l y_M_isEmpty w_M_isEmpty rm_M_isEmpty sp_M_isEmpty := by
  intro zD ztc ztb zad As F P sz0 h
  obtain ⟨th, sz, mn, sp, wy, kp, sd, lf, rfl, h0, h49, ho, hz⟩ := h
  refine mx_run (cc := c_M_isEmpty) (maxL := 2) (ret := (some .boolean)) (tab := t_M_isEmpty  P) (by decide) rfl zD ztc ztb zad _ F P sz0 (Nat.le_of_ble_eq_true rfl) (fun p e s m args below meth c C hr hlk => a_M_isEmpty  C hr hlk) ?_
  intro Rr go
  have hF := mx_as2 h0 h49
  rw [hF]
  have loop : ∀ (m i : Nat), i + m = 26 → (∀ u, u < i → lf u ≤ 0) → Rr 2 [some (mx_r 40), some (mx_i (nI i))] [] (mx_put (mx_put F 40 (e_M th sz mn sp wy kp sd)) 49 (mx_ia 26 lf)) 0 0 := by
    intro m
    induction m with
    | zero =>
      intro i hi hq
      refine go rfl ⟨_, rfl, ?_⟩
      refine go rfl ?_
      refine go rfl ⟨_, _, _, rfl, fun c => ?_, fun c => ?_⟩
      · refine go rfl ?_
        refine go rfl ⟨_, rfl, rfl, rfl, (Or.inr rfl), ?_⟩
        rw [← hF]
        exact ho (fun u hu => hq u (by omega))
      · exact absurd (nI_le (by omega) (by omega)) c
    | succ m ih =>
      intro i hi hq
      refine go rfl ⟨_, rfl, ?_⟩
      refine go rfl ?_
      refine go rfl ⟨_, _, _, rfl, fun c => ?_, fun c => ?_⟩
      · exact absurd ((nI_leI (by omega) (by omega)).mp c) (by omega)
      refine go rfl ⟨_, rfl, ?_⟩
      refine go rfl ⟨_, _, _, _, rfl, rfl, rfl, ?_⟩
      refine go rfl ⟨_, rfl, ?_⟩
      refine go rfl ⟨_, _, _, _, _, rfl, rfl, (vp_in_nI (show i < 26 by omega) (by omega)), ?_⟩
      rw [nI_clamp (by omega)]
      refine go rfl ⟨_, _, rfl, fun c2 => ?_, fun c2 => ?_⟩
      · refine go rfl ⟨_, rfl, ?_⟩
        refine go rfl ?_
        rw [nI_add]
        refine ih (i + 1) (by omega) (fun u hu => ?_)
        rcases Nat.lt_or_ge u i with w | w
        · exact hq u w
        · rw [show u = i by omega]
          exact c2
      · refine go rfl ?_
        refine go rfl ⟨_, rfl, rfl, rfl, (Or.inl rfl), ?_⟩
        rw [← hF]
        exact hz (fun h => c2 (h i (by omega)))
  refine go rfl ?_
  refine go rfl ⟨_, _, rfl, ?_⟩
  exact loop 26 0 (by omega) (fun u hu => absurd hu (Nat.not_lt_zero u))
-- LadderWordsModel.keep(I)V
def sp_M_keep : mx_Sp := fun As F P => ∃ (th sz mn sp : Int32) (wy : Int64) (kc s : Nat) (sd : Int32) (cs ga : Nat → Int32), As = [mx_r 40, mx_i (nI s)] ∧ F 40 = some (e_M th sz mn sp wy (nI kc) sd) ∧ F 47 = some (mx_ia 800 ga) ∧ F 48 = some (mx_ia 5 cs) ∧ kc ≤ 200 ∧ s ≤ 4 ∧ (kc < 200 → ∀ ga', kpd kc s cs ga ga' → P none (mx_put (mx_put F 47 (mx_ia 800 ga')) 40 (e_M th sz mn sp wy (nI (kc + 1)) sd))) ∧ (kc = 200 → P none F)
theorem d_M_keep_0 : decode c_M_keep 0 = .ok (.aload_n 0, 1) := by decide +kernel
theorem d_M_keep_1 : decode c_M_keep 1 = .ok (.getfield 65, 3) := by decide +kernel
theorem d_M_keep_4 : decode c_M_keep 4 = .ok (.sipush 200, 3) := by decide +kernel
theorem d_M_keep_7 : decode c_M_keep 7 = .ok (.if_icmp .ne 4, 3) := by decide +kernel
theorem d_M_keep_10 : decode c_M_keep 10 = .ok (.return_, 1) := by decide +kernel
theorem d_M_keep_11 : decode c_M_keep 11 = .ok (.iconst 0, 1) := by decide +kernel
theorem d_M_keep_12 : decode c_M_keep 12 = .ok (.istore_n 2, 1) := by decide +kernel
theorem d_M_keep_13 : decode c_M_keep 13 = .ok (.iload_n 2, 1) := by decide +kernel
theorem d_M_keep_14 : decode c_M_keep 14 = .ok (.iconst 4, 1) := by decide +kernel
theorem d_M_keep_15 : decode c_M_keep 15 = .ok (.if_icmp .ge 37, 3) := by decide +kernel
theorem d_M_keep_18 : decode c_M_keep 18 = .ok (.aload_n 0, 1) := by decide +kernel
theorem d_M_keep_19 : decode c_M_keep 19 = .ok (.getfield 33, 3) := by decide +kernel
theorem d_M_keep_22 : decode c_M_keep 22 = .ok (.iconst 4, 1) := by decide +kernel
theorem d_M_keep_23 : decode c_M_keep 23 = .ok (.aload_n 0, 1) := by decide +kernel
theorem d_M_keep_24 : decode c_M_keep 24 = .ok (.getfield 65, 3) := by decide +kernel
theorem d_M_keep_27 : decode c_M_keep 27 = .ok (.imul, 1) := by decide +kernel
theorem d_M_keep_28 : decode c_M_keep 28 = .ok (.iload_n 2, 1) := by decide +kernel
theorem d_M_keep_29 : decode c_M_keep 29 = .ok (.iadd, 1) := by decide +kernel
theorem d_M_keep_30 : decode c_M_keep 30 = .ok (.iload_n 2, 1) := by decide +kernel
theorem d_M_keep_31 : decode c_M_keep 31 = .ok (.iload_n 1, 1) := by decide +kernel
theorem d_M_keep_32 : decode c_M_keep 32 = .ok (.if_icmp .ge 12, 3) := by decide +kernel
theorem d_M_keep_35 : decode c_M_keep 35 = .ok (.aload_n 0, 1) := by decide +kernel
theorem d_M_keep_36 : decode c_M_keep 36 = .ok (.getfield 36, 3) := by decide +kernel
theorem d_M_keep_39 : decode c_M_keep 39 = .ok (.iload_n 2, 1) := by decide +kernel
theorem d_M_keep_40 : decode c_M_keep 40 = .ok (.iaload, 1) := by decide +kernel
theorem d_M_keep_41 : decode c_M_keep 41 = .ok (.goto 4, 3) := by decide +kernel
theorem d_M_keep_44 : decode c_M_keep 44 = .ok (.iconst (-1), 1) := by decide +kernel
theorem d_M_keep_45 : decode c_M_keep 45 = .ok (.iastore, 1) := by decide +kernel
theorem d_M_keep_46 : decode c_M_keep 46 = .ok (.iinc 2 1, 3) := by decide +kernel
theorem d_M_keep_49 : decode c_M_keep 49 = .ok (.goto (-36), 3) := by decide +kernel
theorem d_M_keep_52 : decode c_M_keep 52 = .ok (.aload_n 0, 1) := by decide +kernel
theorem d_M_keep_53 : decode c_M_keep 53 = .ok (.dup, 1) := by decide +kernel
theorem d_M_keep_54 : decode c_M_keep 54 = .ok (.getfield 65, 3) := by decide +kernel
theorem d_M_keep_57 : decode c_M_keep 57 = .ok (.iconst 1, 1) := by decide +kernel
theorem d_M_keep_58 : decode c_M_keep 58 = .ok (.iadd, 1) := by decide +kernel
theorem d_M_keep_59 : decode c_M_keep 59 = .ok (.putfield 65, 3) := by decide +kernel
theorem d_M_keep_62 : decode c_M_keep 62 = .ok (.return_, 1) := by decide +kernel
abbrev w_M_keep : List Cond := mx_ws y_M_keep c_M_keep 3 none
abbrev rm_M_keep : Room := { frames := 10, cells := 0, slots := 0, locals := 200 }
def t_M_keep  (P : Option mx_V → mx_F → Prop) : List (Nat × mx_O) := [
  (0, mx_aload 0 1),
  (1, mx_get 7 11 4),
  (4, mx_push (.inl (nI 200)) 7),
  (7, mx_ic_ne 11 10),
  (10, mx_ret P),
  (11, mx_push (.inl (nI 0)) 12),
  (12, mx_istore 2 13),
  (13, mx_iload 2 14),
  (14, mx_push (.inl (nI 4)) 15),
  (15, mx_ic_ge 52 18),
  (18, mx_aload 0 19),
  (19, mx_get 7 12 22),
  (22, mx_push (.inl (nI 4)) 23),
  (23, mx_aload 0 24),
  (24, mx_get 7 11 27),
  (27, mx_imul 28),
  (28, mx_iload 2 29),
  (29, mx_iadd 30),
  (30, mx_iload 2 31),
  (31, mx_iload 1 32),
  (32, mx_ic_ge 44 35),
  (35, mx_aload 0 36),
  (36, mx_get 7 13 39),
  (39, mx_iload 2 40),
  (40, mx_iald 41),
  (41, mx_goto 45),
  (44, mx_push (.inl (-1)) 45),
  (45, mx_iast 46),
  (46, mx_iinc 2 (nI 1) 49),
  (49, mx_goto 13),
  (52, mx_aload 0 53),
  (53, mx_dup 54),
  (54, mx_get 7 11 57),
  (57, mx_push (.inl (nI 1)) 58),
  (58, mx_iadd 59),
  (59, mx_puti 7 11 62),
  (62, mx_ret P)]
set_option maxRecDepth 20000 in
theorem a_M_keep  {p : Program} {l : Launch} {e : Env} {s : State} {m : MethodId} {args : Array Value} {below : List Frame} {meth : Method} {c : Code} {D : va_G} {tc : Nat → ClassId} {tb : Nat → Nat} {sz : Nat} {a0 : Nat → Nat} {G : mx_F} {P : Option mx_V → mx_F → Prop}  (C : mx_C p s m args c c_M_keep y_M_keep.cls w_M_keep D tc tb (mx_A a0 G sz) 3 (mx_Ok0 a0 G)) (hr : meth.sig.returnType = none) (hlk : meth.locks = false) : mx_all (mx_W p l e rm_M_keep s m args below meth c (MQ below (mx_Q D tc tb a0 G sz P) args s 0 0 (mx_A a0 G sz)) D tc tb (mx_A a0 G sz) 3 (mx_Ok0 a0 G)) (t_M_keep  P) :=
  ⟨mx_s_aload_n C d_M_keep_0 rfl,
  mx_s_get (T := T_M) (N := 18) (k := 11) C (fun w h => List.mem_cons_of_mem _ (in_M w h)) rfl (by decide) (List.mem_cons_of_mem _ fk_M_65) rfl d_M_keep_1,
  mx_s_sipush C d_M_keep_4 (by decide),
  mx_s_ic_ne C d_M_keep_7 (by decide),
  mx_s_ret C hr hlk d_M_keep_10,
  mx_s_iconst C d_M_keep_11 (by decide),
  mx_s_istore_n C d_M_keep_12 rfl (by decide),
  mx_s_iload_n C d_M_keep_13 rfl,
  mx_s_iconst C d_M_keep_14 (by decide),
  mx_s_ic_ge C d_M_keep_15 (by decide),
  mx_s_aload_n C d_M_keep_18 rfl,
  mx_s_get (T := T_M) (N := 18) (k := 12) C (fun w h => List.mem_cons_of_mem _ (in_M w h)) rfl (by decide) (List.mem_cons_of_mem _ fk_M_33) rfl d_M_keep_19,
  mx_s_iconst C d_M_keep_22 (by decide),
  mx_s_aload_n C d_M_keep_23 rfl,
  mx_s_get (T := T_M) (N := 18) (k := 11) C (fun w h => List.mem_cons_of_mem _ (in_M w h)) rfl (by decide) (List.mem_cons_of_mem _ fk_M_65) rfl d_M_keep_24,
  mx_s_imul C d_M_keep_27,
  mx_s_iload_n C d_M_keep_28 rfl,
  mx_s_iadd C d_M_keep_29,
  mx_s_iload_n C d_M_keep_30 rfl,
  mx_s_iload_n C d_M_keep_31 rfl,
  mx_s_ic_ge C d_M_keep_32 (by decide),
  mx_s_aload_n C d_M_keep_35 rfl,
  mx_s_get (T := T_M) (N := 18) (k := 13) C (fun w h => List.mem_cons_of_mem _ (in_M w h)) rfl (by decide) (List.mem_cons_of_mem _ fk_M_36) rfl d_M_keep_36,
  mx_s_iload_n C d_M_keep_39 rfl,
  mx_s_iald C d_M_keep_40,
  mx_s_goto C d_M_keep_41 (by decide),
  mx_s_iconst C d_M_keep_44 (by decide),
  mx_s_iast C d_M_keep_45,
  mx_s_iinc C d_M_keep_46 (by decide) (by decide),
  mx_s_goto C d_M_keep_49 (by decide),
  mx_s_aload_n C d_M_keep_52 rfl,
  mx_s_dup C d_M_keep_53,
  mx_s_get (T := T_M) (N := 18) (k := 11) C (fun w h => List.mem_cons_of_mem _ (in_M w h)) rfl (by decide) (List.mem_cons_of_mem _ fk_M_65) rfl d_M_keep_54,
  mx_s_iconst C d_M_keep_57 (by decide),
  mx_s_iadd C d_M_keep_58,
  mx_s_puti (T := T_M) (N := 18) (k := 11) C (fun w h => List.mem_cons_of_mem _ (in_M w h)) rfl ty_M ok_M nm_M (by decide) (List.mem_cons_of_mem _ fk_M_65) rfl rfl (ok_M 11 (by decide)) d_M_keep_59,
  mx_s_ret C hr hlk d_M_keep_62,
  trivial⟩
set_option maxRecDepth 20000 in
set_option maxHeartbeats 2000000 in
theorem m_M_keep (l : Launch) : mx_M l y_M_keep w_M_keep rm_M_keep sp_M_keep := by
  intro zD ztc ztb zad As F P sz0 h
  obtain ⟨th, sz, mn, sp, wy, kc, s, sd, cs, ga, rfl, h0, h47, h48, hk, hs, ho, hz⟩ := h
  refine mx_run (cc := c_M_keep) (maxL := 3) (ret := none) (tab := t_M_keep  P) (by decide) rfl zD ztc ztb zad _ F P sz0 (Nat.le_of_ble_eq_true rfl) (fun p e s m args below meth c C hr hlk => a_M_keep  C hr hlk) ?_
  intro Rr go
  have hF := mx_as3 h48 h47 h0
  have hX : (mx_put F 48 (mx_ia 5 cs)) = F := mx_self h48
  rw [hF]
  refine go rfl ⟨_, rfl, ?_⟩
  refine go rfl ⟨_, _, _, _, rfl, rfl, rfl, ?_⟩
  refine go rfl ?_
  rcases (show kc < 200 ∨ kc = 200 by omega) with h | h
  rotate_left
  · refine go rfl ⟨_, _, _, rfl, fun c => ?_, fun c => ?_⟩
    · exact absurd (by rw [h]) c
    refine go rfl ⟨rfl, rfl, rfl, ?_⟩
    rw [← hF]
    exact hz h
  refine go rfl ⟨_, _, _, rfl, fun c => ?_, fun c => ?_⟩
  rotate_left
  · have := (nI_eq (by omega) (by omega)).mp c
    omega
  have loop : ∀ (m i : Nat) (ga' : Nat → Int32), i + m = 4 → (∀ q, q < 4 * kc → ga' q = ga q) → (∀ q, q < i → ga' (4 * kc + q) = if q < s then cs q else -1) → Rr 13 [some (mx_r 40), some (mx_i (nI s)), some (mx_i (nI i))] [] (mx_put (mx_put (mx_put F 48 (mx_ia 5 cs)) 47 (mx_ia 800 ga')) 40 (e_M th sz mn sp wy (nI kc) sd)) 0 0 := by
    intro m
    induction m with
    | zero =>
      intro i ga' hi hlo hq
      refine go rfl ⟨_, rfl, ?_⟩
      refine go rfl ?_
      refine go rfl ⟨_, _, _, rfl, fun c => ?_, fun c => ?_⟩
      · refine go rfl ⟨_, rfl, ?_⟩
        refine go rfl ⟨_, _, rfl, rfl, ?_⟩
        refine go rfl ⟨_, _, _, _, rfl, rfl, rfl, ?_⟩
        refine go rfl ?_
        refine go rfl ⟨_, _, _, rfl, ?_⟩
        rw [nI_add]
        refine go rfl ⟨_, _, _, _, rfl, rfl, (Nat.le_of_ble_eq_true rfl), ?_⟩
        refine go rfl ⟨rfl, rfl, rfl, ?_⟩
        rw [mx_pp, hX]
        exact ho h ga' ⟨hlo, fun q hq2 => hq q (by omega)⟩
      · exact absurd (nI_le (by omega) (by omega)) c
    | succ m ih =>
      intro i ga' hi hlo hq
      have sto : ∀ y : Int32, (y = if i < s then cs i else -1) → Rr 45 [some (mx_r 40), some (mx_i (nI s)), some (mx_i (nI i))] [mx_i y, mx_i (nI (4 * kc + i)), mx_r 47] (mx_put (mx_put (mx_put F 48 (mx_ia 5 cs)) 47 (mx_ia 800 ga')) 40 (e_M th sz mn sp wy (nI kc) sd)) 0 0 := by
        intro y hy
        refine go rfl ⟨_, _, _, _, _, _, rfl, rfl, (vp_in_nI (show 4 * kc + i < 800 by omega) (by omega)), ?_⟩
        rw [nI_clamp (by omega), mx_pc _ _ _ (show (47 : Nat) ≠ 40 by decide), mx_pp]
        refine go rfl ⟨_, rfl, ?_⟩
        refine go rfl ?_
        rw [nI_add]
        refine ih (i + 1) _ (by omega) (fun q hq2 => ?_) (fun q hq2 => ?_)
        · rw [pk_un (by omega)]
          exact hlo q hq2
        · by_cases e : q = i
          · rw [e, pk_us]
            exact hy
          · rw [pk_un (by omega)]
            exact hq q (by omega)
      refine go rfl ⟨_, rfl, ?_⟩
      refine go rfl ?_
      refine go rfl ⟨_, _, _, rfl, fun c => ?_, fun c => ?_⟩
      · exact absurd ((nI_leI (by omega) (by omega)).mp c) (by omega)
      refine go rfl ⟨_, rfl, ?_⟩
      refine go rfl ⟨_, _, _, _, rfl, rfl, rfl, ?_⟩
      refine go rfl ?_
      refine go rfl ⟨_, rfl, ?_⟩
      refine go rfl ⟨_, _, _, _, rfl, rfl, rfl, ?_⟩
      refine go rfl ⟨_, _, _, rfl, ?_⟩
      rw [pk_mul]
      refine go rfl ⟨_, rfl, ?_⟩
      refine go rfl ⟨_, _, _, rfl, ?_⟩
      rw [nI_add]
      refine go rfl ⟨_, rfl, ?_⟩
      refine go rfl ⟨_, rfl, ?_⟩
      refine go rfl ⟨_, _, _, rfl, fun c2 => ?_, fun c2 => ?_⟩
      · have c2 := (nI_leI (by omega) (by omega)).mp c2
        refine go rfl ?_
        exact sto _ (by rw [if_neg (by omega)])
      · have c2 : i < s := by
          rcases Nat.lt_or_ge i s with q | q
          · exact q
          · exact absurd (nI_le q (by omega)) c2
        refine go rfl ⟨_, rfl, ?_⟩
        refine go rfl ⟨_, _, _, _, rfl, rfl, rfl, ?_⟩
        refine go rfl ⟨_, rfl, ?_⟩
        refine go rfl ⟨_, _, _, _, _, rfl, rfl, (vp_in_nI (show i < 5 by omega) (by omega)), ?_⟩
        rw [nI_clamp (by omega)]
        refine go rfl ?_
        exact sto _ (by rw [if_pos c2])
  refine go rfl ?_
  refine go rfl ⟨_, _, rfl, ?_⟩
  exact loop 4 0 ga (by omega) (fun _ _ => rfl) (fun q hq => absurd hq (Nat.not_lt_zero q))
theorem getD_pre {pre : List Nat} {w i : Nat} (h : i < pre.length) : (pre ++ [w]).getD i 0 = pre.getD i 0 := by
  rw [List.getD_eq_getElem?_getD, List.getD_eq_getElem?_getD, List.getElem?_append_left h]
theorem getD_last {pre : List Nat} {w : Nat} : (pre ++ [w]).getD pre.length 0 = w := by
  rw [List.getD_eq_getElem?_getD, List.getElem?_append_right (Nat.le_refl _), Nat.sub_self]
  rfl
theorem lgneg {a b : Nat} (ha : a < 2 ^ 30) (hb : b < 2 ^ 30) : ¬ nI a - nI b < 0 ↔ b ≤ a := by
  rw [Int32.lt_iff_toInt_lt, pk_sub_toInt ha hb]
  have : (0 : Int32).toInt = 0 := by decide
  omega
theorem lgle {a : Nat} (ha : a < 2 ^ 31) : nI a ≤ 0 ↔ a = 0 := by
  rw [Int32.le_iff_toInt_le, nI_toInt ha]
  have : (0 : Int32).toInt = 0 := by decide
  omega
-- LadderWordsModel.gather(I)I
def sp_M_gather : mx_Sp := fun As F P => ∃ (th sp : Int32) (wy : Int64) (kp sd : Int32) (n : Nat) (N : Nat → Nat) (ch : Nat → Nat → Int32) (lt ml : Nat → Int32) (rn : Nat) (rl ga cs lf : Nat → Int32) (x : Int32), As = [mx_r 40, mx_i x] ∧ F 41 = some (mx_ia 12 rl) ∧ F 42 = some (mx_ia 360 lt) ∧ F 43 = some (mx_ia 60 ml) ∧ F 40 = some (e_M th (nI rn) (nI n) sp wy kp sd) ∧ F 47 = some (mx_ia 800 ga) ∧ F 48 = some (mx_ia 5 cs) ∧ F 49 = some (mx_ia 26 lf) ∧ rn ≤ 12 ∧ (∀ i, i < rn → vl (rl i)) ∧ mst n N ch lt ml ∧ ((¬ ∃ mo : Nat, 1 ≤ mo ∧ mo ≤ 4 ∧ x = nI mo) → P (some (mx_i (-1))) (mx_put F 40 (e_M (nI 0) (nI rn) (nI n) sp wy kp sd))) ∧ (∀ mo : Nat, 1 ≤ mo → mo ≤ 4 → x = nI mo → ∀ (kc' : Nat) ga' cs' lf' (tot' : Int32), ks (ge N ch mo 0 n (fun u => wc rl u rn)) kc' tot' ga' → P (some (mx_i tot')) (mx_put (mx_put (mx_put (mx_put F 40 (e_M (nI 0) (nI rn) (nI n) sp wy (nI kc') sd)) 47 (mx_ia 800 ga')) 48 (mx_ia 5 cs')) 49 (mx_ia 26 lf')))
theorem d_M_gather_0 : decode c_M_gather 0 = .ok (.aload_n 0, 1) := by decide +kernel
theorem d_M_gather_1 : decode c_M_gather 1 = .ok (.iconst 0, 1) := by decide +kernel
theorem d_M_gather_2 : decode c_M_gather 2 = .ok (.putfield 48, 3) := by decide +kernel
theorem d_M_gather_5 : decode c_M_gather 5 = .ok (.iload_n 1, 1) := by decide +kernel
theorem d_M_gather_6 : decode c_M_gather 6 = .ok (.iconst 1, 1) := by decide +kernel
theorem d_M_gather_7 : decode c_M_gather 7 = .ok (.if_icmp .lt 8, 3) := by decide +kernel
theorem d_M_gather_10 : decode c_M_gather 10 = .ok (.iload_n 1, 1) := by decide +kernel
theorem d_M_gather_11 : decode c_M_gather 11 = .ok (.iconst 4, 1) := by decide +kernel
theorem d_M_gather_12 : decode c_M_gather 12 = .ok (.if_icmp .le 5, 3) := by decide +kernel
theorem d_M_gather_15 : decode c_M_gather 15 = .ok (.iconst (-1), 1) := by decide +kernel
theorem d_M_gather_16 : decode c_M_gather 16 = .ok (.ireturn, 1) := by decide +kernel
theorem d_M_gather_17 : decode c_M_gather 17 = .ok (.aload_n 0, 1) := by decide +kernel
theorem d_M_gather_18 : decode c_M_gather 18 = .ok (.iconst 0, 1) := by decide +kernel
theorem d_M_gather_19 : decode c_M_gather 19 = .ok (.putfield 65, 3) := by decide +kernel
theorem d_M_gather_22 : decode c_M_gather 22 = .ok (.iconst 0, 1) := by decide +kernel
theorem d_M_gather_23 : decode c_M_gather 23 = .ok (.istore_n 2, 1) := by decide +kernel
theorem d_M_gather_24 : decode c_M_gather 24 = .ok (.iload_n 2, 1) := by decide +kernel
theorem d_M_gather_25 : decode c_M_gather 25 = .ok (.bipush 26, 2) := by decide +kernel
theorem d_M_gather_27 : decode c_M_gather 27 = .ok (.if_icmp .ge 16, 3) := by decide +kernel
theorem d_M_gather_30 : decode c_M_gather 30 = .ok (.aload_n 0, 1) := by decide +kernel
theorem d_M_gather_31 : decode c_M_gather 31 = .ok (.getfield 39, 3) := by decide +kernel
theorem d_M_gather_34 : decode c_M_gather 34 = .ok (.iload_n 2, 1) := by decide +kernel
theorem d_M_gather_35 : decode c_M_gather 35 = .ok (.iconst 0, 1) := by decide +kernel
theorem d_M_gather_36 : decode c_M_gather 36 = .ok (.iastore, 1) := by decide +kernel
theorem d_M_gather_37 : decode c_M_gather 37 = .ok (.iinc 2 1, 3) := by decide +kernel
theorem d_M_gather_40 : decode c_M_gather 40 = .ok (.goto (-16), 3) := by decide +kernel
theorem d_M_gather_43 : decode c_M_gather 43 = .ok (.iconst 0, 1) := by decide +kernel
theorem d_M_gather_44 : decode c_M_gather 44 = .ok (.istore_n 2, 1) := by decide +kernel
theorem d_M_gather_45 : decode c_M_gather 45 = .ok (.iload_n 2, 1) := by decide +kernel
theorem d_M_gather_46 : decode c_M_gather 46 = .ok (.aload_n 0, 1) := by decide +kernel
theorem d_M_gather_47 : decode c_M_gather 47 = .ok (.getfield 54, 3) := by decide +kernel
theorem d_M_gather_50 : decode c_M_gather 50 = .ok (.if_icmp .ge 27, 3) := by decide +kernel
theorem d_M_gather_53 : decode c_M_gather 53 = .ok (.aload_n 0, 1) := by decide +kernel
theorem d_M_gather_54 : decode c_M_gather 54 = .ok (.getfield 39, 3) := by decide +kernel
theorem d_M_gather_57 : decode c_M_gather 57 = .ok (.aload_n 0, 1) := by decide +kernel
theorem d_M_gather_58 : decode c_M_gather 58 = .ok (.getfield 7, 3) := by decide +kernel
theorem d_M_gather_61 : decode c_M_gather 61 = .ok (.iload_n 2, 1) := by decide +kernel
theorem d_M_gather_62 : decode c_M_gather 62 = .ok (.iaload, 1) := by decide +kernel
theorem d_M_gather_63 : decode c_M_gather 63 = .ok (.bipush 97, 2) := by decide +kernel
theorem d_M_gather_65 : decode c_M_gather 65 = .ok (.isub, 1) := by decide +kernel
theorem d_M_gather_66 : decode c_M_gather 66 = .ok (.dup2, 1) := by decide +kernel
theorem d_M_gather_67 : decode c_M_gather 67 = .ok (.iaload, 1) := by decide +kernel
theorem d_M_gather_68 : decode c_M_gather 68 = .ok (.iconst 1, 1) := by decide +kernel
theorem d_M_gather_69 : decode c_M_gather 69 = .ok (.iadd, 1) := by decide +kernel
theorem d_M_gather_70 : decode c_M_gather 70 = .ok (.iastore, 1) := by decide +kernel
theorem d_M_gather_71 : decode c_M_gather 71 = .ok (.iinc 2 1, 3) := by decide +kernel
theorem d_M_gather_74 : decode c_M_gather 74 = .ok (.goto (-29), 3) := by decide +kernel
theorem d_M_gather_77 : decode c_M_gather 77 = .ok (.aload_n 0, 1) := by decide +kernel
theorem d_M_gather_78 : decode c_M_gather 78 = .ok (.getfield 54, 3) := by decide +kernel
theorem d_M_gather_81 : decode c_M_gather 81 = .ok (.ifCond .ne 5, 3) := by decide +kernel
theorem d_M_gather_84 : decode c_M_gather 84 = .ok (.iconst 0, 1) := by decide +kernel
theorem d_M_gather_85 : decode c_M_gather 85 = .ok (.ireturn, 1) := by decide +kernel
theorem d_M_gather_86 : decode c_M_gather 86 = .ok (.iconst 0, 1) := by decide +kernel
theorem d_M_gather_87 : decode c_M_gather 87 = .ok (.istore_n 2, 1) := by decide +kernel
theorem d_M_gather_88 : decode c_M_gather 88 = .ok (.iconst 0, 1) := by decide +kernel
theorem d_M_gather_89 : decode c_M_gather 89 = .ok (.istore_n 3, 1) := by decide +kernel
theorem d_M_gather_90 : decode c_M_gather 90 = .ok (.aload_n 0, 1) := by decide +kernel
theorem d_M_gather_91 : decode c_M_gather 91 = .ok (.getfield 36, 3) := by decide +kernel
theorem d_M_gather_94 : decode c_M_gather 94 = .ok (.iconst 0, 1) := by decide +kernel
theorem d_M_gather_95 : decode c_M_gather 95 = .ok (.iconst (-1), 1) := by decide +kernel
theorem d_M_gather_96 : decode c_M_gather 96 = .ok (.iastore, 1) := by decide +kernel
theorem d_M_gather_97 : decode c_M_gather 97 = .ok (.iload_n 3, 1) := by decide +kernel
theorem d_M_gather_98 : decode c_M_gather 98 = .ok (.ifCond .lt 139, 3) := by decide +kernel
theorem d_M_gather_101 : decode c_M_gather 101 = .ok (.aload_n 0, 1) := by decide +kernel
theorem d_M_gather_102 : decode c_M_gather 102 = .ok (.getfield 36, 3) := by decide +kernel
theorem d_M_gather_105 : decode c_M_gather 105 = .ok (.iload_n 3, 1) := by decide +kernel
theorem d_M_gather_106 : decode c_M_gather 106 = .ok (.dup2, 1) := by decide +kernel
theorem d_M_gather_107 : decode c_M_gather 107 = .ok (.iaload, 1) := by decide +kernel
theorem d_M_gather_108 : decode c_M_gather 108 = .ok (.iconst 1, 1) := by decide +kernel
theorem d_M_gather_109 : decode c_M_gather 109 = .ok (.iadd, 1) := by decide +kernel
theorem d_M_gather_110 : decode c_M_gather 110 = .ok (.iastore, 1) := by decide +kernel
theorem d_M_gather_111 : decode c_M_gather 111 = .ok (.aload_n 0, 1) := by decide +kernel
theorem d_M_gather_112 : decode c_M_gather 112 = .ok (.getfield 36, 3) := by decide +kernel
theorem d_M_gather_115 : decode c_M_gather 115 = .ok (.iload_n 3, 1) := by decide +kernel
theorem d_M_gather_116 : decode c_M_gather 116 = .ok (.iaload, 1) := by decide +kernel
theorem d_M_gather_117 : decode c_M_gather 117 = .ok (.aload_n 0, 1) := by decide +kernel
theorem d_M_gather_118 : decode c_M_gather 118 = .ok (.getfield 51, 3) := by decide +kernel
theorem d_M_gather_121 : decode c_M_gather 121 = .ok (.if_icmp .lt 25, 3) := by decide +kernel
theorem d_M_gather_124 : decode c_M_gather 124 = .ok (.iinc 3 (-1), 3) := by decide +kernel
theorem d_M_gather_127 : decode c_M_gather 127 = .ok (.iload_n 3, 1) := by decide +kernel
theorem d_M_gather_128 : decode c_M_gather 128 = .ok (.ifCond .lt (-31), 3) := by decide +kernel
theorem d_M_gather_131 : decode c_M_gather 131 = .ok (.aload_n 0, 1) := by decide +kernel
theorem d_M_gather_132 : decode c_M_gather 132 = .ok (.aload_n 0, 1) := by decide +kernel
theorem d_M_gather_133 : decode c_M_gather 133 = .ok (.getfield 36, 3) := by decide +kernel
theorem d_M_gather_136 : decode c_M_gather 136 = .ok (.iload_n 3, 1) := by decide +kernel
theorem d_M_gather_137 : decode c_M_gather 137 = .ok (.iaload, 1) := by decide +kernel
theorem d_M_gather_138 : decode c_M_gather 138 = .ok (.iconst (-1), 1) := by decide +kernel
theorem d_M_gather_139 : decode c_M_gather 139 = .ok (.invokevirtual 93, 3) := by decide +kernel
theorem d_M_gather_142 : decode c_M_gather 142 = .ok (.pop, 1) := by decide +kernel
theorem d_M_gather_143 : decode c_M_gather 143 = .ok (.goto (-46), 3) := by decide +kernel
theorem d_M_gather_146 : decode c_M_gather 146 = .ok (.aload_n 0, 1) := by decide +kernel
theorem d_M_gather_147 : decode c_M_gather 147 = .ok (.aload_n 0, 1) := by decide +kernel
theorem d_M_gather_148 : decode c_M_gather 148 = .ok (.getfield 36, 3) := by decide +kernel
theorem d_M_gather_151 : decode c_M_gather 151 = .ok (.iload_n 3, 1) := by decide +kernel
theorem d_M_gather_152 : decode c_M_gather 152 = .ok (.iaload, 1) := by decide +kernel
theorem d_M_gather_153 : decode c_M_gather 153 = .ok (.iconst 1, 1) := by decide +kernel
theorem d_M_gather_154 : decode c_M_gather 154 = .ok (.invokevirtual 93, 3) := by decide +kernel
theorem d_M_gather_157 : decode c_M_gather 157 = .ok (.istore 4, 2) := by decide +kernel
theorem d_M_gather_159 : decode c_M_gather 159 = .ok (.iload 4, 2) := by decide +kernel
theorem d_M_gather_161 : decode c_M_gather 161 = .ok (.ifCond .eq 20, 3) := by decide +kernel
theorem d_M_gather_164 : decode c_M_gather 164 = .ok (.aload_n 0, 1) := by decide +kernel
theorem d_M_gather_165 : decode c_M_gather 165 = .ok (.invokevirtual 96, 3) := by decide +kernel
theorem d_M_gather_168 : decode c_M_gather 168 = .ok (.ifCond .eq 13, 3) := by decide +kernel
theorem d_M_gather_171 : decode c_M_gather 171 = .ok (.aload_n 0, 1) := by decide +kernel
theorem d_M_gather_172 : decode c_M_gather 172 = .ok (.iload_n 3, 1) := by decide +kernel
theorem d_M_gather_173 : decode c_M_gather 173 = .ok (.iconst 1, 1) := by decide +kernel
theorem d_M_gather_174 : decode c_M_gather 174 = .ok (.iadd, 1) := by decide +kernel
theorem d_M_gather_175 : decode c_M_gather 175 = .ok (.invokevirtual 100, 3) := by decide +kernel
theorem d_M_gather_178 : decode c_M_gather 178 = .ok (.iinc 2 1, 3) := by decide +kernel
theorem d_M_gather_181 : decode c_M_gather 181 = .ok (.iload 4, 2) := by decide +kernel
theorem d_M_gather_183 : decode c_M_gather 183 = .ok (.ifCond .eq 39, 3) := by decide +kernel
theorem d_M_gather_186 : decode c_M_gather 186 = .ok (.iload_n 3, 1) := by decide +kernel
theorem d_M_gather_187 : decode c_M_gather 187 = .ok (.iconst 1, 1) := by decide +kernel
theorem d_M_gather_188 : decode c_M_gather 188 = .ok (.iadd, 1) := by decide +kernel
theorem d_M_gather_189 : decode c_M_gather 189 = .ok (.iload_n 1, 1) := by decide +kernel
theorem d_M_gather_190 : decode c_M_gather 190 = .ok (.if_icmp .ge 32, 3) := by decide +kernel
theorem d_M_gather_193 : decode c_M_gather 193 = .ok (.aload_n 0, 1) := by decide +kernel
theorem d_M_gather_194 : decode c_M_gather 194 = .ok (.invokevirtual 96, 3) := by decide +kernel
theorem d_M_gather_197 : decode c_M_gather 197 = .ok (.ifCond .ne 25, 3) := by decide +kernel
theorem d_M_gather_200 : decode c_M_gather 200 = .ok (.iinc 3 1, 3) := by decide +kernel
theorem d_M_gather_203 : decode c_M_gather 203 = .ok (.aload_n 0, 1) := by decide +kernel
theorem d_M_gather_204 : decode c_M_gather 204 = .ok (.getfield 36, 3) := by decide +kernel
theorem d_M_gather_207 : decode c_M_gather 207 = .ok (.iload_n 3, 1) := by decide +kernel
theorem d_M_gather_208 : decode c_M_gather 208 = .ok (.aload_n 0, 1) := by decide +kernel
theorem d_M_gather_209 : decode c_M_gather 209 = .ok (.getfield 36, 3) := by decide +kernel
theorem d_M_gather_212 : decode c_M_gather 212 = .ok (.iload_n 3, 1) := by decide +kernel
theorem d_M_gather_213 : decode c_M_gather 213 = .ok (.iconst 1, 1) := by decide +kernel
theorem d_M_gather_214 : decode c_M_gather 214 = .ok (.isub, 1) := by decide +kernel
theorem d_M_gather_215 : decode c_M_gather 215 = .ok (.iaload, 1) := by decide +kernel
theorem d_M_gather_216 : decode c_M_gather 216 = .ok (.iconst 1, 1) := by decide +kernel
theorem d_M_gather_217 : decode c_M_gather 217 = .ok (.isub, 1) := by decide +kernel
theorem d_M_gather_218 : decode c_M_gather 218 = .ok (.iastore, 1) := by decide +kernel
theorem d_M_gather_219 : decode c_M_gather 219 = .ok (.goto 15, 3) := by decide +kernel
theorem d_M_gather_222 : decode c_M_gather 222 = .ok (.aload_n 0, 1) := by decide +kernel
theorem d_M_gather_223 : decode c_M_gather 223 = .ok (.aload_n 0, 1) := by decide +kernel
theorem d_M_gather_224 : decode c_M_gather 224 = .ok (.getfield 36, 3) := by decide +kernel
theorem d_M_gather_227 : decode c_M_gather 227 = .ok (.iload_n 3, 1) := by decide +kernel
theorem d_M_gather_228 : decode c_M_gather 228 = .ok (.iaload, 1) := by decide +kernel
theorem d_M_gather_229 : decode c_M_gather 229 = .ok (.iconst (-1), 1) := by decide +kernel
theorem d_M_gather_230 : decode c_M_gather 230 = .ok (.invokevirtual 93, 3) := by decide +kernel
theorem d_M_gather_233 : decode c_M_gather 233 = .ok (.pop, 1) := by decide +kernel
theorem d_M_gather_234 : decode c_M_gather 234 = .ok (.goto (-137), 3) := by decide +kernel
theorem d_M_gather_237 : decode c_M_gather 237 = .ok (.iload_n 2, 1) := by decide +kernel
theorem d_M_gather_238 : decode c_M_gather 238 = .ok (.ireturn, 1) := by decide +kernel
abbrev w_M_gather : List Cond := mx_ws y_M_gather c_M_gather 5 (some .int)
abbrev rm_M_gather : Room := { frames := 30, cells := 0, slots := 0, locals := 600 }
def t_M_gather  (P : Option mx_V → mx_F → Prop) : List (Nat × mx_O) := [
  (0, mx_aload 0 1),
  (1, mx_push (.inl (nI 0)) 2),
  (2, mx_puti 7 0 5),
  (5, mx_iload 1 6),
  (6, mx_push (.inl (nI 1)) 7),
  (7, mx_ic_lt 15 10),
  (10, mx_iload 1 11),
  (11, mx_push (.inl (nI 4)) 12),
  (12, mx_ic_le 17 15),
  (15, mx_push (.inl (-1)) 16),
  (16, mx_iret P),
  (17, mx_aload 0 18),
  (18, mx_push (.inl (nI 0)) 19),
  (19, mx_puti 7 11 22),
  (22, mx_push (.inl (nI 0)) 23),
  (23, mx_istore 2 24),
  (24, mx_iload 2 25),
  (25, mx_push (.inl (nI 26)) 27),
  (27, mx_ic_ge 43 30),
  (30, mx_aload 0 31),
  (31, mx_get 7 14 34),
  (34, mx_iload 2 35),
  (35, mx_push (.inl (nI 0)) 36),
  (36, mx_iast 37),
  (37, mx_iinc 2 (nI 1) 40),
  (40, mx_goto 24),
  (43, mx_push (.inl (nI 0)) 44),
  (44, mx_istore 2 45),
  (45, mx_iload 2 46),
  (46, mx_aload 0 47),
  (47, mx_get 7 1 50),
  (50, mx_ic_ge 77 53),
  (53, mx_aload 0 54),
  (54, mx_get 7 14 57),
  (57, mx_aload 0 58),
  (58, mx_get 7 2 61),
  (61, mx_iload 2 62),
  (62, mx_iald 63),
  (63, mx_push (.inl (nI 97)) 65),
  (65, mx_isub 66),
  (66, mx_dup2 67),
  (67, mx_iald 68),
  (68, mx_push (.inl (nI 1)) 69),
  (69, mx_iadd 70),
  (70, mx_iast 71),
  (71, mx_iinc 2 (nI 1) 74),
  (74, mx_goto 45),
  (77, mx_aload 0 78),
  (78, mx_get 7 1 81),
  (81, mx_if_ne 86 84),
  (84, mx_push (.inl (nI 0)) 85),
  (85, mx_iret P),
  (86, mx_push (.inl (nI 0)) 87),
  (87, mx_istore 2 88),
  (88, mx_push (.inl (nI 0)) 89),
  (89, mx_istore 3 90),
  (90, mx_aload 0 91),
  (91, mx_get 7 13 94),
  (94, mx_push (.inl (nI 0)) 95),
  (95, mx_push (.inl (-1)) 96),
  (96, mx_iast 97),
  (97, mx_iload 3 98),
  (98, mx_if_lt 237 101),
  (101, mx_aload 0 102),
  (102, mx_get 7 13 105),
  (105, mx_iload 3 106),
  (106, mx_dup2 107),
  (107, mx_iald 108),
  (108, mx_push (.inl (nI 1)) 109),
  (109, mx_iadd 110),
  (110, mx_iast 111),
  (111, mx_aload 0 112),
  (112, mx_get 7 13 115),
  (115, mx_iload 3 116),
  (116, mx_iald 117),
  (117, mx_aload 0 118),
  (118, mx_get 7 3 121),
  (121, mx_ic_lt 146 124),
  (124, mx_iinc 3 (-1) 127),
  (127, mx_iload 3 128),
  (128, mx_if_lt 97 131),
  (131, mx_aload 0 132),
  (132, mx_aload 0 133),
  (133, mx_get 7 13 136),
  (136, mx_iload 3 137),
  (137, mx_iald 138),
  (138, mx_push (.inl (-1)) 139),
  (139, mx_cv2 7 sp_M_take 0 0 142),
  (142, mx_pop 143),
  (143, mx_goto 97),
  (146, mx_aload 0 147),
  (147, mx_aload 0 148),
  (148, mx_get 7 13 151),
  (151, mx_iload 3 152),
  (152, mx_iald 153),
  (153, mx_push (.inl (nI 1)) 154),
  (154, mx_cv2 7 sp_M_take 0 0 157),
  (157, mx_istore 4 159),
  (159, mx_iload 4 161),
  (161, mx_if_eq 181 164),
  (164, mx_aload 0 165),
  (165, mx_cv0 7 sp_M_isEmpty 0 0 168),
  (168, mx_if_eq 181 171),
  (171, mx_aload 0 172),
  (172, mx_iload 3 173),
  (173, mx_push (.inl (nI 1)) 174),
  (174, mx_iadd 175),
  (175, mx_cv1 7 sp_M_keep 0 0 178),
  (178, mx_iinc 2 (nI 1) 181),
  (181, mx_iload 4 183),
  (183, mx_if_eq 222 186),
  (186, mx_iload 3 187),
  (187, mx_push (.inl (nI 1)) 188),
  (188, mx_iadd 189),
  (189, mx_iload 1 190),
  (190, mx_ic_ge 222 193),
  (193, mx_aload 0 194),
  (194, mx_cv0 7 sp_M_isEmpty 0 0 197),
  (197, mx_if_ne 222 200),
  (200, mx_iinc 3 (nI 1) 203),
  (203, mx_aload 0 204),
  (204, mx_get 7 13 207),
  (207, mx_iload 3 208),
  (208, mx_aload 0 209),
  (209, mx_get 7 13 212),
  (212, mx_iload 3 213),
  (213, mx_push (.inl (nI 1)) 214),
  (214, mx_isub 215),
  (215, mx_iald 216),
  (216, mx_push (.inl (nI 1)) 217),
  (217, mx_isub 218),
  (218, mx_iast 219),
  (219, mx_goto 234),
  (222, mx_aload 0 223),
  (223, mx_aload 0 224),
  (224, mx_get 7 13 227),
  (227, mx_iload 3 228),
  (228, mx_iald 229),
  (229, mx_push (.inl (-1)) 230),
  (230, mx_cv2 7 sp_M_take 0 0 233),
  (233, mx_pop 234),
  (234, mx_goto 97),
  (237, mx_iload 2 238),
  (238, mx_iret P)]
set_option maxRecDepth 20000 in
theorem a_M_gather  {p : Program} {l : Launch} {e : Env} {s : State} {m : MethodId} {args : Array Value} {below : List Frame} {meth : Method} {c : Code} {D : va_G} {tc : Nat → ClassId} {tb : Nat → Nat} {sz : Nat} {a0 : Nat → Nat} {G : mx_F} {P : Option mx_V → mx_F → Prop}  (C : mx_C p s m args c c_M_gather y_M_gather.cls w_M_gather D tc tb (mx_A a0 G sz) 5 (mx_Ok0 a0 G)) (hr : meth.sig.returnType = (some .int)) (hlk : meth.locks = false) : mx_all (mx_W p l e rm_M_gather s m args below meth c (MQ below (mx_Q D tc tb a0 G sz P) args s 0 0 (mx_A a0 G sz)) D tc tb (mx_A a0 G sz) 5 (mx_Ok0 a0 G)) (t_M_gather  P) :=
  ⟨mx_s_aload_n C d_M_gather_0 rfl,
  mx_s_iconst C d_M_gather_1 (by decide),
  mx_s_puti (T := T_M) (N := 18) (k := 0) C (fun w h => List.mem_cons_of_mem _ (in_M w h)) rfl ty_M ok_M nm_M (by decide) (List.mem_cons_of_mem _ fk_M_48) rfl rfl (ok_M 0 (by decide)) d_M_gather_2,
  mx_s_iload_n C d_M_gather_5 rfl,
  mx_s_iconst C d_M_gather_6 (by decide),
  mx_s_ic_lt C d_M_gather_7 (by decide),
  mx_s_iload_n C d_M_gather_10 rfl,
  mx_s_iconst C d_M_gather_11 (by decide),
  mx_s_ic_le C d_M_gather_12 (by decide),
  mx_s_iconst C d_M_gather_15 (by decide),
  mx_s_iret C hr hlk d_M_gather_16,
  mx_s_aload_n C d_M_gather_17 rfl,
  mx_s_iconst C d_M_gather_18 (by decide),
  mx_s_puti (T := T_M) (N := 18) (k := 11) C (fun w h => List.mem_cons_of_mem _ (in_M w h)) rfl ty_M ok_M nm_M (by decide) (List.mem_cons_of_mem _ fk_M_65) rfl rfl (ok_M 11 (by decide)) d_M_gather_19,
  mx_s_iconst C d_M_gather_22 (by decide),
  mx_s_istore_n C d_M_gather_23 rfl (by decide),
  mx_s_iload_n C d_M_gather_24 rfl,
  mx_s_bipush C d_M_gather_25 (by decide),
  mx_s_ic_ge C d_M_gather_27 (by decide),
  mx_s_aload_n C d_M_gather_30 rfl,
  mx_s_get (T := T_M) (N := 18) (k := 14) C (fun w h => List.mem_cons_of_mem _ (in_M w h)) rfl (by decide) (List.mem_cons_of_mem _ fk_M_39) rfl d_M_gather_31,
  mx_s_iload_n C d_M_gather_34 rfl,
  mx_s_iconst C d_M_gather_35 (by decide),
  mx_s_iast C d_M_gather_36,
  mx_s_iinc C d_M_gather_37 (by decide) (by decide),
  mx_s_goto C d_M_gather_40 (by decide),
  mx_s_iconst C d_M_gather_43 (by decide),
  mx_s_istore_n C d_M_gather_44 rfl (by decide),
  mx_s_iload_n C d_M_gather_45 rfl,
  mx_s_aload_n C d_M_gather_46 rfl,
  mx_s_get (T := T_M) (N := 18) (k := 1) C (fun w h => List.mem_cons_of_mem _ (in_M w h)) rfl (by decide) (List.mem_cons_of_mem _ fk_M_54) rfl d_M_gather_47,
  mx_s_ic_ge C d_M_gather_50 (by decide),
  mx_s_aload_n C d_M_gather_53 rfl,
  mx_s_get (T := T_M) (N := 18) (k := 14) C (fun w h => List.mem_cons_of_mem _ (in_M w h)) rfl (by decide) (List.mem_cons_of_mem _ fk_M_39) rfl d_M_gather_54,
  mx_s_aload_n C d_M_gather_57 rfl,
  mx_s_get (T := T_M) (N := 18) (k := 2) C (fun w h => List.mem_cons_of_mem _ (in_M w h)) rfl (by decide) (List.mem_cons_of_mem _ fk_M_7) rfl d_M_gather_58,
  mx_s_iload_n C d_M_gather_61 rfl,
  mx_s_iald C d_M_gather_62,
  mx_s_bipush C d_M_gather_63 (by decide),
  mx_s_isub C d_M_gather_65,
  mx_s_dup2 C d_M_gather_66,
  mx_s_iald C d_M_gather_67,
  mx_s_iconst C d_M_gather_68 (by decide),
  mx_s_iadd C d_M_gather_69,
  mx_s_iast C d_M_gather_70,
  mx_s_iinc C d_M_gather_71 (by decide) (by decide),
  mx_s_goto C d_M_gather_74 (by decide),
  mx_s_aload_n C d_M_gather_77 rfl,
  mx_s_get (T := T_M) (N := 18) (k := 1) C (fun w h => List.mem_cons_of_mem _ (in_M w h)) rfl (by decide) (List.mem_cons_of_mem _ fk_M_54) rfl d_M_gather_78,
  mx_s_if_ne C d_M_gather_81 (by decide),
  mx_s_iconst C d_M_gather_84 (by decide),
  mx_s_iret C hr hlk d_M_gather_85,
  mx_s_iconst C d_M_gather_86 (by decide),
  mx_s_istore_n C d_M_gather_87 rfl (by decide),
  mx_s_iconst C d_M_gather_88 (by decide),
  mx_s_istore_n C d_M_gather_89 rfl (by decide),
  mx_s_aload_n C d_M_gather_90 rfl,
  mx_s_get (T := T_M) (N := 18) (k := 13) C (fun w h => List.mem_cons_of_mem _ (in_M w h)) rfl (by decide) (List.mem_cons_of_mem _ fk_M_36) rfl d_M_gather_91,
  mx_s_iconst C d_M_gather_94 (by decide),
  mx_s_iconst C d_M_gather_95 (by decide),
  mx_s_iast C d_M_gather_96,
  mx_s_iload_n C d_M_gather_97 rfl,
  mx_s_if_lt C d_M_gather_98 (by decide),
  mx_s_aload_n C d_M_gather_101 rfl,
  mx_s_get (T := T_M) (N := 18) (k := 13) C (fun w h => List.mem_cons_of_mem _ (in_M w h)) rfl (by decide) (List.mem_cons_of_mem _ fk_M_36) rfl d_M_gather_102,
  mx_s_iload_n C d_M_gather_105 rfl,
  mx_s_dup2 C d_M_gather_106,
  mx_s_iald C d_M_gather_107,
  mx_s_iconst C d_M_gather_108 (by decide),
  mx_s_iadd C d_M_gather_109,
  mx_s_iast C d_M_gather_110,
  mx_s_aload_n C d_M_gather_111 rfl,
  mx_s_get (T := T_M) (N := 18) (k := 13) C (fun w h => List.mem_cons_of_mem _ (in_M w h)) rfl (by decide) (List.mem_cons_of_mem _ fk_M_36) rfl d_M_gather_112,
  mx_s_iload_n C d_M_gather_115 rfl,
  mx_s_iald C d_M_gather_116,
  mx_s_aload_n C d_M_gather_117 rfl,
  mx_s_get (T := T_M) (N := 18) (k := 3) C (fun w h => List.mem_cons_of_mem _ (in_M w h)) rfl (by decide) (List.mem_cons_of_mem _ fk_M_51) rfl d_M_gather_118,
  mx_s_ic_lt C d_M_gather_121 (by decide),
  mx_s_iinc C d_M_gather_124 (by decide) (by decide),
  mx_s_iload_n C d_M_gather_127 rfl,
  mx_s_if_lt C d_M_gather_128 (by decide),
  mx_s_aload_n C d_M_gather_131 rfl,
  mx_s_aload_n C d_M_gather_132 rfl,
  mx_s_get (T := T_M) (N := 18) (k := 13) C (fun w h => List.mem_cons_of_mem _ (in_M w h)) rfl (by decide) (List.mem_cons_of_mem _ fk_M_36) rfl d_M_gather_133,
  mx_s_iload_n C d_M_gather_136 rfl,
  mx_s_iald C d_M_gather_137,
  mx_s_iconst C d_M_gather_138 (by decide),
  mx_s_cv2 C (m_M_take l) rfl (cwV 2 C.2.2.2.2.1 (mx_gV (fun w h => List.mem_cons_of_mem _ h) mk_M_93 im_M_take se_M_take ic_M co_M_take) rfl rfl rfl (by decide +kernel) ⟨by decide, by decide⟩) d_M_gather_139 ⟨Nat.zero_le _, Nat.zero_le _⟩,
  mx_s_pop C d_M_gather_142,
  mx_s_goto C d_M_gather_143 (by decide),
  mx_s_aload_n C d_M_gather_146 rfl,
  mx_s_aload_n C d_M_gather_147 rfl,
  mx_s_get (T := T_M) (N := 18) (k := 13) C (fun w h => List.mem_cons_of_mem _ (in_M w h)) rfl (by decide) (List.mem_cons_of_mem _ fk_M_36) rfl d_M_gather_148,
  mx_s_iload_n C d_M_gather_151 rfl,
  mx_s_iald C d_M_gather_152,
  mx_s_iconst C d_M_gather_153 (by decide),
  mx_s_cv2 C (m_M_take l) rfl (cwV 2 C.2.2.2.2.1 (mx_gV (fun w h => List.mem_cons_of_mem _ h) mk_M_93 im_M_take se_M_take ic_M co_M_take) rfl rfl rfl (by decide +kernel) ⟨by decide, by decide⟩) d_M_gather_154 ⟨Nat.zero_le _, Nat.zero_le _⟩,
  mx_s_istore C d_M_gather_157 (by decide),
  mx_s_iload C d_M_gather_159,
  mx_s_if_eq C d_M_gather_161 (by decide),
  mx_s_aload_n C d_M_gather_164 rfl,
  mx_s_cv0 C (m_M_isEmpty l) rfl (cwV 0 C.2.2.2.2.1 (mx_gV (fun w h => List.mem_cons_of_mem _ h) mk_M_96 im_M_isEmpty se_M_isEmpty ic_M co_M_isEmpty) rfl rfl rfl (by decide +kernel) ⟨by decide, by decide⟩) d_M_gather_165 ⟨Nat.zero_le _, Nat.zero_le _⟩,
  mx_s_if_eq C d_M_gather_168 (by decide),
  mx_s_aload_n C d_M_gather_171 rfl,
  mx_s_iload_n C d_M_gather_172 rfl,
  mx_s_iconst C d_M_gather_173 (by decide),
  mx_s_iadd C d_M_gather_174,
  mx_s_cv1 C (m_M_keep l) rfl (cwV 1 C.2.2.2.2.1 (mx_gV (fun w h => List.mem_cons_of_mem _ h) mk_M_100 im_M_keep se_M_keep ic_M co_M_keep) rfl rfl rfl (by decide +kernel) ⟨by decide, by decide⟩) d_M_gather_175 ⟨Nat.zero_le _, Nat.zero_le _⟩,
  mx_s_iinc C d_M_gather_178 (by decide) (by decide),
  mx_s_iload C d_M_gather_181,
  mx_s_if_eq C d_M_gather_183 (by decide),
  mx_s_iload_n C d_M_gather_186 rfl,
  mx_s_iconst C d_M_gather_187 (by decide),
  mx_s_iadd C d_M_gather_188,
  mx_s_iload_n C d_M_gather_189 rfl,
  mx_s_ic_ge C d_M_gather_190 (by decide),
  mx_s_aload_n C d_M_gather_193 rfl,
  mx_s_cv0 C (m_M_isEmpty l) rfl (cwV 0 C.2.2.2.2.1 (mx_gV (fun w h => List.mem_cons_of_mem _ h) mk_M_96 im_M_isEmpty se_M_isEmpty ic_M co_M_isEmpty) rfl rfl rfl (by decide +kernel) ⟨by decide, by decide⟩) d_M_gather_194 ⟨Nat.zero_le _, Nat.zero_le _⟩,
  mx_s_if_ne C d_M_gather_197 (by decide),
  mx_s_iinc C d_M_gather_200 (by decide) (by decide),
  mx_s_aload_n C d_M_gather_203 rfl,
  mx_s_get (T := T_M) (N := 18) (k := 13) C (fun w h => List.mem_cons_of_mem _ (in_M w h)) rfl (by decide) (List.mem_cons_of_mem _ fk_M_36) rfl d_M_gather_204,
  mx_s_iload_n C d_M_gather_207 rfl,
  mx_s_aload_n C d_M_gather_208 rfl,
  mx_s_get (T := T_M) (N := 18) (k := 13) C (fun w h => List.mem_cons_of_mem _ (in_M w h)) rfl (by decide) (List.mem_cons_of_mem _ fk_M_36) rfl d_M_gather_209,
  mx_s_iload_n C d_M_gather_212 rfl,
  mx_s_iconst C d_M_gather_213 (by decide),
  mx_s_isub C d_M_gather_214,
  mx_s_iald C d_M_gather_215,
  mx_s_iconst C d_M_gather_216 (by decide),
  mx_s_isub C d_M_gather_217,
  mx_s_iast C d_M_gather_218,
  mx_s_goto C d_M_gather_219 (by decide),
  mx_s_aload_n C d_M_gather_222 rfl,
  mx_s_aload_n C d_M_gather_223 rfl,
  mx_s_get (T := T_M) (N := 18) (k := 13) C (fun w h => List.mem_cons_of_mem _ (in_M w h)) rfl (by decide) (List.mem_cons_of_mem _ fk_M_36) rfl d_M_gather_224,
  mx_s_iload_n C d_M_gather_227 rfl,
  mx_s_iald C d_M_gather_228,
  mx_s_iconst C d_M_gather_229 (by decide),
  mx_s_cv2 C (m_M_take l) rfl (cwV 2 C.2.2.2.2.1 (mx_gV (fun w h => List.mem_cons_of_mem _ h) mk_M_93 im_M_take se_M_take ic_M co_M_take) rfl rfl rfl (by decide +kernel) ⟨by decide, by decide⟩) d_M_gather_230 ⟨Nat.zero_le _, Nat.zero_le _⟩,
  mx_s_pop C d_M_gather_233,
  mx_s_goto C d_M_gather_234 (by decide),
  mx_s_iload_n C d_M_gather_237 rfl,
  mx_s_iret C hr hlk d_M_gather_238,
  trivial⟩
set_option maxRecDepth 20000 in
set_option maxHeartbeats 2000000 in
theorem m_M_gather (l : Launch) : mx_M l y_M_gather w_M_gather rm_M_gather sp_M_gather := by
  intro zD ztc ztb zad As F P sz0 h
  obtain ⟨th, sp, wy, kp, sd, n, N, ch, lt, ml, rn, rl, ga, cs, lf, x, rfl, h1, h2, h3, h0, h47, h48, h49, hrn, hrl, hw, hz, ho⟩ := h
  refine mx_run (cc := c_M_gather) (maxL := 5) (ret := (some .int)) (tab := t_M_gather  P) (by decide) rfl zD ztc ztb zad _ F P sz0 (Nat.le_of_ble_eq_true rfl) (fun p e s m args below meth c C hr hlk => a_M_gather  C hr hlk) ?_
  intro Rr go
  have hF : F = (mx_put (mx_put (mx_put (mx_put (mx_put (mx_put (mx_put F 41 (mx_ia 12 rl)) 42 (mx_ia 360 lt)) 43 (mx_ia 60 ml)) 40 (e_M th (nI rn) (nI n) sp wy kp sd)) 47 (mx_ia 800 ga)) 48 (mx_ia 5 cs)) 49 (mx_ia 26 lf)) := by rw [mx_self h1, mx_self h2, mx_self h3, mx_self h0, mx_self h47, mx_self h48, mx_self h49]
  have hB : (mx_put (mx_put (mx_put F 41 (mx_ia 12 rl)) 42 (mx_ia 360 lt)) 43 (mx_ia 60 ml)) = F := by rw [mx_self h1, mx_self h2, mx_self h3]
  have hW0 : ∀ e, mx_put (mx_put (mx_put (mx_put F 40 e) 47 (mx_ia 800 ga)) 48 (mx_ia 5 cs)) 49 (mx_ia 26 lf) = mx_put F 40 e := by
    intro e
    rw [mx_pc _ _ _ (show (47 : Nat) ≠ 40 by decide), mx_pc _ _ _ (show (48 : Nat) ≠ 40 by decide), mx_pc _ _ _ (show (49 : Nat) ≠ 40 by decide), mx_self h47, mx_self h48, mx_self h49]
  have hn := hw.1.1
  rw [hF]
  refine go rfl ⟨_, rfl, ?_⟩
  refine go rfl ?_
  refine go rfl ⟨_, _, _, _, rfl, rfl, (Nat.le_of_ble_eq_true rfl), ?_⟩
  rw [mx_pc _ _ _ (show (40 : Nat) ≠ 49 by decide), mx_pc _ _ _ (show (40 : Nat) ≠ 48 by decide), mx_pc _ _ _ (show (40 : Nat) ≠ 47 by decide), mx_pp]
  have bad : (¬ ∃ mo : Nat, 1 ≤ mo ∧ mo ≤ 4 ∧ x = nI mo) → Rr 15 (mx_en [mx_r 40, mx_i x] 5) [] (mx_put (mx_put (mx_put (mx_put (mx_put (mx_put (mx_put F 41 (mx_ia 12 rl)) 42 (mx_ia 360 lt)) 43 (mx_ia 60 ml)) 40 (e_M (nI 0) (nI rn) (nI n) sp wy kp sd)) 47 (mx_ia 800 ga)) 48 (mx_ia 5 cs)) 49 (mx_ia 26 lf)) 0 0 := by
    intro h
    refine go rfl ?_
    refine go rfl ⟨_, rfl, rfl, rfl, ?_⟩
    rw [hB, hW0]
    exact hz h
  refine go rfl ⟨_, rfl, ?_⟩
  refine go rfl ?_
  refine go rfl ⟨_, _, _, rfl, fun c1 => ?_, fun c1 => ?_⟩
  · refine bad ?_
    rintro ⟨mo, q1, q2, rfl⟩
    exact absurd ((nI_ltI (by omega) (by omega)).mp c1) (by omega)
  refine go rfl ⟨_, rfl, ?_⟩
  refine go rfl ?_
  refine go rfl ⟨_, _, _, rfl, fun c2 => ?_, fun c2 => ?_⟩
  rotate_left
  · refine bad ?_
    rintro ⟨mo, q1, q2, rfl⟩
    exact c2 (nI_le q2 (by omega))
  have hx0 : ¬ x < 0 := by
    intro h
    refine c1 ?_
    rw [Int32.lt_iff_toInt_lt] at h ⊢
    rw [nI_toInt (by omega)]
    have : (0 : Int32).toInt = 0 := by decide
    omega
  obtain ⟨mo, hmo, rfl⟩ := nI_of hx0
  have hm1 : 1 ≤ mo := by
    rcases Nat.lt_or_ge mo 1 with q | q
    · exact absurd (nI_lt q (by omega)) c1
    · exact q
  have hm4 : mo ≤ 4 := (nI_leI (by omega) (by omega)).mp c2
  have ho := ho mo hm1 hm4 rfl
  have step : ∀ (k v : Nat) (pre : List Nat) (l lp : Nat → Nat) (L : List (List Nat)), k < mo → v ≤ n → pre.length = k → (∀ i, i < k → pre.getD i 0 < n) → (∀ u, u < 26 → l u ≤ 12) → (0 < k → ∀ u, u < 26 → lp u = l u + wc (ch (pre.getD (k - 1) 0)) u (N (pre.getD (k - 1) 0))) → (v = n → (∀ (kc' : Nat) (ga' cs' lf' : Nat → Int32) (tot' : Int32) (j4 : Option mx_V), ks (L) kc' tot' ga' → (∀ i, i < k → cs' i = nI (List.getD (pre) i 0)) → (0 < k → ∀ u, u < 26 → lf' u = nI (lp u)) → Rr 97 [some (mx_r 40), some (mx_i (nI mo)), some (mx_i tot'), some (mx_i (nI k + (-1))), j4] [] (mx_put (mx_put (mx_put (mx_put (mx_put (mx_put (mx_put F 41 (mx_ia 12 rl)) 42 (mx_ia 360 lt)) 43 (mx_ia 60 ml)) 40 (e_M (nI 0) (nI rn) (nI n) sp wy (nI kc') sd)) 47 (mx_ia 800 ga')) 48 (mx_ia 5 cs')) 49 (mx_ia 26 lf')) 0 0)) → (v < n → ¬ fitw N ch l v → (∀ (kc' : Nat) (ga' cs' lf' : Nat → Int32) (tot' : Int32) (j4 : Option mx_V), ks (L) kc' tot' ga' → (∀ i, i < k → cs' i = nI (List.getD (pre) i 0)) → (∀ u, u < 26 → lf' u = nI (l u)) → cs' k + nI 1 = nI (v + 1) → Rr 97 [some (mx_r 40), some (mx_i (nI mo)), some (mx_i tot'), some (mx_i (nI k)), j4] [] (mx_put (mx_put (mx_put (mx_put (mx_put (mx_put (mx_put F 41 (mx_ia 12 rl)) 42 (mx_ia 360 lt)) 43 (mx_ia 60 ml)) 40 (e_M (nI 0) (nI rn) (nI n) sp wy (nI kc') sd)) 47 (mx_ia 800 ga')) 48 (mx_ia 5 cs')) 49 (mx_ia 26 lf')) 0 0)) → (v < n → fitw N ch l v → empl (subw N ch l v) → (∀ (kc' : Nat) (ga' cs' lf' : Nat → Int32) (tot' : Int32) (j4 : Option mx_V), ks (L ++ [pre ++ [v]]) kc' tot' ga' → (∀ i, i < k → cs' i = nI (List.getD (pre) i 0)) → (∀ u, u < 26 → lf' u = nI (l u)) → cs' k + nI 1 = nI (v + 1) → Rr 97 [some (mx_r 40), some (mx_i (nI mo)), some (mx_i tot'), some (mx_i (nI k)), j4] [] (mx_put (mx_put (mx_put (mx_put (mx_put (mx_put (mx_put F 41 (mx_ia 12 rl)) 42 (mx_ia 360 lt)) 43 (mx_ia 60 ml)) 40 (e_M (nI 0) (nI rn) (nI n) sp wy (nI kc') sd)) 47 (mx_ia 800 ga')) 48 (mx_ia 5 cs')) 49 (mx_ia 26 lf')) 0 0)) → (v < n → fitw N ch l v → ¬ empl (subw N ch l v) → k + 1 < mo → (∀ (kc' : Nat) (ga' cs' lf' : Nat → Int32) (tot' : Int32) (j4 : Option mx_V), ks (L) kc' tot' ga' → (∀ i, i < (k + 1) → cs' i = nI (List.getD ((pre ++ [v])) i 0)) → (∀ u, u < 26 → lf' u = nI ((subw N ch l v) u)) → cs' (k + 1) + nI 1 = nI v → Rr 97 [some (mx_r 40), some (mx_i (nI mo)), some (mx_i tot'), some (mx_i (nI (k + 1))), j4] [] (mx_put (mx_put (mx_put (mx_put (mx_put (mx_put (mx_put F 41 (mx_ia 12 rl)) 42 (mx_ia 360 lt)) 43 (mx_ia 60 ml)) 40 (e_M (nI 0) (nI rn) (nI n) sp wy (nI kc') sd)) 47 (mx_ia 800 ga')) 48 (mx_ia 5 cs')) 49 (mx_ia 26 lf')) 0 0)) → (v < n → fitw N ch l v → ¬ empl (subw N ch l v) → mo ≤ k + 1 → (∀ (kc' : Nat) (ga' cs' lf' : Nat → Int32) (tot' : Int32) (j4 : Option mx_V), ks (L) kc' tot' ga' → (∀ i, i < k → cs' i = nI (List.getD (pre) i 0)) → (∀ u, u < 26 → lf' u = nI (l u)) → cs' k + nI 1 = nI (v + 1) → Rr 97 [some (mx_r 40), some (mx_i (nI mo)), some (mx_i tot'), some (mx_i (nI k)), j4] [] (mx_put (mx_put (mx_put (mx_put (mx_put (mx_put (mx_put F 41 (mx_ia 12 rl)) 42 (mx_ia 360 lt)) 43 (mx_ia 60 ml)) 40 (e_M (nI 0) (nI rn) (nI n) sp wy (nI kc') sd)) 47 (mx_ia 800 ga')) 48 (mx_ia 5 cs')) 49 (mx_ia 26 lf')) 0 0)) → (∀ (kc' : Nat) (ga' cs' lf' : Nat → Int32) (tot' : Int32) (j4 : Option mx_V), ks (L) kc' tot' ga' → (∀ i, i < k → cs' i = nI (List.getD (pre) i 0)) → (∀ u, u < 26 → lf' u = nI (l u)) → cs' k + nI 1 = nI v → Rr 97 [some (mx_r 40), some (mx_i (nI mo)), some (mx_i tot'), some (mx_i (nI k)), j4] [] (mx_put (mx_put (mx_put (mx_put (mx_put (mx_put (mx_put F 41 (mx_ia 12 rl)) 42 (mx_ia 360 lt)) 43 (mx_ia 60 ml)) 40 (e_M (nI 0) (nI rn) (nI n) sp wy (nI kc') sd)) 47 (mx_ia 800 ga')) 48 (mx_ia 5 cs')) 49 (mx_ia 26 lf')) 0 0) := by
    intro k v pre l lp L hk hv hpl hpn hl12 hlp hA hB2 hC hD hE kc' ga' cs' lf' tot' j4 hks hcs hlf hval
    have hkc := ks_le hks
    refine go rfl ⟨_, rfl, ?_⟩
    refine go rfl ⟨_, _, rfl, fun c => ?_, fun c => ?_⟩
    · exact absurd c (nI_pos (by omega))
    refine go rfl ⟨_, rfl, ?_⟩
    refine go rfl ⟨_, _, _, _, rfl, rfl, rfl, ?_⟩
    refine go rfl ⟨_, rfl, ?_⟩
    refine go rfl ⟨_, _, _, rfl, rfl, rfl, ?_⟩
    refine go rfl ⟨_, _, _, _, _, rfl, rfl, (vp_in_nI (show k < 5 by omega) (by omega)), ?_⟩
    rw [nI_clamp (show k < 2 ^ 31 by omega)]
    refine go rfl ?_
    refine go rfl ⟨_, _, _, rfl, ?_⟩
    rw [hval]
    refine go rfl ⟨_, _, _, _, _, _, rfl, rfl, (vp_in_nI (show k < 5 by omega) (by omega)), ?_⟩
    rw [nI_clamp (show k < 2 ^ 31 by omega), mx_pc _ _ _ (show (48 : Nat) ≠ 49 by decide), mx_pp]
    have hcs2 : ∀ i, i < k → upd cs' k (nI v) i = nI (pre.getD i 0) := fun i hi => by
      rw [pk_un (by omega)]
      exact hcs i hi
    have hcuk : upd cs' k (nI v) k = nI v := pk_us
    have hcu1 := pre_s (w := v) hpl hcs
    generalize upd cs' k (nI v) = cu at hcs2 hcuk hcu1 ⊢
    refine go rfl ⟨_, rfl, ?_⟩
    refine go rfl ⟨_, _, _, _, rfl, rfl, rfl, ?_⟩
    refine go rfl ⟨_, rfl, ?_⟩
    refine go rfl ⟨_, _, _, _, _, rfl, rfl, (vp_in_nI (show k < 5 by omega) (by omega)), ?_⟩
    rw [nI_clamp (show k < 2 ^ 31 by omega), hcuk]
    refine go rfl ⟨_, rfl, ?_⟩
    refine go rfl ⟨_, _, _, _, rfl, rfl, rfl, ?_⟩
    rcases Nat.lt_or_ge v n with hvn | hvn
    rotate_left
    · refine go rfl ⟨_, _, _, rfl, fun e => ?_, fun e => ?_⟩
      · exact absurd ((nI_ltI (by omega) (by omega)).mp e) (by omega)
      have hA := hA (by omega)
      refine go rfl ⟨_, rfl, ?_⟩
      refine go rfl ⟨_, rfl, ?_⟩
      rcases Nat.eq_zero_or_pos k with hk0 | hk0
      · subst hk0
        refine go rfl ⟨_, _, rfl, fun e2 => ?_, fun e2 => ?_⟩
        · exact hA kc' ga' cu lf' tot' j4 hks hcs2 (fun h => absurd h (Nat.lt_irrefl 0))
        · exact absurd (by decide) e2
      · have ek : nI k + (-1) = nI (k - 1) := by
          have := pk_m1 (k - 1)
          rw [show k - 1 + 1 = k by omega] at this
          exact this
        have hA := hA kc' ga' cu
        rw [ek] at hA ⊢
        refine go rfl ⟨_, _, rfl, fun e2 => ?_, fun e2 => ?_⟩
        · exact absurd e2 (nI_pos (by omega))
        refine go rfl ⟨_, rfl, ?_⟩
        refine go rfl ⟨_, rfl, ?_⟩
        refine go rfl ⟨_, _, _, _, rfl, rfl, rfl, ?_⟩
        refine go rfl ⟨_, rfl, ?_⟩
        refine go rfl ⟨_, _, _, _, _, rfl, rfl, (vp_in_nI (show k - 1 < 5 by omega) (by omega)), ?_⟩
        rw [nI_clamp (by omega), hcs2 (k - 1) (by omega)]
        refine go rfl ?_
        have fin : ∀ lf2 : Nat → Int32, (∀ u, u < 26 → lf2 u = tkf lf' (ch (pre.getD (k - 1) 0)) (-1) (N (pre.getD (k - 1) 0)) u) → ∀ b : Int32, Rr 142 [some (mx_r 40), some (mx_i (nI mo)), some (mx_i tot'), some (mx_i (nI (k - 1))), j4] [mx_i b] (mx_put (mx_put (mx_put (mx_put (mx_put (mx_put (mx_put F 41 (mx_ia 12 rl)) 42 (mx_ia 360 lt)) 43 (mx_ia 60 ml)) 40 (e_M (nI 0) (nI rn) (nI n) sp wy (nI kc') sd)) 47 (mx_ia 800 ga')) 48 (mx_ia 5 cu)) 49 (mx_ia 26 lf2)) 0 0 := by
          intro lf2 h b
          refine go rfl ⟨_, _, rfl, rfl, ?_⟩
          refine go rfl ?_
          refine hA lf2 tot' j4 hks hcs2 (fun _ u hu => ?_)
          rw [h u hu, tk_m, hlf u hu, nI_add, hlp hk0 u hu]
        refine go rfl ⟨_, _, _, _, _, rfl, rfl, rfl, rfl, rfl, ⟨_, _, _, _, _, _, n, N, ch, lt, ml, lf', _, _, rfl, rfl, rfl, rfl, rfl, hw, hpn (k - 1) (by omega), fun lf2 h => ⟨fun _ => ?_, fun _ => ?_⟩⟩⟩
        · rw [mx_pp]
          exact fin lf2 h _
        · rw [mx_pp]
          exact fin lf2 h _
    refine go rfl ⟨_, _, _, rfl, fun e => ?_, fun e => ?_⟩
    rotate_left
    · exact absurd (nI_lt hvn (by omega)) e
    have hNv := hw.2.1.2.1 v hvn
    refine go rfl ⟨_, rfl, ?_⟩
    refine go rfl ⟨_, rfl, ?_⟩
    refine go rfl ⟨_, _, _, _, rfl, rfl, rfl, ?_⟩
    refine go rfl ⟨_, rfl, ?_⟩
    refine go rfl ⟨_, _, _, _, _, rfl, rfl, (vp_in_nI (show k < 5 by omega) (by omega)), ?_⟩
    rw [nI_clamp (show k < 2 ^ 31 by omega), hcuk]
    refine go rfl ?_
    -- undo
    have undo : ∀ (lf2 : Nat → Int32) (kc2 : Nat) (ga2 : Nat → Int32) (tot2 : Int32) (b : Int32) (L2 : List (List Nat)), (∀ u, u < 26 → lf2 u = nI (l u) - nI (wc (ch v) u (N v))) → ks L2 kc2 tot2 ga2 → (∀ (kc' : Nat) (ga' cs' lf' : Nat → Int32) (tot' : Int32) (j4 : Option mx_V), ks (L2) kc' tot' ga' → (∀ i, i < k → cs' i = nI (List.getD (pre) i 0)) → (∀ u, u < 26 → lf' u = nI (l u)) → cs' k + nI 1 = nI (v + 1) → Rr 97 [some (mx_r 40), some (mx_i (nI mo)), some (mx_i tot'), some (mx_i (nI k)), j4] [] (mx_put (mx_put (mx_put (mx_put (mx_put (mx_put (mx_put F 41 (mx_ia 12 rl)) 42 (mx_ia 360 lt)) 43 (mx_ia 60 ml)) 40 (e_M (nI 0) (nI rn) (nI n) sp wy (nI kc') sd)) 47 (mx_ia 800 ga')) 48 (mx_ia 5 cs')) 49 (mx_ia 26 lf')) 0 0) → Rr 222 [some (mx_r 40), some (mx_i (nI mo)), some (mx_i tot2), some (mx_i (nI k)), some (mx_i b)] [] (mx_put (mx_put (mx_put (mx_put (mx_put (mx_put (mx_put F 41 (mx_ia 12 rl)) 42 (mx_ia 360 lt)) 43 (mx_ia 60 ml)) 40 (e_M (nI 0) (nI rn) (nI n) sp wy (nI kc2) sd)) 47 (mx_ia 800 ga2)) 48 (mx_ia 5 cu)) 49 (mx_ia 26 lf2)) 0 0 := by
      intro lf2 kc2 ga2 tot2 b L2 h2 hk2 hnx
      refine go rfl ⟨_, rfl, ?_⟩
      refine go rfl ⟨_, rfl, ?_⟩
      refine go rfl ⟨_, _, _, _, rfl, rfl, rfl, ?_⟩
      refine go rfl ⟨_, rfl, ?_⟩
      refine go rfl ⟨_, _, _, _, _, rfl, rfl, (vp_in_nI (show k < 5 by omega) (by omega)), ?_⟩
      rw [nI_clamp (show k < 2 ^ 31 by omega), hcuk]
      refine go rfl ?_
      have fin : ∀ lf3 : Nat → Int32, (∀ u, u < 26 → lf3 u = tkf lf2 (ch v) (-1) (N v) u) → ∀ b2 : Int32, Rr 233 [some (mx_r 40), some (mx_i (nI mo)), some (mx_i tot2), some (mx_i (nI k)), some (mx_i b)] [mx_i b2] (mx_put (mx_put (mx_put (mx_put (mx_put (mx_put (mx_put F 41 (mx_ia 12 rl)) 42 (mx_ia 360 lt)) 43 (mx_ia 60 ml)) 40 (e_M (nI 0) (nI rn) (nI n) sp wy (nI kc2) sd)) 47 (mx_ia 800 ga2)) 48 (mx_ia 5 cu)) 49 (mx_ia 26 lf3)) 0 0 := by
        intro lf3 h b2
        refine go rfl ⟨_, _, rfl, rfl, ?_⟩
        refine go rfl ?_
        refine hnx kc2 ga2 cu lf3 tot2 _ hk2 hcs2 (fun u hu => ?_) (by rw [hcuk, nI_add])
        rw [h u hu, tk_m, h2 u hu, Int32.sub_add_cancel]
      refine go rfl ⟨_, _, _, _, _, rfl, rfl, rfl, rfl, rfl, ⟨_, _, _, _, _, _, n, N, ch, lt, ml, lf2, v, _, rfl, rfl, rfl, rfl, rfl, hw, hvn, fun lf3 h => ⟨fun _ => ?_, fun _ => ?_⟩⟩⟩
      · rw [mx_pp]
        exact fin lf3 h _
      · rw [mx_pp]
        exact fin lf3 h _
    have after : ∀ lf2 : Nat → Int32, (∀ u, u < 26 → lf2 u = tkf lf' (ch v) (nI 1) (N v) u) → ∀ u, u < 26 → lf2 u = nI (l u) - nI (wc (ch v) u (N v)) := by
      intro lf2 h u hu
      rw [h u hu, tk_1, hlf u hu]
    have fitI : ∀ lf2 : Nat → Int32, (∀ u, u < 26 → lf2 u = nI (l u) - nI (wc (ch v) u (N v))) → ((∀ u, u < 26 → ¬ lf2 u < 0) ↔ fitw N ch l v) := by
      intro lf2 h
      constructor
      · intro q u hu
        have h5 := q u hu
        rw [h u hu, lgneg (by have := hl12 u hu; omega) (by have := wc_le (ch v) u (N v); omega)] at h5
        exact h5
      · intro q u hu
        rw [h u hu, lgneg (by have := hl12 u hu; omega) (by have := wc_le (ch v) u (N v); omega)]
        exact q u hu
    refine go rfl ⟨_, _, _, _, _, rfl, rfl, rfl, rfl, rfl, ⟨_, _, _, _, _, _, n, N, ch, lt, ml, lf', v, _, rfl, rfl, rfl, rfl, rfl, hw, hvn, fun lf2 h => ⟨fun hq => ?_, fun hq => ?_⟩⟩⟩
    rotate_left
    · have h := after lf2 h
      have hnf : ¬ fitw N ch l v := fun q => hq ((fitI lf2 h).mpr q)
      rw [mx_pp]
      refine go rfl ⟨_, _, rfl, ?_⟩
      refine go rfl ⟨_, rfl, ?_⟩
      refine go rfl ⟨_, _, rfl, fun e1 => ?_, fun e1 => ?_⟩
      · refine go rfl ⟨_, rfl, ?_⟩
        refine go rfl ⟨_, _, rfl, fun e2 => ?_, fun e2 => ?_⟩
        · exact undo lf2 kc' ga' tot' _ L h hks (hB2 hvn hnf)
        · exact absurd rfl e2
      · exact absurd rfl e1
    have h := after lf2 h
    have hf := (fitI lf2 h).mp hq
    have hlf2 : ∀ u, u < 26 → lf2 u = nI ((subw N ch l v) u) := fun u hu => by
      rw [h u hu, pk_sub (hf u hu)]
      rfl
    have hsb : ∀ u, u < 26 → (subw N ch l v) u < 2 ^ 31 := fun u hu => Nat.lt_of_le_of_lt (Nat.sub_le _ _) (by have := hl12 u hu; omega)
    have hem : (∀ u, u < 26 → lf2 u ≤ 0) ↔ empl (subw N ch l v) := by
      constructor
      · intro q u hu
        have h5 := q u hu
        rw [hlf2 u hu, lgle (hsb u hu)] at h5
        exact h5
      · intro q u hu
        rw [hlf2 u hu, lgle (hsb u hu)]
        exact q u hu
    rw [mx_pp]
    refine go rfl ⟨_, _, rfl, ?_⟩
    refine go rfl ⟨_, rfl, ?_⟩
    refine go rfl ⟨_, _, rfl, fun e1 => ?_, fun e1 => ?_⟩
    · exact absurd e1 (by decide)
    refine go rfl ⟨_, rfl, ?_⟩
    refine go rfl ⟨_, _, _, rfl, rfl, rfl, rfl, rfl, ⟨_, _, _, _, _, _, _, lf2, rfl, rfl, rfl, fun hy => ?_, fun hy => ?_⟩⟩
    · -- nothing is left
      have hz := hem.mp hy
      have mid : ∀ (kc2 : Nat) (ga2 : Nat → Int32) (tot2 : Int32), ks (L ++ [pre ++ [v]]) kc2 tot2 ga2 → Rr 181 [some (mx_r 40), some (mx_i (nI mo)), some (mx_i tot2), some (mx_i (nI k)), some (mx_i (nI 1))] [] (mx_put (mx_put (mx_put (mx_put (mx_put (mx_put (mx_put F 41 (mx_ia 12 rl)) 42 (mx_ia 360 lt)) 43 (mx_ia 60 ml)) 40 (e_M (nI 0) (nI rn) (nI n) sp wy (nI kc2) sd)) 47 (mx_ia 800 ga2)) 48 (mx_ia 5 cu)) 49 (mx_ia 26 lf2)) 0 0 := by
        intro kc2 ga2 tot2 hk2
        refine go rfl ⟨_, rfl, ?_⟩
        refine go rfl ⟨_, _, rfl, fun e2 => ?_, fun e2 => ?_⟩
        · exact absurd e2 (by decide)
        refine go rfl ⟨_, rfl, ?_⟩
        refine go rfl ?_
        refine go rfl ⟨_, _, _, rfl, ?_⟩
        rw [nI_add]
        refine go rfl ⟨_, rfl, ?_⟩
        refine go rfl ⟨_, _, _, rfl, fun e3 => ?_, fun e3 => ?_⟩
        · exact undo lf2 kc2 ga2 tot2 _ _ h hk2 (hC hvn hf hz)
        refine go rfl ⟨_, rfl, ?_⟩
        refine go rfl ⟨_, _, _, rfl, rfl, rfl, rfl, rfl, ⟨_, _, _, _, _, _, _, lf2, rfl, rfl, rfl, fun _ => ?_, fun hy2 => absurd hy hy2⟩⟩
        refine go rfl ⟨_, _, rfl, fun e4 => ?_, fun e4 => ?_⟩
        · exact undo lf2 kc2 ga2 tot2 _ _ h hk2 (hC hvn hf hz)
        · exact absurd e4 (by decide)
      refine go rfl ⟨_, _, rfl, fun e2 => ?_, fun e2 => ?_⟩
      · exact absurd e2 (by decide)
      refine go rfl ⟨_, rfl, ?_⟩
      refine go rfl ⟨_, rfl, ?_⟩
      refine go rfl ?_
      refine go rfl ⟨_, _, _, rfl, ?_⟩
      rw [nI_add]
      have hgl : (pre ++ [v]).length = k + 1 := by rw [List.length_append, hpl]; rfl
      refine go rfl ⟨_, _, _, _, rfl, rfl, rfl, rfl, rfl, ⟨_, _, _, _, _, kc', k + 1, _, cu, ga', rfl, rfl, rfl, rfl, hkc, by omega, fun h9 ga2 hkp => ?_, fun h9 => ?_⟩⟩
      · rw [mx_pc _ _ _ (show (47 : Nat) ≠ 49 by decide), mx_pc _ _ _ (show (47 : Nat) ≠ 48 by decide), mx_pp, mx_pc _ _ _ (show (40 : Nat) ≠ 49 by decide), mx_pc _ _ _ (show (40 : Nat) ≠ 48 by decide), mx_pc _ _ _ (show (40 : Nat) ≠ 47 by decide), mx_pp]
        refine go rfl ⟨_, rfl, ?_⟩
        exact mid (kc' + 1) ga2 _ (ks_keep (g := pre ++ [v]) hks h9 (fun i hi => hcu1 i (by rw [hgl] at hi; exact hi)) (by rw [hgl]; exact hkp))
      · refine go rfl ⟨_, rfl, ?_⟩
        subst h9
        exact mid 200 ga' _ (ks_full hks)
    · have hz : ¬ empl (subw N ch l v) := fun q => hy (hem.mpr q)
      refine go rfl ⟨_, _, rfl, fun e2 => ?_, fun e2 => ?_⟩
      rotate_left
      · exact absurd rfl e2
      refine go rfl ⟨_, rfl, ?_⟩
      refine go rfl ⟨_, _, rfl, fun e3 => ?_, fun e3 => ?_⟩
      · exact absurd e3 (by decide)
      refine go rfl ⟨_, rfl, ?_⟩
      refine go rfl ?_
      refine go rfl ⟨_, _, _, rfl, ?_⟩
      rw [nI_add]
      refine go rfl ⟨_, rfl, ?_⟩
      refine go rfl ⟨_, _, _, rfl, fun e4 => ?_, fun e4 => ?_⟩
      · exact undo lf2 kc' ga' tot' _ L h hks (hE hvn hf hz ((nI_leI (by omega) (by omega)).mp e4))
      have hk1 : k + 1 < mo := by
        rcases Nat.lt_or_ge (k + 1) mo with q | q
        · exact q
        · exact absurd (nI_le q (by omega)) e4
      refine go rfl ⟨_, rfl, ?_⟩
      refine go rfl ⟨_, _, _, rfl, rfl, rfl, rfl, rfl, ⟨_, _, _, _, _, _, _, lf2, rfl, rfl, rfl, fun hy2 => absurd hy2 hy, fun _ => ?_⟩⟩
      refine go rfl ⟨_, _, rfl, fun e5 => ?_, fun e5 => ?_⟩
      · exact absurd rfl e5
      refine go rfl ⟨_, rfl, ?_⟩
      rw [nI_add]
      refine go rfl ⟨_, rfl, ?_⟩
      refine go rfl ⟨_, _, _, _, rfl, rfl, rfl, ?_⟩
      refine go rfl ⟨_, rfl, ?_⟩
      refine go rfl ⟨_, rfl, ?_⟩
      refine go rfl ⟨_, _, _, _, rfl, rfl, rfl, ?_⟩
      refine go rfl ⟨_, rfl, ?_⟩
      refine go rfl ?_
      refine go rfl ⟨_, _, _, rfl, ?_⟩
      rw [pk_sub (by omega), show k + 1 - 1 = k by omega]
      refine go rfl ⟨_, _, _, _, _, rfl, rfl, (vp_in_nI (show k < 5 by omega) (by omega)), ?_⟩
      rw [nI_clamp (show k < 2 ^ 31 by omega), hcuk]
      refine go rfl ?_
      refine go rfl ⟨_, _, _, rfl, ?_⟩
      refine go rfl ⟨_, _, _, _, _, _, rfl, rfl, (vp_in_nI (show k + 1 < 5 by omega) (by omega)), ?_⟩
      rw [nI_clamp (show k + 1 < 2 ^ 31 by omega), mx_pc _ _ _ (show (48 : Nat) ≠ 49 by decide), mx_pp]
      refine go rfl ?_
      refine go rfl ?_
      refine hD hvn hf hz hk1 kc' ga' _ lf2 tot' _ hks (fun i hi => ?_) hlf2 ?_
      · rw [pk_un (by omega)]
        exact hcu1 i hi
      · rw [pk_us, Int32.sub_add_cancel]
  have all : ∀ (q k : Nat) (pre : List Nat) (l lp : Nat → Nat), k + q + 1 = mo → pre.length = k → (∀ i, i < k → pre.getD i 0 < n) → (∀ u, u < 26 → l u ≤ 12) → (0 < k → ∀ u, u < 26 → lp u = l u + wc (ch (pre.getD (k - 1) 0)) u (N (pre.getD (k - 1) 0))) → ∀ (r v : Nat), v + r = n → ∀ L : List (List Nat), (∀ (kc' : Nat) (ga' cs' lf' : Nat → Int32) (tot' : Int32) (j4 : Option mx_V), ks (L ++ (ge N ch (q + 1) v r l).map (pre ++ ·)) kc' tot' ga' → (∀ i, i < k → cs' i = nI (List.getD (pre) i 0)) → (0 < k → ∀ u, u < 26 → lf' u = nI (lp u)) → Rr 97 [some (mx_r 40), some (mx_i (nI mo)), some (mx_i tot'), some (mx_i (nI k + (-1))), j4] [] (mx_put (mx_put (mx_put (mx_put (mx_put (mx_put (mx_put F 41 (mx_ia 12 rl)) 42 (mx_ia 360 lt)) 43 (mx_ia 60 ml)) 40 (e_M (nI 0) (nI rn) (nI n) sp wy (nI kc') sd)) 47 (mx_ia 800 ga')) 48 (mx_ia 5 cs')) 49 (mx_ia 26 lf')) 0 0) → (∀ (kc' : Nat) (ga' cs' lf' : Nat → Int32) (tot' : Int32) (j4 : Option mx_V), ks (L) kc' tot' ga' → (∀ i, i < k → cs' i = nI (List.getD (pre) i 0)) → (∀ u, u < 26 → lf' u = nI (l u)) → cs' k + nI 1 = nI v → Rr 97 [some (mx_r 40), some (mx_i (nI mo)), some (mx_i tot'), some (mx_i (nI k)), j4] [] (mx_put (mx_put (mx_put (mx_put (mx_put (mx_put (mx_put F 41 (mx_ia 12 rl)) 42 (mx_ia 360 lt)) 43 (mx_ia 60 ml)) 40 (e_M (nI 0) (nI rn) (nI n) sp wy (nI kc') sd)) 47 (mx_ia 800 ga')) 48 (mx_ia 5 cs')) 49 (mx_ia 26 lf')) 0 0) := by
    intro q
    induction q with
    | zero =>
      intro k pre l lp hk hpl hpn hl12 hlp r
      induction r with
      | zero =>
        intro v hv L hback
        rw [ge_0, show L ++ List.map (pre ++ ·) [] = L from List.append_nil L] at hback
        exact step k v pre l lp L (by omega) (by omega) hpl hpn hl12 hlp (fun _ => hback) (fun h => absurd h (by omega)) (fun h => absurd h (by omega)) (fun h => absurd h (by omega)) (fun h => absurd h (by omega))
      | succ r ihr =>
        intro v hv L hback
        refine step k v pre l lp L (by omega) (by omega) hpl hpn hl12 hlp (fun h => absurd h (by omega)) (fun _ hf => ?_) (fun _ hf hz => ?_) (fun _ _ _ h => absurd h (by omega)) (fun _ hf hz _ => ?_)
        · rw [ge_n hf] at hback
          exact ihr (v + 1) (by omega) L hback
        · rw [ge_e hf hz, List.map_cons, List.append_cons] at hback
          exact ihr (v + 1) (by omega) _ hback
        · rw [ge_d hf hz, show (ge N ch 0 v (r + 1) (subw N ch l v)).map (List.cons v) = [] from rfl, List.nil_append] at hback
          exact ihr (v + 1) (by omega) L hback
    | succ q ihq =>
      intro k pre l lp hk hpl hpn hl12 hlp r
      induction r with
      | zero =>
        intro v hv L hback
        rw [ge_0, show L ++ List.map (pre ++ ·) [] = L from List.append_nil L] at hback
        exact step k v pre l lp L (by omega) (by omega) hpl hpn hl12 hlp (fun _ => hback) (fun h => absurd h (by omega)) (fun h => absurd h (by omega)) (fun h => absurd h (by omega)) (fun h => absurd h (by omega))
      | succ r ihr =>
        intro v hv L hback
        refine step k v pre l lp L (by omega) (by omega) hpl hpn hl12 hlp (fun h => absurd h (by omega)) (fun _ hf => ?_) (fun _ hf hz => ?_) (fun hvn hf hz _ => ?_) (fun _ _ _ h => absurd h (by omega))
        · rw [ge_n hf] at hback
          exact ihr (v + 1) (by omega) L hback
        · rw [ge_e hf hz, List.map_cons, List.append_cons] at hback
          exact ihr (v + 1) (by omega) _ hback
        · rw [ge_d hf hz, List.map_append, map_pre, ← List.append_assoc] at hback
          have hgl : (pre ++ [v]).length = k + 1 := by rw [List.length_append, hpl]; rfl
          have hla : (pre ++ [v]).getD (k + 1 - 1) 0 = v := by
            rw [show k + 1 - 1 = pre.length by omega]
            exact getD_last
          refine ihq (k + 1) (pre ++ [v]) (subw N ch l v) l (by omega) hgl (fun i hi => ?_) (fun u hu => Nat.le_trans (Nat.sub_le _ _) (hl12 u hu)) (fun _ u hu => ?_) (r + 1) v hv L ?_
          · by_cases e : i = k
            · rw [e, ← hpl, getD_last]
              exact hvn
            · rw [getD_pre (by omega)]
              exact hpn i (by omega)
          · rw [hla]
            have := hf u hu
            show l u = l u - _ + _
            omega
          · intro kc' ga' cs' lf' tot' j4 h1 h2 h3
            rw [pk_m1]
            refine ihr (v + 1) (by omega) _ hback kc' ga' cs' lf' tot' j4 h1 (fun i hi => ?_) (h3 (by omega)) ?_
            · have h4 := h2 i (by omega)
              rw [getD_pre (by omega)] at h4
              exact h4
            · have h4 := h2 k (by omega)
              rw [← hpl, getD_last] at h4
              rw [← hpl, h4, nI_add]
  have ex : (∀ (kc' : Nat) (ga' cs' lf' : Nat → Int32) (tot' : Int32) (j4 : Option mx_V), ks (ge N ch mo 0 n (fun u => wc rl u rn)) kc' tot' ga' → (∀ i, i < 0 → cs' i = nI (List.getD ([]) i 0)) → (0 < 0 → ∀ u, u < 26 → lf' u = nI ((fun u => u) u)) → Rr 97 [some (mx_r 40), some (mx_i (nI mo)), some (mx_i tot'), some (mx_i (nI 0 + (-1))), j4] [] (mx_put (mx_put (mx_put (mx_put (mx_put (mx_put (mx_put F 41 (mx_ia 12 rl)) 42 (mx_ia 360 lt)) 43 (mx_ia 60 ml)) 40 (e_M (nI 0) (nI rn) (nI n) sp wy (nI kc') sd)) 47 (mx_ia 800 ga')) 48 (mx_ia 5 cs')) 49 (mx_ia 26 lf')) 0 0) := by
    intro kc' ga' cs' lf' tot' j4 hk' _ _
    refine go rfl ⟨_, rfl, ?_⟩
    refine go rfl ⟨_, _, rfl, fun c => ?_, fun c => ?_⟩
    rotate_left
    · exact absurd (by decide) c
    refine go rfl ⟨_, rfl, ?_⟩
    refine go rfl ⟨_, rfl, rfl, rfl, ?_⟩
    rw [hB]
    exact ho kc' ga' cs' lf' tot' hk'
  have begin2 : ∀ (lf' : Nat → Int32) (j2 j3 j4 : Option mx_V), (∀ u, u < 26 → lf' u = nI (wc rl u rn)) → Rr 77 [some (mx_r 40), some (mx_i (nI mo)), j2, j3, j4] [] (mx_put (mx_put (mx_put (mx_put (mx_put (mx_put (mx_put F 41 (mx_ia 12 rl)) 42 (mx_ia 360 lt)) 43 (mx_ia 60 ml)) 40 (e_M (nI 0) (nI rn) (nI n) sp wy (nI 0) sd)) 47 (mx_ia 800 ga)) 48 (mx_ia 5 cs)) 49 (mx_ia 26 lf')) 0 0 := by
    intro lf' j2 j3 j4 hlf
    refine go rfl ⟨_, rfl, ?_⟩
    refine go rfl ⟨_, _, _, _, rfl, rfl, rfl, ?_⟩
    refine go rfl ⟨_, _, rfl, fun c => ?_, fun c => ?_⟩
    · refine go rfl ?_
      refine go rfl ⟨_, _, rfl, ?_⟩
      refine go rfl ?_
      refine go rfl ⟨_, _, rfl, ?_⟩
      refine go rfl ⟨_, rfl, ?_⟩
      refine go rfl ⟨_, _, _, _, rfl, rfl, rfl, ?_⟩
      refine go rfl ?_
      refine go rfl ?_
      refine go rfl ⟨_, _, _, _, _, _, rfl, rfl, (vp_in_nI (show 0 < 5 by omega) (by omega)), ?_⟩
      rw [nI_clamp (show 0 < 2 ^ 31 by omega), mx_pc _ _ _ (show (48 : Nat) ≠ 49 by decide), mx_pp]
      have h := all (mo - 1) 0 [] (fun u => wc rl u rn) (fun u => u) (by omega) rfl (fun i hi => absurd hi (Nat.not_lt_zero i)) (fun u _ => by have := wc_le rl u rn; omega) (fun h => absurd h (Nat.lt_irrefl 0)) n 0 (by omega) []
      rw [show [] ++ (ge N ch (mo - 1 + 1) 0 n (fun u => wc rl u rn)).map ([] ++ ·) = ge N ch mo 0 n (fun u => wc rl u rn) by
        rw [List.nil_append, show mo - 1 + 1 = mo by omega]
        exact List.map_id' _] at h
      refine h ex 0 ga _ lf' (nI 0) _ ks_0 (fun i hi => absurd hi (Nat.not_lt_zero i)) hlf ?_
      rw [pk_us]
      decide
    · refine go rfl ?_
      refine go rfl ⟨_, rfl, rfl, rfl, ?_⟩
      rw [hB]
      have hr0 : rn = 0 := (nI_eq (b := 0) (by omega) (by omega)).mp c
      refine ho 0 ga cs lf' (nI 0) ?_
      rw [ge_emp hw.2.1 (fun u _ => by rw [hr0]; rfl) (by omega)]
      exact ks_0
  have count : ∀ (m i : Nat) (lf' : Nat → Int32) (j3 j4 : Option mx_V), i + m = rn → (∀ u, u < 26 → lf' u = nI (wc rl u i)) → Rr 45 [some (mx_r 40), some (mx_i (nI mo)), some (mx_i (nI i)), j3, j4] [] (mx_put (mx_put (mx_put (mx_put (mx_put (mx_put (mx_put F 41 (mx_ia 12 rl)) 42 (mx_ia 360 lt)) 43 (mx_ia 60 ml)) 40 (e_M (nI 0) (nI rn) (nI n) sp wy (nI 0) sd)) 47 (mx_ia 800 ga)) 48 (mx_ia 5 cs)) 49 (mx_ia 26 lf')) 0 0 := by
    intro m
    induction m with
    | zero =>
      intro i lf' j3 j4 hi hlf
      refine go rfl ⟨_, rfl, ?_⟩
      refine go rfl ⟨_, rfl, ?_⟩
      refine go rfl ⟨_, _, _, _, rfl, rfl, rfl, ?_⟩
      refine go rfl ⟨_, _, _, rfl, fun c => ?_, fun c => ?_⟩
      · refine begin2 lf' _ j3 j4 ?_
        rw [show rn = i by omega]
        exact hlf
      · exact absurd (nI_le (by omega) (by omega)) c
    | succ m ih =>
      intro i lf' j3 j4 hi hlf
      refine go rfl ⟨_, rfl, ?_⟩
      refine go rfl ⟨_, rfl, ?_⟩
      refine go rfl ⟨_, _, _, _, rfl, rfl, rfl, ?_⟩
      refine go rfl ⟨_, _, _, rfl, fun c => ?_, fun c => ?_⟩
      · exact absurd ((nI_leI (by omega) (by omega)).mp c) (by omega)
      obtain ⟨u, hu, eu, ee⟩ := vl_ixe (hrl i (by omega))
      refine go rfl ⟨_, rfl, ?_⟩
      refine go rfl ⟨_, _, _, _, rfl, rfl, rfl, ?_⟩
      refine go rfl ⟨_, rfl, ?_⟩
      refine go rfl ⟨_, _, _, _, rfl, rfl, rfl, ?_⟩
      refine go rfl ⟨_, rfl, ?_⟩
      refine go rfl ⟨_, _, _, _, _, rfl, rfl, (vp_in_nI (show i < 12 by omega) (by omega)), ?_⟩
      rw [nI_clamp (by omega)]
      refine go rfl ?_
      refine go rfl ⟨_, _, _, rfl, ?_⟩
      rw [eu]
      refine go rfl ⟨_, _, _, rfl, rfl, rfl, ?_⟩
      refine go rfl ⟨_, _, _, _, _, rfl, rfl, (vp_in_nI hu (by omega)), ?_⟩
      rw [nI_clamp (by omega)]
      refine go rfl ?_
      refine go rfl ⟨_, _, _, rfl, ?_⟩
      refine go rfl ⟨_, _, _, _, _, _, rfl, rfl, (vp_in_nI hu (by omega)), ?_⟩
      rw [nI_clamp (by omega), mx_pp]
      refine go rfl ⟨_, rfl, ?_⟩
      refine go rfl ?_
      rw [nI_add]
      refine ih (i + 1) _ _ _ (by omega) (fun z hz => ?_)
      by_cases ez : z = u
      · rw [ez, pk_us, wc_y ee, hlf u hu, nI_add]
      · rw [pk_un ez, wc_0far ee hu hz ez]
        exact hlf z hz
  have clear : ∀ (m i : Nat) (lf' : Nat → Int32) (j3 j4 : Option mx_V), i + m = 26 → (∀ u, u < i → lf' u = nI 0) → Rr 24 [some (mx_r 40), some (mx_i (nI mo)), some (mx_i (nI i)), j3, j4] [] (mx_put (mx_put (mx_put (mx_put (mx_put (mx_put (mx_put F 41 (mx_ia 12 rl)) 42 (mx_ia 360 lt)) 43 (mx_ia 60 ml)) 40 (e_M (nI 0) (nI rn) (nI n) sp wy (nI 0) sd)) 47 (mx_ia 800 ga)) 48 (mx_ia 5 cs)) 49 (mx_ia 26 lf')) 0 0 := by
    intro m
    induction m with
    | zero =>
      intro i lf' j3 j4 hi hlf
      refine go rfl ⟨_, rfl, ?_⟩
      refine go rfl ?_
      refine go rfl ⟨_, _, _, rfl, fun c => ?_, fun c => ?_⟩
      · refine go rfl ?_
        refine go rfl ⟨_, _, rfl, ?_⟩
        exact count rn 0 lf' _ _ (by omega) (fun u hu => hlf u (by omega))
      · exact absurd (nI_le (by omega) (by omega)) c
    | succ m ih =>
      intro i lf' j3 j4 hi hlf
      refine go rfl ⟨_, rfl, ?_⟩
      refine go rfl ?_
      refine go rfl ⟨_, _, _, rfl, fun c => ?_, fun c => ?_⟩
      · exact absurd ((nI_leI (by omega) (by omega)).mp c) (by omega)
      refine go rfl ⟨_, rfl, ?_⟩
      refine go rfl ⟨_, _, _, _, rfl, rfl, rfl, ?_⟩
      refine go rfl ⟨_, rfl, ?_⟩
      refine go rfl ?_
      refine go rfl ⟨_, _, _, _, _, _, rfl, rfl, (vp_in_nI (show i < 26 by omega) (by omega)), ?_⟩
      rw [nI_clamp (by omega), mx_pp]
      refine go rfl ⟨_, rfl, ?_⟩
      refine go rfl ?_
      rw [nI_add]
      refine ih (i + 1) _ _ _ (by omega) (fun u hu => ?_)
      by_cases e : u = i
      · rw [e, pk_us]
      · rw [pk_un e]
        exact hlf u (by omega)
  refine go rfl ⟨_, rfl, ?_⟩
  refine go rfl ?_
  refine go rfl ⟨_, _, _, _, rfl, rfl, (Nat.le_of_ble_eq_true rfl), ?_⟩
  rw [mx_pc _ _ _ (show (40 : Nat) ≠ 49 by decide), mx_pc _ _ _ (show (40 : Nat) ≠ 48 by decide), mx_pc _ _ _ (show (40 : Nat) ≠ 47 by decide), mx_pp]
  refine go rfl ?_
  refine go rfl ⟨_, _, rfl, ?_⟩
  exact clear 26 0 lf none none (by omega) (fun u hu => absurd hu (Nat.not_lt_zero u))
-- LadderWordsModel.gathered(II)I
def sp_M_gathered : mx_Sp := fun As F P => ∃ (th sz mn sp : Int32) (wy : Int64) (kn : Nat) (sd : Int32) (ga : Nat → Int32) (x y : Int32), As = [mx_r 40, mx_i x, mx_i y] ∧ F 47 = some (mx_ia 800 ga) ∧ F 40 = some (e_M th sz mn sp wy (nI kn) sd) ∧ kn ≤ 200 ∧ (∀ k i, k < kn → i < 4 → x = nI k → y = nI i → P (some (mx_i (ga (4 * k + i)))) (mx_put F 40 (e_M (nI 0) sz mn sp wy (nI kn) sd))) ∧ ((¬ ∃ k i, k < kn ∧ i < 4 ∧ x = nI k ∧ y = nI i) → P (some (mx_i (-1))) (mx_put F 40 (e_M (nI 0) sz mn sp wy (nI kn) sd)))
theorem d_M_gathered_0 : decode c_M_gathered 0 = .ok (.aload_n 0, 1) := by decide +kernel
theorem d_M_gathered_1 : decode c_M_gathered 1 = .ok (.iconst 0, 1) := by decide +kernel
theorem d_M_gathered_2 : decode c_M_gathered 2 = .ok (.putfield 48, 3) := by decide +kernel
theorem d_M_gathered_5 : decode c_M_gathered 5 = .ok (.iload_n 1, 1) := by decide +kernel
theorem d_M_gathered_6 : decode c_M_gathered 6 = .ok (.ifCond .lt 33, 3) := by decide +kernel
theorem d_M_gathered_9 : decode c_M_gathered 9 = .ok (.iload_n 1, 1) := by decide +kernel
theorem d_M_gathered_10 : decode c_M_gathered 10 = .ok (.aload_n 0, 1) := by decide +kernel
theorem d_M_gathered_11 : decode c_M_gathered 11 = .ok (.getfield 65, 3) := by decide +kernel
theorem d_M_gathered_14 : decode c_M_gathered 14 = .ok (.if_icmp .ge 25, 3) := by decide +kernel
theorem d_M_gathered_17 : decode c_M_gathered 17 = .ok (.iload_n 2, 1) := by decide +kernel
theorem d_M_gathered_18 : decode c_M_gathered 18 = .ok (.ifCond .lt 21, 3) := by decide +kernel
theorem d_M_gathered_21 : decode c_M_gathered 21 = .ok (.iload_n 2, 1) := by decide +kernel
theorem d_M_gathered_22 : decode c_M_gathered 22 = .ok (.iconst 4, 1) := by decide +kernel
theorem d_M_gathered_23 : decode c_M_gathered 23 = .ok (.if_icmp .ge 16, 3) := by decide +kernel
theorem d_M_gathered_26 : decode c_M_gathered 26 = .ok (.aload_n 0, 1) := by decide +kernel
theorem d_M_gathered_27 : decode c_M_gathered 27 = .ok (.getfield 33, 3) := by decide +kernel
theorem d_M_gathered_30 : decode c_M_gathered 30 = .ok (.iconst 4, 1) := by decide +kernel
theorem d_M_gathered_31 : decode c_M_gathered 31 = .ok (.iload_n 1, 1) := by decide +kernel
theorem d_M_gathered_32 : decode c_M_gathered 32 = .ok (.imul, 1) := by decide +kernel
theorem d_M_gathered_33 : decode c_M_gathered 33 = .ok (.iload_n 2, 1) := by decide +kernel
theorem d_M_gathered_34 : decode c_M_gathered 34 = .ok (.iadd, 1) := by decide +kernel
theorem d_M_gathered_35 : decode c_M_gathered 35 = .ok (.iaload, 1) := by decide +kernel
theorem d_M_gathered_36 : decode c_M_gathered 36 = .ok (.goto 4, 3) := by decide +kernel
theorem d_M_gathered_39 : decode c_M_gathered 39 = .ok (.iconst (-1), 1) := by decide +kernel
theorem d_M_gathered_40 : decode c_M_gathered 40 = .ok (.ireturn, 1) := by decide +kernel
abbrev w_M_gathered : List Cond := mx_ws y_M_gathered c_M_gathered 3 (some .int)
abbrev rm_M_gathered : Room := { frames := 10, cells := 0, slots := 0, locals := 200 }
def t_M_gathered  (P : Option mx_V → mx_F → Prop) : List (Nat × mx_O) := [
  (0, mx_aload 0 1),
  (1, mx_push (.inl (nI 0)) 2),
  (2, mx_puti 7 0 5),
  (5, mx_iload 1 6),
  (6, mx_if_lt 39 9),
  (9, mx_iload 1 10),
  (10, mx_aload 0 11),
  (11, mx_get 7 11 14),
  (14, mx_ic_ge 39 17),
  (17, mx_iload 2 18),
  (18, mx_if_lt 39 21),
  (21, mx_iload 2 22),
  (22, mx_push (.inl (nI 4)) 23),
  (23, mx_ic_ge 39 26),
  (26, mx_aload 0 27),
  (27, mx_get 7 12 30),
  (30, mx_push (.inl (nI 4)) 31),
  (31, mx_iload 1 32),
  (32, mx_imul 33),
  (33, mx_iload 2 34),
  (34, mx_iadd 35),
  (35, mx_iald 36),
  (36, mx_goto 40),
  (39, mx_push (.inl (-1)) 40),
  (40, mx_iret P)]
set_option maxRecDepth 20000 in
theorem a_M_gathered  {p : Program} {l : Launch} {e : Env} {s : State} {m : MethodId} {args : Array Value} {below : List Frame} {meth : Method} {c : Code} {D : va_G} {tc : Nat → ClassId} {tb : Nat → Nat} {sz : Nat} {a0 : Nat → Nat} {G : mx_F} {P : Option mx_V → mx_F → Prop}  (C : mx_C p s m args c c_M_gathered y_M_gathered.cls w_M_gathered D tc tb (mx_A a0 G sz) 3 (mx_Ok0 a0 G)) (hr : meth.sig.returnType = (some .int)) (hlk : meth.locks = false) : mx_all (mx_W p l e rm_M_gathered s m args below meth c (MQ below (mx_Q D tc tb a0 G sz P) args s 0 0 (mx_A a0 G sz)) D tc tb (mx_A a0 G sz) 3 (mx_Ok0 a0 G)) (t_M_gathered  P) :=
  ⟨mx_s_aload_n C d_M_gathered_0 rfl,
  mx_s_iconst C d_M_gathered_1 (by decide),
  mx_s_puti (T := T_M) (N := 18) (k := 0) C (fun w h => List.mem_cons_of_mem _ (in_M w h)) rfl ty_M ok_M nm_M (by decide) (List.mem_cons_of_mem _ fk_M_48) rfl rfl (ok_M 0 (by decide)) d_M_gathered_2,
  mx_s_iload_n C d_M_gathered_5 rfl,
  mx_s_if_lt C d_M_gathered_6 (by decide),
  mx_s_iload_n C d_M_gathered_9 rfl,
  mx_s_aload_n C d_M_gathered_10 rfl,
  mx_s_get (T := T_M) (N := 18) (k := 11) C (fun w h => List.mem_cons_of_mem _ (in_M w h)) rfl (by decide) (List.mem_cons_of_mem _ fk_M_65) rfl d_M_gathered_11,
  mx_s_ic_ge C d_M_gathered_14 (by decide),
  mx_s_iload_n C d_M_gathered_17 rfl,
  mx_s_if_lt C d_M_gathered_18 (by decide),
  mx_s_iload_n C d_M_gathered_21 rfl,
  mx_s_iconst C d_M_gathered_22 (by decide),
  mx_s_ic_ge C d_M_gathered_23 (by decide),
  mx_s_aload_n C d_M_gathered_26 rfl,
  mx_s_get (T := T_M) (N := 18) (k := 12) C (fun w h => List.mem_cons_of_mem _ (in_M w h)) rfl (by decide) (List.mem_cons_of_mem _ fk_M_33) rfl d_M_gathered_27,
  mx_s_iconst C d_M_gathered_30 (by decide),
  mx_s_iload_n C d_M_gathered_31 rfl,
  mx_s_imul C d_M_gathered_32,
  mx_s_iload_n C d_M_gathered_33 rfl,
  mx_s_iadd C d_M_gathered_34,
  mx_s_iald C d_M_gathered_35,
  mx_s_goto C d_M_gathered_36 (by decide),
  mx_s_iconst C d_M_gathered_39 (by decide),
  mx_s_iret C hr hlk d_M_gathered_40,
  trivial⟩
set_option maxRecDepth 20000 in
set_option maxHeartbeats 2000000 in
theorem m_M_gathered (l : Launch) : mx_M l y_M_gathered w_M_gathered rm_M_gathered sp_M_gathered := by
  intro zD ztc ztb zad As F P sz0 h
  obtain ⟨th, sz, mn, sp, wy, kn, sd, ga, x, y, rfl, h47, h0, hk, ho, hz⟩ := h
  refine mx_run (cc := c_M_gathered) (maxL := 3) (ret := (some .int)) (tab := t_M_gathered  P) (by decide) rfl zD ztc ztb zad _ F P sz0 (Nat.le_of_ble_eq_true rfl) (fun p e s m args below meth c C hr hlk => a_M_gathered  C hr hlk) ?_
  intro Rr go
  have hF := mx_as2 h47 h0
  have hX : mx_put F 47 (mx_ia 800 ga) = F := mx_self h47
  rw [hF]
  have z : (¬ ∃ k i, k < kn ∧ i < 4 ∧ x = nI k ∧ y = nI i) → Rr 39 (mx_en [mx_r 40, mx_i x, mx_i y] 3) [] (mx_put (mx_put F 47 (mx_ia 800 ga)) 40 (e_M (nI 0) sz mn sp wy (nI kn) sd)) 0 0 := by
    intro h
    refine go rfl ?_
    refine go rfl ⟨_, rfl, rfl, rfl, ?_⟩
    rw [hX]
    exact hz h
  refine go rfl ⟨_, rfl, ?_⟩
  refine go rfl ?_
  refine go rfl ⟨_, _, _, _, rfl, rfl, (Nat.le_of_ble_eq_true rfl), ?_⟩
  rw [mx_pp]
  refine go rfl ⟨_, rfl, ?_⟩
  refine go rfl ⟨_, _, rfl, fun c1 => ?_, fun c1 => ?_⟩
  · refine z ?_
    rintro ⟨k, i, q1, q2, rfl, rfl⟩
    exact nI_pos (by omega) c1
  refine go rfl ⟨_, rfl, ?_⟩
  refine go rfl ⟨_, rfl, ?_⟩
  refine go rfl ⟨_, _, _, _, rfl, rfl, rfl, ?_⟩
  refine go rfl ⟨_, _, _, rfl, fun c2 => ?_, fun c2 => ?_⟩
  · refine z ?_
    rintro ⟨k, i, q1, q2, rfl, rfl⟩
    exact absurd ((nI_leI (by omega) (by omega)).mp c2) (by omega)
  rcases pk_ix x (n := kn) (by omega) with q | q | ⟨k, hk2, rfl⟩
  · exact absurd q c1
  · exact absurd q c2
  refine go rfl ⟨_, rfl, ?_⟩
  refine go rfl ⟨_, _, rfl, fun c3 => ?_, fun c3 => ?_⟩
  · refine z ?_
    rintro ⟨k, i, q1, q2, _, rfl⟩
    exact nI_pos (by omega) c3
  refine go rfl ⟨_, rfl, ?_⟩
  refine go rfl ?_
  refine go rfl ⟨_, _, _, rfl, fun c4 => ?_, fun c4 => ?_⟩
  · refine z ?_
    rintro ⟨k, i, q1, q2, _, rfl⟩
    exact absurd ((nI_leI (by omega) (by omega)).mp c4) (by omega)
  rcases pk_ix y (n := 4) (by omega) with q | q | ⟨i, hi, rfl⟩
  · exact absurd q c3
  · exact absurd q c4
  refine go rfl ⟨_, rfl, ?_⟩
  refine go rfl ⟨_, _, _, _, rfl, rfl, rfl, ?_⟩
  refine go rfl ?_
  refine go rfl ⟨_, rfl, ?_⟩
  refine go rfl ⟨_, _, _, rfl, ?_⟩
  rw [pk_mul]
  refine go rfl ⟨_, rfl, ?_⟩
  refine go rfl ⟨_, _, _, rfl, ?_⟩
  rw [nI_add]
  refine go rfl ⟨_, _, _, _, _, rfl, rfl, (vp_in_nI (show 4 * k + i < 800 by omega) (by omega)), ?_⟩
  rw [nI_clamp (by omega)]
  refine go rfl ?_
  refine go rfl ⟨_, rfl, rfl, rfl, ?_⟩
  rw [hX]
  exact ho k i hk2 hi rfl rfl
