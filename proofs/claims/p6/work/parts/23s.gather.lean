-- LadderWords$Gatherings.oneAt(I)J
def sp_G_oneAt : mx_Sp := fun As F P => ∃ k : Nat, As = [mx_i (nI k)] ∧ k < 12 ∧ P (some (mx_l (lN (32 ^ k)))) F
theorem d_G_oneAt_0 : decode c_G_oneAt 0 = .ok (.lconst 1, 1) := by decide +kernel
theorem d_G_oneAt_1 : decode c_G_oneAt 1 = .ok (.iconst 5, 1) := by decide +kernel
theorem d_G_oneAt_2 : decode c_G_oneAt 2 = .ok (.iload_n 0, 1) := by decide +kernel
theorem d_G_oneAt_3 : decode c_G_oneAt 3 = .ok (.imul, 1) := by decide +kernel
theorem d_G_oneAt_4 : decode c_G_oneAt 4 = .ok (.lshl, 1) := by decide +kernel
theorem d_G_oneAt_5 : decode c_G_oneAt 5 = .ok (.lreturn, 1) := by decide +kernel
abbrev w_G_oneAt : List Cond := mx_ws y_G_oneAt c_G_oneAt 1 (some .long)
abbrev rm_G_oneAt : Room := { frames := 10, cells := 0, slots := 0, locals := 200 }
def t_G_oneAt  (P : Option mx_V → mx_F → Prop) : List (Nat × mx_O) := [
  (0, mx_push (.inr (.inl 1)) 1),
  (1, mx_push (.inl (nI 5)) 2),
  (2, mx_iload 0 3),
  (3, mx_imul 4),
  (4, mx_lshl 5),
  (5, mx_lret P)]
set_option maxRecDepth 20000 in
theorem a_G_oneAt  {p : Program} {l : Launch} {e : Env} {s : State} {m : MethodId} {args : Array Value} {below : List Frame} {meth : Method} {c : Code} {D : va_G} {tc : Nat → ClassId} {tb : Nat → Nat} {sz : Nat} {a0 : Nat → Nat} {G : mx_F} {P : Option mx_V → mx_F → Prop}  (C : mx_C p s m args c c_G_oneAt y_G_oneAt.cls w_G_oneAt D tc tb (mx_A a0 G sz) 1 (mx_Ok0 a0 G)) (hr : meth.sig.returnType = (some .long)) (hlk : meth.locks = false) : mx_all (mx_W p l e rm_G_oneAt s m args below meth c (MQ below (mx_Q D tc tb a0 G sz P) args s 0 0 (mx_A a0 G sz)) D tc tb (mx_A a0 G sz) 1 (mx_Ok0 a0 G)) (t_G_oneAt  P) :=
  ⟨mx_s_lconst C d_G_oneAt_0 (by decide),
  mx_s_iconst C d_G_oneAt_1 (by decide),
  mx_s_iload_n C d_G_oneAt_2 rfl,
  mx_s_imul C d_G_oneAt_3,
  mx_s_lshl C d_G_oneAt_4,
  mx_s_lret C hr hlk d_G_oneAt_5,
  trivial⟩
set_option maxRecDepth 20000 in
set_option maxHeartbeats 2000000 in
theorem m_G_oneAt (l : Launch) : mx_M l y_G_oneAt w_G_oneAt rm_G_oneAt sp_G_oneAt := by
  intro zD ztc ztb zad As F P sz0 h
  obtain ⟨k, rfl, hk, hp⟩ := h
  refine mx_run (cc := c_G_oneAt) (maxL := 1) (ret := (some .long)) (tab := t_G_oneAt  P) (by decide) rfl zD ztc ztb zad _ F P sz0 (Nat.le_of_ble_eq_true rfl) (fun p e s m args below meth c C hr hlk => a_G_oneAt  C hr hlk) ?_
  intro Rr go
  refine go rfl ?_
  refine go rfl ?_
  refine go rfl ⟨_, rfl, ?_⟩
  refine go rfl ⟨_, _, _, rfl, ?_⟩
  refine go rfl ⟨_, _, _, rfl, ?_⟩
  rw [one_at hk]
  refine go rfl ⟨_, rfl, rfl, rfl, ?_⟩
  exact hp
-- LadderWords$Gatherings.isWithin(JJ)Z
def sp_G_isWithin : mx_Sp := fun As F P => ∃ (h a : Nat → Nat), As = [mx_l (lN (enc h 12)), mx_l (lN (enc a 12))] ∧ (∀ j, j < 12 → a j < 16) ∧ (∀ j, j < 12 → h j < 16) ∧ ((∀ j, j < 12 → h j ≤ a j) → P (some (mx_i (nI 1))) F) ∧ ((¬ ∀ j, j < 12 → h j ≤ a j) → P (some (mx_i (nI 0))) F)
theorem d_G_isWithin_0 : decode c_G_isWithin 0 = .ok (.lload_n 2, 1) := by decide +kernel
theorem d_G_isWithin_1 : decode c_G_isWithin 1 = .ok (.ldc2_w 73, 3) := by decide +kernel
theorem d_G_isWithin_4 : decode c_G_isWithin 4 = .ok (.lor, 1) := by decide +kernel
theorem d_G_isWithin_5 : decode c_G_isWithin 5 = .ok (.lload_n 0, 1) := by decide +kernel
theorem d_G_isWithin_6 : decode c_G_isWithin 6 = .ok (.lsub, 1) := by decide +kernel
theorem d_G_isWithin_7 : decode c_G_isWithin 7 = .ok (.ldc2_w 73, 3) := by decide +kernel
theorem d_G_isWithin_10 : decode c_G_isWithin 10 = .ok (.land, 1) := by decide +kernel
theorem d_G_isWithin_11 : decode c_G_isWithin 11 = .ok (.ldc2_w 73, 3) := by decide +kernel
theorem d_G_isWithin_14 : decode c_G_isWithin 14 = .ok (.lcmp, 1) := by decide +kernel
theorem d_G_isWithin_15 : decode c_G_isWithin 15 = .ok (.ifCond .ne 7, 3) := by decide +kernel
theorem d_G_isWithin_18 : decode c_G_isWithin 18 = .ok (.iconst 1, 1) := by decide +kernel
theorem d_G_isWithin_19 : decode c_G_isWithin 19 = .ok (.goto 4, 3) := by decide +kernel
theorem d_G_isWithin_22 : decode c_G_isWithin 22 = .ok (.iconst 0, 1) := by decide +kernel
theorem d_G_isWithin_23 : decode c_G_isWithin 23 = .ok (.ireturn, 1) := by decide +kernel
abbrev w_G_isWithin : List Cond := mx_ws y_G_isWithin c_G_isWithin 4 (some .boolean)
abbrev rm_G_isWithin : Room := { frames := 10, cells := 0, slots := 0, locals := 200 }
def t_G_isWithin  (P : Option mx_V → mx_F → Prop) : List (Nat × mx_O) := [
  (0, mx_lload 2 1),
  (1, mx_push (.inr (.inl (595056260442243600))) 4),
  (4, mx_lor 5),
  (5, mx_lload 0 6),
  (6, mx_lsub 7),
  (7, mx_push (.inr (.inl (595056260442243600))) 10),
  (10, mx_land 11),
  (11, mx_push (.inr (.inl (595056260442243600))) 14),
  (14, mx_lcmp 15),
  (15, mx_if_ne 22 18),
  (18, mx_push (.inl (nI 1)) 19),
  (19, mx_goto 23),
  (22, mx_push (.inl (nI 0)) 23),
  (23, mx_zret P)]
set_option maxRecDepth 20000 in
theorem a_G_isWithin  {p : Program} {l : Launch} {e : Env} {s : State} {m : MethodId} {args : Array Value} {below : List Frame} {meth : Method} {c : Code} {D : va_G} {tc : Nat → ClassId} {tb : Nat → Nat} {sz : Nat} {a0 : Nat → Nat} {G : mx_F} {P : Option mx_V → mx_F → Prop}  (C : mx_C p s m args c c_G_isWithin y_G_isWithin.cls w_G_isWithin D tc tb (mx_A a0 G sz) 4 (mx_Ok0 a0 G)) (hr : meth.sig.returnType = (some .boolean)) (hlk : meth.locks = false) : mx_all (mx_W p l e rm_G_isWithin s m args below meth c (MQ below (mx_Q D tc tb a0 G sz P) args s 0 0 (mx_A a0 G sz)) D tc tb (mx_A a0 G sz) 4 (mx_Ok0 a0 G)) (t_G_isWithin  P) :=
  ⟨mx_s_lload_n C d_G_isWithin_0 rfl,
  mx_s_ldc2 C d_G_isWithin_1 (List.mem_cons_of_mem _ cl_G_73),
  mx_s_lor C d_G_isWithin_4,
  mx_s_lload_n C d_G_isWithin_5 rfl,
  mx_s_lsub C d_G_isWithin_6,
  mx_s_ldc2 C d_G_isWithin_7 (List.mem_cons_of_mem _ cl_G_73),
  mx_s_land C d_G_isWithin_10,
  mx_s_ldc2 C d_G_isWithin_11 (List.mem_cons_of_mem _ cl_G_73),
  mx_s_lcmp C d_G_isWithin_14,
  mx_s_if_ne C d_G_isWithin_15 (by decide),
  mx_s_iconst C d_G_isWithin_18 (by decide),
  mx_s_goto C d_G_isWithin_19 (by decide),
  mx_s_iconst C d_G_isWithin_22 (by decide),
  mx_s_zret C hr hlk d_G_isWithin_23,
  trivial⟩
set_option maxRecDepth 20000 in
set_option maxHeartbeats 2000000 in
theorem m_G_isWithin (l : Launch) : mx_M l y_G_isWithin w_G_isWithin rm_G_isWithin sp_G_isWithin := by
  intro zD ztc ztb zad As F P sz0 h
  obtain ⟨h, a, rfl, ha, hh, ho, hz⟩ := h
  refine mx_run (cc := c_G_isWithin) (maxL := 4) (ret := (some .boolean)) (tab := t_G_isWithin  P) (by decide) rfl zD ztc ztb zad _ F P sz0 (Nat.le_of_ble_eq_true rfl) (fun p e s m args below meth c C hr hlk => a_G_isWithin  C hr hlk) ?_
  intro Rr go
  refine go rfl ⟨_, rfl, ?_⟩
  refine go rfl ?_
  refine go rfl ⟨_, _, _, rfl, ?_⟩
  refine go rfl ⟨_, rfl, ?_⟩
  refine go rfl ⟨_, _, _, rfl, ?_⟩
  refine go rfl ?_
  refine go rfl ⟨_, _, _, rfl, ?_⟩
  refine go rfl ?_
  refine go rfl ⟨_, _, _, rfl, ?_⟩
  refine go rfl ⟨_, _, rfl, fun c => ?_, fun c => ?_⟩
  · refine go rfl ?_
    refine go rfl ⟨_, rfl, rfl, rfl, (Or.inl rfl), ?_⟩
    exact hz (fun q => c (lcmpE.mpr ((within_eq ha hh).mpr q)))
  · refine go rfl ?_
    refine go rfl ?_
    refine go rfl ⟨_, rfl, rfl, rfl, (Or.inr rfl), ?_⟩
    exact ho ((within_eq ha hh).mp (lcmpE.mp c))
-- LadderWords$Gatherings.heapOfRow(LLadderWords$Row;)J
def sp_G_heapOfRow : mx_Sp := fun As F P => ∃ (rn : Nat) (rl : Nat → Int32), As = [mx_r 1] ∧ F 1 = some (e_R rn) ∧ F 2 = some (mx_ia 12 rl) ∧ rn ≤ 12 ∧ (∀ i, i < rn → vl (rl i)) ∧ P (some (mx_l (lN (enc (al rl rn (fun u => wc rl u rn)) 12)))) F
theorem d_G_heapOfRow_0 : decode c_G_heapOfRow 0 = .ok (.lconst 0, 1) := by decide +kernel
theorem d_G_heapOfRow_1 : decode c_G_heapOfRow 1 = .ok (.lstore_n 1, 1) := by decide +kernel
theorem d_G_heapOfRow_2 : decode c_G_heapOfRow 2 = .ok (.iconst 0, 1) := by decide +kernel
theorem d_G_heapOfRow_3 : decode c_G_heapOfRow 3 = .ok (.istore_n 3, 1) := by decide +kernel
theorem d_G_heapOfRow_4 : decode c_G_heapOfRow 4 = .ok (.iload_n 3, 1) := by decide +kernel
theorem d_G_heapOfRow_5 : decode c_G_heapOfRow 5 = .ok (.aload_n 0, 1) := by decide +kernel
theorem d_G_heapOfRow_6 : decode c_G_heapOfRow 6 = .ok (.invokevirtual 57, 3) := by decide +kernel
theorem d_G_heapOfRow_9 : decode c_G_heapOfRow 9 = .ok (.if_icmp .ge 24, 3) := by decide +kernel
theorem d_G_heapOfRow_12 : decode c_G_heapOfRow 12 = .ok (.lload_n 1, 1) := by decide +kernel
theorem d_G_heapOfRow_13 : decode c_G_heapOfRow 13 = .ok (.aload_n 0, 1) := by decide +kernel
theorem d_G_heapOfRow_14 : decode c_G_heapOfRow 14 = .ok (.aload_n 0, 1) := by decide +kernel
theorem d_G_heapOfRow_15 : decode c_G_heapOfRow 15 = .ok (.iload_n 3, 1) := by decide +kernel
theorem d_G_heapOfRow_16 : decode c_G_heapOfRow 16 = .ok (.invokevirtual 62, 3) := by decide +kernel
theorem d_G_heapOfRow_19 : decode c_G_heapOfRow 19 = .ok (.invokevirtual 66, 3) := by decide +kernel
theorem d_G_heapOfRow_22 : decode c_G_heapOfRow 22 = .ok (.invokestatic 69, 3) := by decide +kernel
theorem d_G_heapOfRow_25 : decode c_G_heapOfRow 25 = .ok (.ladd, 1) := by decide +kernel
theorem d_G_heapOfRow_26 : decode c_G_heapOfRow 26 = .ok (.lstore_n 1, 1) := by decide +kernel
theorem d_G_heapOfRow_27 : decode c_G_heapOfRow 27 = .ok (.iinc 3 1, 3) := by decide +kernel
theorem d_G_heapOfRow_30 : decode c_G_heapOfRow 30 = .ok (.goto (-26), 3) := by decide +kernel
theorem d_G_heapOfRow_33 : decode c_G_heapOfRow 33 = .ok (.lload_n 1, 1) := by decide +kernel
theorem d_G_heapOfRow_34 : decode c_G_heapOfRow 34 = .ok (.lreturn, 1) := by decide +kernel
abbrev w_G_heapOfRow : List Cond := mx_ws y_G_heapOfRow c_G_heapOfRow 4 (some .long)
abbrev rm_G_heapOfRow : Room := { frames := 20, cells := 0, slots := 0, locals := 400 }
def t_G_heapOfRow  (P : Option mx_V → mx_F → Prop) : List (Nat × mx_O) := [
  (0, mx_push (.inr (.inl 0)) 1),
  (1, mx_lstore 1 2),
  (2, mx_push (.inl (nI 0)) 3),
  (3, mx_istore 3 4),
  (4, mx_iload 3 5),
  (5, mx_aload 0 6),
  (6, mx_cv0 3 sp_R_length 0 0 9),
  (9, mx_ic_ge 33 12),
  (12, mx_lload 1 13),
  (13, mx_aload 0 14),
  (14, mx_aload 0 15),
  (15, mx_iload 3 16),
  (16, mx_cv1 3 sp_R_letterAt 0 0 19),
  (19, mx_cv1 3 sp_R_firstPlaceOf 0 0 22),
  (22, mx_cs1 sp_G_oneAt 0 0 25),
  (25, mx_ladd 26),
  (26, mx_lstore 1 27),
  (27, mx_iinc 3 (nI 1) 30),
  (30, mx_goto 4),
  (33, mx_lload 1 34),
  (34, mx_lret P)]
set_option maxRecDepth 20000 in
theorem a_G_heapOfRow  {p : Program} {l : Launch} {e : Env} {s : State} {m : MethodId} {args : Array Value} {below : List Frame} {meth : Method} {c : Code} {D : va_G} {tc : Nat → ClassId} {tb : Nat → Nat} {sz : Nat} {a0 : Nat → Nat} {G : mx_F} {P : Option mx_V → mx_F → Prop}  (C : mx_C p s m args c c_G_heapOfRow y_G_heapOfRow.cls w_G_heapOfRow D tc tb (mx_A a0 G sz) 4 (mx_Ok0 a0 G)) (hr : meth.sig.returnType = (some .long)) (hlk : meth.locks = false) : mx_all (mx_W p l e rm_G_heapOfRow s m args below meth c (MQ below (mx_Q D tc tb a0 G sz P) args s 0 0 (mx_A a0 G sz)) D tc tb (mx_A a0 G sz) 4 (mx_Ok0 a0 G)) (t_G_heapOfRow  P) :=
  ⟨mx_s_lconst C d_G_heapOfRow_0 (by decide),
  mx_s_lstore_n C d_G_heapOfRow_1 rfl (by decide),
  mx_s_iconst C d_G_heapOfRow_2 (by decide),
  mx_s_istore_n C d_G_heapOfRow_3 rfl (by decide),
  mx_s_iload_n C d_G_heapOfRow_4 rfl,
  mx_s_aload_n C d_G_heapOfRow_5 rfl,
  mx_s_cv0 C (m_R_length l) rfl (cwV 0 C.2.2.2.2.1 (mx_gV (fun w h => List.mem_cons_of_mem _ h) mk_G_57 im_R_length se_R_length ic_R co_R_length) rfl rfl rfl (by decide +kernel) ⟨by decide, by decide⟩) d_G_heapOfRow_6 ⟨Nat.zero_le _, Nat.zero_le _⟩,
  mx_s_ic_ge C d_G_heapOfRow_9 (by decide),
  mx_s_lload_n C d_G_heapOfRow_12 rfl,
  mx_s_aload_n C d_G_heapOfRow_13 rfl,
  mx_s_aload_n C d_G_heapOfRow_14 rfl,
  mx_s_iload_n C d_G_heapOfRow_15 rfl,
  mx_s_cv1 C (m_R_letterAt l) rfl (cwV 1 C.2.2.2.2.1 (mx_gV (fun w h => List.mem_cons_of_mem _ h) mk_G_62 im_R_letterAt se_R_letterAt ic_R co_R_letterAt) rfl rfl rfl (by decide +kernel) ⟨by decide, by decide⟩) d_G_heapOfRow_16 ⟨Nat.zero_le _, Nat.zero_le _⟩,
  mx_s_cv1 C (m_R_firstPlaceOf l) rfl (cwV 1 C.2.2.2.2.1 (mx_gV (fun w h => List.mem_cons_of_mem _ h) mk_G_66 im_R_firstPlaceOf se_R_firstPlaceOf ic_R co_R_firstPlaceOf) rfl rfl rfl (by decide +kernel) ⟨by decide, by decide⟩) d_G_heapOfRow_19 ⟨Nat.zero_le _, Nat.zero_le _⟩,
  mx_s_cs1 C (m_G_oneAt l) (cwS 1 C.2.2.2.2.1 (mx_gS (fun w h => List.mem_cons_of_mem _ h) mk_G_69 sm_G_oneAt ic_G co_G_oneAt) rfl rfl rfl (by decide +kernel) ⟨by decide, by decide⟩) d_G_heapOfRow_22 ⟨Nat.zero_le _, Nat.zero_le _⟩,
  mx_s_ladd C d_G_heapOfRow_25,
  mx_s_lstore_n C d_G_heapOfRow_26 rfl (by decide),
  mx_s_iinc C d_G_heapOfRow_27 (by decide) (by decide),
  mx_s_goto C d_G_heapOfRow_30 (by decide),
  mx_s_lload_n C d_G_heapOfRow_33 rfl,
  mx_s_lret C hr hlk d_G_heapOfRow_34,
  trivial⟩
set_option maxRecDepth 20000 in
set_option maxHeartbeats 2000000 in
theorem m_G_heapOfRow (l : Launch) : mx_M l y_G_heapOfRow w_G_heapOfRow rm_G_heapOfRow sp_G_heapOfRow := by
  intro zD ztc ztb zad As F P sz0 h
  obtain ⟨rn, rl, rfl, h1, h2, hr, hvl, hp⟩ := h
  refine mx_run (cc := c_G_heapOfRow) (maxL := 4) (ret := (some .long)) (tab := t_G_heapOfRow  P) (by decide) rfl zD ztc ztb zad _ F P sz0 (Nat.le_of_ble_eq_true rfl) (fun p e s m args below meth c C hr hlk => a_G_heapOfRow  C hr hlk) ?_
  intro Rr go
  have hF := mx_as2 h1 h2
  rw [hF]
  have loop : ∀ (m i : Nat), i + m = rn → Rr 4 [some (mx_r 1), some (mx_l (lN (enc (al rl rn (fun u => wc rl u i)) 12))), none, some (mx_i (nI i))] [] (mx_put (mx_put F 1 (e_R rn)) 2 (mx_ia 12 rl)) 0 0 := by
    intro m
    induction m with
    | zero =>
      intro i hi
      refine go rfl ⟨_, rfl, ?_⟩
      refine go rfl ⟨_, rfl, ?_⟩
      refine go rfl ⟨_, _, _, rfl, rfl, rfl, rfl, rfl, ⟨rn, rfl, rfl, ?_⟩⟩
      refine go rfl ⟨_, _, _, rfl, fun c => ?_, fun c => ?_⟩
      · refine go rfl ⟨_, rfl, ?_⟩
        refine go rfl ⟨_, rfl, rfl, rfl, ?_⟩
        rw [← hF, show i = rn by omega]
        exact hp
      · exact absurd (nI_le (by omega) (by omega)) c
    | succ m ih =>
      intro i hi
      have ih := ih (i + 1) (by omega)
      refine go rfl ⟨_, rfl, ?_⟩
      refine go rfl ⟨_, rfl, ?_⟩
      refine go rfl ⟨_, _, _, rfl, rfl, rfl, rfl, rfl, ⟨rn, rfl, rfl, ?_⟩⟩
      refine go rfl ⟨_, _, _, rfl, fun c => ?_, fun c => ?_⟩
      · exact absurd ((nI_leI (by omega) (by omega)).mp c) (by omega)
      obtain ⟨u, hu, _, eu⟩ := vl_ixe (hvl i (by omega))
      refine go rfl ⟨_, rfl, ?_⟩
      refine go rfl ⟨_, rfl, ?_⟩
      refine go rfl ⟨_, rfl, ?_⟩
      refine go rfl ⟨_, rfl, ?_⟩
      refine go rfl ⟨_, _, _, _, rfl, rfl, rfl, rfl, rfl, ⟨rn, rl, _, rfl, rfl, rfl, hr, fun k q1 q2 => ?_, fun q => ?_⟩⟩
      rotate_left
      · exfalso
        rcases q with q | q
        · exact nI_pos (by omega) q
        · exact absurd ((nI_leI (by omega) (by omega)).mp q) (by omega)
      have q2 := (nI_eq (by omega) (by omega)).mp q2
      subst q2
      refine go rfl ⟨_, _, _, _, rfl, rfl, rfl, rfl, rfl, ⟨rn, rl, _, rfl, rfl, rfl, hr, fun k q1 q2 q3 => ?_, fun q => absurd rfl (q i (by omega))⟩⟩
      have hb : enc (al rl rn (fun u => wc rl u (i + 1))) 12 = enc (al rl rn (fun u => wc rl u i)) 12 + 32 ^ k := al_b hr hvl hu q1 (q2.trans eu) (fun x hx => by rw [← eu]; exact q3 x hx) (wc_y eu) (fun x hx hxu => wc_0far eu hu hx hxu)
      refine go rfl ⟨_, _, rfl, rfl, rfl, rfl, ⟨k, rfl, by omega, ?_⟩⟩
      refine go rfl ⟨_, _, _, rfl, ?_⟩
      rw [lN_add, ← hb]
      refine go rfl ⟨_, _, rfl, ?_⟩
      refine go rfl ⟨_, rfl, ?_⟩
      refine go rfl ?_
      rw [nI_add]
      exact ih
  refine go rfl ?_
  refine go rfl ⟨_, _, rfl, ?_⟩
  refine go rfl ?_
  refine go rfl ⟨_, _, rfl, ?_⟩
  have h := loop rn 0 (by omega)
  rw [show (enc (al rl rn (fun u => wc rl u 0)) 12) = 0 from enc_0 (fun j _ => by by_cases q : isf rl rn j; exact al_y q; exact al_n q)] at h
  exact h
-- LadderWords$Gatherings.heapOfWord(ILLadderWords$Row;)J
def sp_G_heapOfWord : mx_Sp := fun As F P => ∃ (n : Nat) (N : Nat → Nat) (ch : Nat → Nat → Int32) (S : Nat → Nat) (lt st : Nat → Int32) (rn j : Nat) (rl : Nat → Int32) (fc kc tot wt : Int32), As = [mx_r 10, mx_i (nI j), mx_r 1] ∧ F 1 = some (e_R rn) ∧ F 2 = some (mx_ia 12 rl) ∧ rn ≤ 12 ∧ (∀ i, i < rn → vl (rl i)) ∧ F 3 = some (e_W n) ∧ F 4 = some (mx_ia 360 lt) ∧ F 5 = some (mx_ia 61 st) ∧ wst n N ch S lt st ∧ F 10 = some (e_G fc kc tot wt) ∧ j < n ∧ (inr rl rn (ch j) (N j) → P (some (mx_l (lN (enc (al rl rn (fun u => wc (ch j) u (N j))) 12)))) F) ∧ (¬ inr rl rn (ch j) (N j) → P (some (mx_l (-1))) F)
theorem d_G_heapOfWord_0 : decode c_G_heapOfWord 0 = .ok (.lconst 0, 1) := by decide +kernel
theorem d_G_heapOfWord_1 : decode c_G_heapOfWord 1 = .ok (.lstore_n 3, 1) := by decide +kernel
theorem d_G_heapOfWord_2 : decode c_G_heapOfWord 2 = .ok (.iconst 0, 1) := by decide +kernel
theorem d_G_heapOfWord_3 : decode c_G_heapOfWord 3 = .ok (.istore 5, 2) := by decide +kernel
theorem d_G_heapOfWord_5 : decode c_G_heapOfWord 5 = .ok (.iload 5, 2) := by decide +kernel
theorem d_G_heapOfWord_7 : decode c_G_heapOfWord 7 = .ok (.aload_n 0, 1) := by decide +kernel
theorem d_G_heapOfWord_8 : decode c_G_heapOfWord 8 = .ok (.getfield 25, 3) := by decide +kernel
theorem d_G_heapOfWord_11 : decode c_G_heapOfWord 11 = .ok (.iload_n 1, 1) := by decide +kernel
theorem d_G_heapOfWord_12 : decode c_G_heapOfWord 12 = .ok (.invokevirtual 88, 3) := by decide +kernel
theorem d_G_heapOfWord_15 : decode c_G_heapOfWord 15 = .ok (.if_icmp .ge 43, 3) := by decide +kernel
theorem d_G_heapOfWord_18 : decode c_G_heapOfWord 18 = .ok (.aload_n 2, 1) := by decide +kernel
theorem d_G_heapOfWord_19 : decode c_G_heapOfWord 19 = .ok (.aload_n 0, 1) := by decide +kernel
theorem d_G_heapOfWord_20 : decode c_G_heapOfWord 20 = .ok (.getfield 25, 3) := by decide +kernel
theorem d_G_heapOfWord_23 : decode c_G_heapOfWord 23 = .ok (.iload_n 1, 1) := by decide +kernel
theorem d_G_heapOfWord_24 : decode c_G_heapOfWord 24 = .ok (.iload 5, 2) := by decide +kernel
theorem d_G_heapOfWord_26 : decode c_G_heapOfWord 26 = .ok (.invokevirtual 91, 3) := by decide +kernel
theorem d_G_heapOfWord_29 : decode c_G_heapOfWord 29 = .ok (.invokevirtual 66, 3) := by decide +kernel
theorem d_G_heapOfWord_32 : decode c_G_heapOfWord 32 = .ok (.istore 6, 2) := by decide +kernel
theorem d_G_heapOfWord_34 : decode c_G_heapOfWord 34 = .ok (.iload 6, 2) := by decide +kernel
theorem d_G_heapOfWord_36 : decode c_G_heapOfWord 36 = .ok (.iconst (-1), 1) := by decide +kernel
theorem d_G_heapOfWord_37 : decode c_G_heapOfWord 37 = .ok (.if_icmp .ne 7, 3) := by decide +kernel
theorem d_G_heapOfWord_40 : decode c_G_heapOfWord 40 = .ok (.ldc2_w 82, 3) := by decide +kernel
theorem d_G_heapOfWord_43 : decode c_G_heapOfWord 43 = .ok (.lreturn, 1) := by decide +kernel
theorem d_G_heapOfWord_44 : decode c_G_heapOfWord 44 = .ok (.lload_n 3, 1) := by decide +kernel
theorem d_G_heapOfWord_45 : decode c_G_heapOfWord 45 = .ok (.iload 6, 2) := by decide +kernel
theorem d_G_heapOfWord_47 : decode c_G_heapOfWord 47 = .ok (.invokestatic 69, 3) := by decide +kernel
theorem d_G_heapOfWord_50 : decode c_G_heapOfWord 50 = .ok (.ladd, 1) := by decide +kernel
theorem d_G_heapOfWord_51 : decode c_G_heapOfWord 51 = .ok (.lstore_n 3, 1) := by decide +kernel
theorem d_G_heapOfWord_52 : decode c_G_heapOfWord 52 = .ok (.iinc 5 1, 3) := by decide +kernel
theorem d_G_heapOfWord_55 : decode c_G_heapOfWord 55 = .ok (.goto (-50), 3) := by decide +kernel
theorem d_G_heapOfWord_58 : decode c_G_heapOfWord 58 = .ok (.lload_n 3, 1) := by decide +kernel
theorem d_G_heapOfWord_59 : decode c_G_heapOfWord 59 = .ok (.lreturn, 1) := by decide +kernel
abbrev w_G_heapOfWord : List Cond := mx_ws y_G_heapOfWord c_G_heapOfWord 7 (some .long)
abbrev rm_G_heapOfWord : Room := { frames := 20, cells := 0, slots := 0, locals := 400 }
def t_G_heapOfWord  (P : Option mx_V → mx_F → Prop) : List (Nat × mx_O) := [
  (0, mx_push (.inr (.inl 0)) 1),
  (1, mx_lstore 3 2),
  (2, mx_push (.inl (nI 0)) 3),
  (3, mx_istore 5 5),
  (5, mx_iload 5 7),
  (7, mx_aload 0 8),
  (8, mx_get 0 0 11),
  (11, mx_iload 1 12),
  (12, mx_cv1 5 sp_W_lengthOf 0 0 15),
  (15, mx_ic_ge 58 18),
  (18, mx_aload 2 19),
  (19, mx_aload 0 20),
  (20, mx_get 0 0 23),
  (23, mx_iload 1 24),
  (24, mx_iload 5 26),
  (26, mx_cv2 5 sp_W_letterOf 0 0 29),
  (29, mx_cv1 3 sp_R_firstPlaceOf 0 0 32),
  (32, mx_istore 6 34),
  (34, mx_iload 6 36),
  (36, mx_push (.inl (-1)) 37),
  (37, mx_ic_ne 44 40),
  (40, mx_push (.inr (.inl (-1))) 43),
  (43, mx_lret P),
  (44, mx_lload 3 45),
  (45, mx_iload 6 47),
  (47, mx_cs1 sp_G_oneAt 0 0 50),
  (50, mx_ladd 51),
  (51, mx_lstore 3 52),
  (52, mx_iinc 5 (nI 1) 55),
  (55, mx_goto 5),
  (58, mx_lload 3 59),
  (59, mx_lret P)]
set_option maxRecDepth 20000 in
theorem a_G_heapOfWord  {p : Program} {l : Launch} {e : Env} {s : State} {m : MethodId} {args : Array Value} {below : List Frame} {meth : Method} {c : Code} {D : va_G} {tc : Nat → ClassId} {tb : Nat → Nat} {sz : Nat} {a0 : Nat → Nat} {G : mx_F} {P : Option mx_V → mx_F → Prop}  (C : mx_C p s m args c c_G_heapOfWord y_G_heapOfWord.cls w_G_heapOfWord D tc tb (mx_A a0 G sz) 7 (mx_Ok0 a0 G)) (hr : meth.sig.returnType = (some .long)) (hlk : meth.locks = false) : mx_all (mx_W p l e rm_G_heapOfWord s m args below meth c (MQ below (mx_Q D tc tb a0 G sz P) args s 0 0 (mx_A a0 G sz)) D tc tb (mx_A a0 G sz) 7 (mx_Ok0 a0 G)) (t_G_heapOfWord  P) :=
  ⟨mx_s_lconst C d_G_heapOfWord_0 (by decide),
  mx_s_lstore_n C d_G_heapOfWord_1 rfl (by decide),
  mx_s_iconst C d_G_heapOfWord_2 (by decide),
  mx_s_istore C d_G_heapOfWord_3 (by decide),
  mx_s_iload C d_G_heapOfWord_5,
  mx_s_aload_n C d_G_heapOfWord_7 rfl,
  mx_s_get (T := T_G) (N := 9) (k := 0) C (fun w h => List.mem_cons_of_mem _ (in_G w h)) rfl (by decide) (List.mem_cons_of_mem _ fk_G_25) rfl d_G_heapOfWord_8,
  mx_s_iload_n C d_G_heapOfWord_11 rfl,
  mx_s_cv1 C (m_W_lengthOf l) rfl (cwV 1 C.2.2.2.2.1 (mx_gV (fun w h => List.mem_cons_of_mem _ h) mk_G_88 im_W_lengthOf se_W_lengthOf ic_W co_W_lengthOf) rfl rfl rfl (by decide +kernel) ⟨by decide, by decide⟩) d_G_heapOfWord_12 ⟨Nat.zero_le _, Nat.zero_le _⟩,
  mx_s_ic_ge C d_G_heapOfWord_15 (by decide),
  mx_s_aload_n C d_G_heapOfWord_18 rfl,
  mx_s_aload_n C d_G_heapOfWord_19 rfl,
  mx_s_get (T := T_G) (N := 9) (k := 0) C (fun w h => List.mem_cons_of_mem _ (in_G w h)) rfl (by decide) (List.mem_cons_of_mem _ fk_G_25) rfl d_G_heapOfWord_20,
  mx_s_iload_n C d_G_heapOfWord_23 rfl,
  mx_s_iload C d_G_heapOfWord_24,
  mx_s_cv2 C (m_W_letterOf l) rfl (cwV 2 C.2.2.2.2.1 (mx_gV (fun w h => List.mem_cons_of_mem _ h) mk_G_91 im_W_letterOf se_W_letterOf ic_W co_W_letterOf) rfl rfl rfl (by decide +kernel) ⟨by decide, by decide⟩) d_G_heapOfWord_26 ⟨Nat.zero_le _, Nat.zero_le _⟩,
  mx_s_cv1 C (m_R_firstPlaceOf l) rfl (cwV 1 C.2.2.2.2.1 (mx_gV (fun w h => List.mem_cons_of_mem _ h) mk_G_66 im_R_firstPlaceOf se_R_firstPlaceOf ic_R co_R_firstPlaceOf) rfl rfl rfl (by decide +kernel) ⟨by decide, by decide⟩) d_G_heapOfWord_29 ⟨Nat.zero_le _, Nat.zero_le _⟩,
  mx_s_istore C d_G_heapOfWord_32 (by decide),
  mx_s_iload C d_G_heapOfWord_34,
  mx_s_iconst C d_G_heapOfWord_36 (by decide),
  mx_s_ic_ne C d_G_heapOfWord_37 (by decide),
  mx_s_ldc2 C d_G_heapOfWord_40 (List.mem_cons_of_mem _ cl_G_82),
  mx_s_lret C hr hlk d_G_heapOfWord_43,
  mx_s_lload_n C d_G_heapOfWord_44 rfl,
  mx_s_iload C d_G_heapOfWord_45,
  mx_s_cs1 C (m_G_oneAt l) (cwS 1 C.2.2.2.2.1 (mx_gS (fun w h => List.mem_cons_of_mem _ h) mk_G_69 sm_G_oneAt ic_G co_G_oneAt) rfl rfl rfl (by decide +kernel) ⟨by decide, by decide⟩) d_G_heapOfWord_47 ⟨Nat.zero_le _, Nat.zero_le _⟩,
  mx_s_ladd C d_G_heapOfWord_50,
  mx_s_lstore_n C d_G_heapOfWord_51 rfl (by decide),
  mx_s_iinc C d_G_heapOfWord_52 (by decide) (by decide),
  mx_s_goto C d_G_heapOfWord_55 (by decide),
  mx_s_lload_n C d_G_heapOfWord_58 rfl,
  mx_s_lret C hr hlk d_G_heapOfWord_59,
  trivial⟩
set_option maxRecDepth 20000 in
set_option maxHeartbeats 2000000 in
theorem m_G_heapOfWord (l : Launch) : mx_M l y_G_heapOfWord w_G_heapOfWord rm_G_heapOfWord sp_G_heapOfWord := by
  intro zD ztc ztb zad As F P sz0 h
  obtain ⟨n, N, ch, S, lt, st, rn, j, rl, fc, kc, tot, wt, rfl, h1, h2, hr, hvl, h3, h4, h5, hw, h10, hj, ho, hz⟩ := h
  refine mx_run (cc := c_G_heapOfWord) (maxL := 7) (ret := (some .long)) (tab := t_G_heapOfWord  P) (by decide) rfl zD ztc ztb zad _ F P sz0 (Nat.le_of_ble_eq_true rfl) (fun p e s m args below meth c C hr hlk => a_G_heapOfWord  C hr hlk) ?_
  intro Rr go
  have hF := mx_as6 h1 h2 h3 h4 h5 h10
  rw [hF]
  have hn := hw.1.1
  have hN := hw.2.1.2.1 j hj
  have loop : ∀ (m i : Nat) (jk : Option mx_V), i + m = N j → inr rl rn (ch j) i → Rr 5 [some (mx_r 10), some (mx_i (nI j)), some (mx_r 1), some (mx_l (lN (enc (al rl rn (fun u => wc (ch j) u i)) 12))), none, some (mx_i (nI i)), jk] [] (mx_put (mx_put (mx_put (mx_put (mx_put (mx_put F 1 (e_R rn)) 2 (mx_ia 12 rl)) 3 (e_W n)) 4 (mx_ia 360 lt)) 5 (mx_ia 61 st)) 10 (e_G fc kc tot wt)) 0 0 := by
    intro m
    induction m with
    | zero =>
      intro i jk hi hin
      refine go rfl ⟨_, rfl, ?_⟩
      refine go rfl ⟨_, rfl, ?_⟩
      refine go rfl ⟨_, _, _, _, rfl, rfl, rfl, ?_⟩
      refine go rfl ⟨_, rfl, ?_⟩
      refine go rfl ⟨_, _, _, _, rfl, rfl, rfl, rfl, rfl, u_lengthOf hw hj rfl rfl ?_⟩
      refine go rfl ⟨_, _, _, rfl, fun c => ?_, fun c => ?_⟩
      · refine go rfl ⟨_, rfl, ?_⟩
        refine go rfl ⟨_, rfl, rfl, rfl, ?_⟩
        have ei : i = N j := by omega
        rw [← hF, ei]
        rw [ei] at hin
        exact ho hin
      · exact absurd (nI_le (by omega) (by omega)) c
    | succ m ih =>
      intro i jk hi hin
      refine go rfl ⟨_, rfl, ?_⟩
      refine go rfl ⟨_, rfl, ?_⟩
      refine go rfl ⟨_, _, _, _, rfl, rfl, rfl, ?_⟩
      refine go rfl ⟨_, rfl, ?_⟩
      refine go rfl ⟨_, _, _, _, rfl, rfl, rfl, rfl, rfl, u_lengthOf hw hj rfl rfl ?_⟩
      refine go rfl ⟨_, _, _, rfl, fun c => ?_, fun c => ?_⟩
      · exact absurd ((nI_leI (by omega) (by omega)).mp c) (by omega)
      obtain ⟨u, hu, _, eu⟩ := vl_ixe (hw.2.1.2.2 j i hj (by omega))
      refine go rfl ⟨_, rfl, ?_⟩
      refine go rfl ⟨_, rfl, ?_⟩
      refine go rfl ⟨_, _, _, _, rfl, rfl, rfl, ?_⟩
      refine go rfl ⟨_, rfl, ?_⟩
      refine go rfl ⟨_, rfl, ?_⟩
      refine go rfl ⟨_, _, _, _, _, rfl, rfl, rfl, rfl, rfl, u_letterOf hw hj (show i < N j by omega) rfl rfl rfl ?_⟩
      refine go rfl ⟨_, _, _, _, rfl, rfl, rfl, rfl, rfl, ⟨rn, rl, _, rfl, rfl, rfl, hr, fun k q1 q2 q3 => ?_, fun q => ?_⟩⟩
      · have hb : enc (al rl rn (fun u => wc (ch j) u (i + 1))) 12 = enc (al rl rn (fun u => wc (ch j) u i)) 12 + 32 ^ k := al_b hr hvl hu q1 (q2.trans eu) (fun x hx => by rw [← eu]; exact q3 x hx) (wc_y eu) (fun x hx hxu => wc_0far eu hu hx hxu)
        refine go rfl ⟨_, _, rfl, ?_⟩
        refine go rfl ⟨_, rfl, ?_⟩
        refine go rfl ?_
        refine go rfl ⟨_, _, _, rfl, fun e => ?_, fun e => ?_⟩
        · refine go rfl ⟨_, rfl, ?_⟩
          refine go rfl ⟨_, rfl, ?_⟩
          refine go rfl ⟨_, _, rfl, rfl, rfl, rfl, ⟨k, rfl, by omega, ?_⟩⟩
          refine go rfl ⟨_, _, _, rfl, ?_⟩
          rw [lN_add, ← hb]
          refine go rfl ⟨_, _, rfl, ?_⟩
          refine go rfl ⟨_, rfl, ?_⟩
          refine go rfl ?_
          rw [nI_add]
          refine ih (i + 1) _ (by omega) (fun x hx => ?_)
          by_cases ex : x = i
          · rw [ex]
            exact ⟨k, q1, q2⟩
          · exact hin x (by omega)
        · exact absurd e (nI_m1 (by omega))
      · refine go rfl ⟨_, _, rfl, ?_⟩
        refine go rfl ⟨_, rfl, ?_⟩
        refine go rfl ?_
        refine go rfl ⟨_, _, _, rfl, fun e => ?_, fun e => ?_⟩
        · exact absurd rfl e
        refine go rfl ?_
        refine go rfl ⟨_, rfl, rfl, rfl, ?_⟩
        rw [← hF]
        refine hz (fun h => ?_)
        obtain ⟨k, h1, h2⟩ := h i (by omega)
        exact q k h1 h2
  refine go rfl ?_
  refine go rfl ⟨_, _, rfl, ?_⟩
  refine go rfl ?_
  refine go rfl ⟨_, _, rfl, ?_⟩
  have h := loop (N j) 0 none (by omega) (fun x hx => absurd hx (Nat.not_lt_zero x))
  rw [show (enc (al rl rn (fun u => wc (ch j) u 0)) 12) = 0 from enc_0 (fun q _ => by by_cases z : isf rl rn q; exact al_y z; exact al_n z)] at h
  exact h
theorem enc_m1 {a : Nat → Nat} (h : ∀ j, j < 12 → a j < 32) : ¬ lN (enc a 12) = -1 := by
  intro e
  have h1 := congrArg Int64.toInt e
  rw [pk_lT (enc63 h)] at h1
  have h2 : (-1 : Int64).toInt = -1 := by decide
  omega
-- LadderWords$Gatherings.listFitting(LLadderWords$Row;J)V
def sp_G_listFitting : mx_Sp := fun As F P => ∃ (n : Nat) (N : Nat → Nat) (ch : Nat → Nat → Int32) (S : Nat → Nat) (lt st : Nat → Int32) (rn : Nat) (rl : Nat → Int32) (fc kc tot wt : Int32) (ft : Nat → Int32) (hp : Nat → Int64) (l0 : Nat → Nat), As = [mx_r 10, mx_r 1, mx_l (lN (enc (al rl rn l0) 12))] ∧ F 1 = some (e_R rn) ∧ F 2 = some (mx_ia 12 rl) ∧ rn ≤ 12 ∧ (∀ i, i < rn → vl (rl i)) ∧ F 3 = some (e_W n) ∧ F 4 = some (mx_ia 360 lt) ∧ F 5 = some (mx_ia 61 st) ∧ wst n N ch S lt st ∧ F 10 = some (e_G fc kc tot wt) ∧ F 11 = some (mx_ia 60 ft) ∧ F 12 = some (mx_la 60 hp) ∧ spl rl rn l0 ∧ (∀ u, u < 26 → l0 u < 16) ∧ ∀ (fc' : Nat) ft' hp' fl, fc' ≤ 60 → fli n N ch rl rn l0 n fc' fl ft' hp' → P none (mx_put (mx_put (mx_put F 11 (mx_ia 60 ft')) 12 (mx_la 60 hp')) 10 (e_G (nI fc') kc tot wt))
theorem d_G_listFitting_0 : decode c_G_listFitting 0 = .ok (.aload_n 0, 1) := by decide +kernel
theorem d_G_listFitting_1 : decode c_G_listFitting 1 = .ok (.iconst 0, 1) := by decide +kernel
theorem d_G_listFitting_2 : decode c_G_listFitting 2 = .ok (.putfield 75, 3) := by decide +kernel
theorem d_G_listFitting_5 : decode c_G_listFitting 5 = .ok (.iconst 0, 1) := by decide +kernel
theorem d_G_listFitting_6 : decode c_G_listFitting 6 = .ok (.istore 4, 2) := by decide +kernel
theorem d_G_listFitting_8 : decode c_G_listFitting 8 = .ok (.iload 4, 2) := by decide +kernel
theorem d_G_listFitting_10 : decode c_G_listFitting 10 = .ok (.aload_n 0, 1) := by decide +kernel
theorem d_G_listFitting_11 : decode c_G_listFitting 11 = .ok (.getfield 25, 3) := by decide +kernel
theorem d_G_listFitting_14 : decode c_G_listFitting 14 = .ok (.invokevirtual 36, 3) := by decide +kernel
theorem d_G_listFitting_17 : decode c_G_listFitting 17 = .ok (.if_icmp .ge 68, 3) := by decide +kernel
theorem d_G_listFitting_20 : decode c_G_listFitting 20 = .ok (.aload_n 0, 1) := by decide +kernel
theorem d_G_listFitting_21 : decode c_G_listFitting 21 = .ok (.iload 4, 2) := by decide +kernel
theorem d_G_listFitting_23 : decode c_G_listFitting 23 = .ok (.aload_n 1, 1) := by decide +kernel
theorem d_G_listFitting_24 : decode c_G_listFitting 24 = .ok (.invokevirtual 78, 3) := by decide +kernel
theorem d_G_listFitting_27 : decode c_G_listFitting 27 = .ok (.lstore 5, 2) := by decide +kernel
theorem d_G_listFitting_29 : decode c_G_listFitting 29 = .ok (.lload 5, 2) := by decide +kernel
theorem d_G_listFitting_31 : decode c_G_listFitting 31 = .ok (.ldc2_w 82, 3) := by decide +kernel
theorem d_G_listFitting_34 : decode c_G_listFitting 34 = .ok (.lcmp, 1) := by decide +kernel
theorem d_G_listFitting_35 : decode c_G_listFitting 35 = .ok (.ifCond .eq 44, 3) := by decide +kernel
theorem d_G_listFitting_38 : decode c_G_listFitting 38 = .ok (.lload 5, 2) := by decide +kernel
theorem d_G_listFitting_40 : decode c_G_listFitting 40 = .ok (.lload_n 2, 1) := by decide +kernel
theorem d_G_listFitting_41 : decode c_G_listFitting 41 = .ok (.invokestatic 84, 3) := by decide +kernel
theorem d_G_listFitting_44 : decode c_G_listFitting 44 = .ok (.ifCond .eq 35, 3) := by decide +kernel
theorem d_G_listFitting_47 : decode c_G_listFitting 47 = .ok (.aload_n 0, 1) := by decide +kernel
theorem d_G_listFitting_48 : decode c_G_listFitting 48 = .ok (.getfield 9, 3) := by decide +kernel
theorem d_G_listFitting_51 : decode c_G_listFitting 51 = .ok (.aload_n 0, 1) := by decide +kernel
theorem d_G_listFitting_52 : decode c_G_listFitting 52 = .ok (.getfield 75, 3) := by decide +kernel
theorem d_G_listFitting_55 : decode c_G_listFitting 55 = .ok (.iload 4, 2) := by decide +kernel
theorem d_G_listFitting_57 : decode c_G_listFitting 57 = .ok (.iastore, 1) := by decide +kernel
theorem d_G_listFitting_58 : decode c_G_listFitting 58 = .ok (.aload_n 0, 1) := by decide +kernel
theorem d_G_listFitting_59 : decode c_G_listFitting 59 = .ok (.getfield 15, 3) := by decide +kernel
theorem d_G_listFitting_62 : decode c_G_listFitting 62 = .ok (.aload_n 0, 1) := by decide +kernel
theorem d_G_listFitting_63 : decode c_G_listFitting 63 = .ok (.getfield 75, 3) := by decide +kernel
theorem d_G_listFitting_66 : decode c_G_listFitting 66 = .ok (.lload 5, 2) := by decide +kernel
theorem d_G_listFitting_68 : decode c_G_listFitting 68 = .ok (.lastore, 1) := by decide +kernel
theorem d_G_listFitting_69 : decode c_G_listFitting 69 = .ok (.aload_n 0, 1) := by decide +kernel
theorem d_G_listFitting_70 : decode c_G_listFitting 70 = .ok (.dup, 1) := by decide +kernel
theorem d_G_listFitting_71 : decode c_G_listFitting 71 = .ok (.getfield 75, 3) := by decide +kernel
theorem d_G_listFitting_74 : decode c_G_listFitting 74 = .ok (.iconst 1, 1) := by decide +kernel
theorem d_G_listFitting_75 : decode c_G_listFitting 75 = .ok (.iadd, 1) := by decide +kernel
theorem d_G_listFitting_76 : decode c_G_listFitting 76 = .ok (.putfield 75, 3) := by decide +kernel
theorem d_G_listFitting_79 : decode c_G_listFitting 79 = .ok (.iinc 4 1, 3) := by decide +kernel
theorem d_G_listFitting_82 : decode c_G_listFitting 82 = .ok (.goto (-74), 3) := by decide +kernel
theorem d_G_listFitting_85 : decode c_G_listFitting 85 = .ok (.return_, 1) := by decide +kernel
abbrev w_G_listFitting : List Cond := mx_ws y_G_listFitting c_G_listFitting 7 none
abbrev rm_G_listFitting : Room := { frames := 30, cells := 0, slots := 0, locals := 600 }
def t_G_listFitting  (P : Option mx_V → mx_F → Prop) : List (Nat × mx_O) := [
  (0, mx_aload 0 1),
  (1, mx_push (.inl (nI 0)) 2),
  (2, mx_puti 0 3 5),
  (5, mx_push (.inl (nI 0)) 6),
  (6, mx_istore 4 8),
  (8, mx_iload 4 10),
  (10, mx_aload 0 11),
  (11, mx_get 0 0 14),
  (14, mx_cv0 5 sp_W_count 0 0 17),
  (17, mx_ic_ge 85 20),
  (20, mx_aload 0 21),
  (21, mx_iload 4 23),
  (23, mx_aload 1 24),
  (24, mx_cv2 0 sp_G_heapOfWord 0 0 27),
  (27, mx_lstore 5 29),
  (29, mx_lload 5 31),
  (31, mx_push (.inr (.inl (-1))) 34),
  (34, mx_lcmp 35),
  (35, mx_if_eq 79 38),
  (38, mx_lload 5 40),
  (40, mx_lload 2 41),
  (41, mx_cs2 sp_G_isWithin 0 0 44),
  (44, mx_if_eq 79 47),
  (47, mx_aload 0 48),
  (48, mx_get 0 1 51),
  (51, mx_aload 0 52),
  (52, mx_get 0 3 55),
  (55, mx_iload 4 57),
  (57, mx_iast 58),
  (58, mx_aload 0 59),
  (59, mx_get 0 2 62),
  (62, mx_aload 0 63),
  (63, mx_get 0 3 66),
  (66, mx_lload 5 68),
  (68, mx_last 69),
  (69, mx_aload 0 70),
  (70, mx_dup 71),
  (71, mx_get 0 3 74),
  (74, mx_push (.inl (nI 1)) 75),
  (75, mx_iadd 76),
  (76, mx_puti 0 3 79),
  (79, mx_iinc 4 (nI 1) 82),
  (82, mx_goto 8),
  (85, mx_ret P)]
set_option maxRecDepth 20000 in
theorem a_G_listFitting  {p : Program} {l : Launch} {e : Env} {s : State} {m : MethodId} {args : Array Value} {below : List Frame} {meth : Method} {c : Code} {D : va_G} {tc : Nat → ClassId} {tb : Nat → Nat} {sz : Nat} {a0 : Nat → Nat} {G : mx_F} {P : Option mx_V → mx_F → Prop}  (C : mx_C p s m args c c_G_listFitting y_G_listFitting.cls w_G_listFitting D tc tb (mx_A a0 G sz) 7 (mx_Ok0 a0 G)) (hr : meth.sig.returnType = none) (hlk : meth.locks = false) : mx_all (mx_W p l e rm_G_listFitting s m args below meth c (MQ below (mx_Q D tc tb a0 G sz P) args s 0 0 (mx_A a0 G sz)) D tc tb (mx_A a0 G sz) 7 (mx_Ok0 a0 G)) (t_G_listFitting  P) :=
  ⟨mx_s_aload_n C d_G_listFitting_0 rfl,
  mx_s_iconst C d_G_listFitting_1 (by decide),
  mx_s_puti (T := T_G) (N := 9) (k := 3) C (fun w h => List.mem_cons_of_mem _ (in_G w h)) rfl ty_G ok_G nm_G (by decide) (List.mem_cons_of_mem _ fk_G_75) rfl rfl (ok_G 3 (by decide)) d_G_listFitting_2,
  mx_s_iconst C d_G_listFitting_5 (by decide),
  mx_s_istore C d_G_listFitting_6 (by decide),
  mx_s_iload C d_G_listFitting_8,
  mx_s_aload_n C d_G_listFitting_10 rfl,
  mx_s_get (T := T_G) (N := 9) (k := 0) C (fun w h => List.mem_cons_of_mem _ (in_G w h)) rfl (by decide) (List.mem_cons_of_mem _ fk_G_25) rfl d_G_listFitting_11,
  mx_s_cv0 C (m_W_count l) rfl (cwV 0 C.2.2.2.2.1 (mx_gV (fun w h => List.mem_cons_of_mem _ h) mk_G_36 im_W_count se_W_count ic_W co_W_count) rfl rfl rfl (by decide +kernel) ⟨by decide, by decide⟩) d_G_listFitting_14 ⟨Nat.zero_le _, Nat.zero_le _⟩,
  mx_s_ic_ge C d_G_listFitting_17 (by decide),
  mx_s_aload_n C d_G_listFitting_20 rfl,
  mx_s_iload C d_G_listFitting_21,
  mx_s_aload_n C d_G_listFitting_23 rfl,
  mx_s_cv2 C (m_G_heapOfWord l) rfl (cwV 2 C.2.2.2.2.1 (mx_gV (fun w h => List.mem_cons_of_mem _ h) mk_G_78 im_G_heapOfWord se_G_heapOfWord ic_G co_G_heapOfWord) rfl rfl rfl (by decide +kernel) ⟨by decide, by decide⟩) d_G_listFitting_24 ⟨Nat.zero_le _, Nat.zero_le _⟩,
  mx_s_lstore C d_G_listFitting_27 (by decide),
  mx_s_lload C d_G_listFitting_29,
  mx_s_ldc2 C d_G_listFitting_31 (List.mem_cons_of_mem _ cl_G_82),
  mx_s_lcmp C d_G_listFitting_34,
  mx_s_if_eq C d_G_listFitting_35 (by decide),
  mx_s_lload C d_G_listFitting_38,
  mx_s_lload_n C d_G_listFitting_40 rfl,
  mx_s_cs2 C (m_G_isWithin l) (cwS 2 C.2.2.2.2.1 (mx_gS (fun w h => List.mem_cons_of_mem _ h) mk_G_84 sm_G_isWithin ic_G co_G_isWithin) rfl rfl rfl (by decide +kernel) ⟨by decide, by decide⟩) d_G_listFitting_41 ⟨Nat.zero_le _, Nat.zero_le _⟩,
  mx_s_if_eq C d_G_listFitting_44 (by decide),
  mx_s_aload_n C d_G_listFitting_47 rfl,
  mx_s_get (T := T_G) (N := 9) (k := 1) C (fun w h => List.mem_cons_of_mem _ (in_G w h)) rfl (by decide) (List.mem_cons_of_mem _ fk_G_9) rfl d_G_listFitting_48,
  mx_s_aload_n C d_G_listFitting_51 rfl,
  mx_s_get (T := T_G) (N := 9) (k := 3) C (fun w h => List.mem_cons_of_mem _ (in_G w h)) rfl (by decide) (List.mem_cons_of_mem _ fk_G_75) rfl d_G_listFitting_52,
  mx_s_iload C d_G_listFitting_55,
  mx_s_iast C d_G_listFitting_57,
  mx_s_aload_n C d_G_listFitting_58 rfl,
  mx_s_get (T := T_G) (N := 9) (k := 2) C (fun w h => List.mem_cons_of_mem _ (in_G w h)) rfl (by decide) (List.mem_cons_of_mem _ fk_G_15) rfl d_G_listFitting_59,
  mx_s_aload_n C d_G_listFitting_62 rfl,
  mx_s_get (T := T_G) (N := 9) (k := 3) C (fun w h => List.mem_cons_of_mem _ (in_G w h)) rfl (by decide) (List.mem_cons_of_mem _ fk_G_75) rfl d_G_listFitting_63,
  mx_s_lload C d_G_listFitting_66,
  mx_s_last C d_G_listFitting_68,
  mx_s_aload_n C d_G_listFitting_69 rfl,
  mx_s_dup C d_G_listFitting_70,
  mx_s_get (T := T_G) (N := 9) (k := 3) C (fun w h => List.mem_cons_of_mem _ (in_G w h)) rfl (by decide) (List.mem_cons_of_mem _ fk_G_75) rfl d_G_listFitting_71,
  mx_s_iconst C d_G_listFitting_74 (by decide),
  mx_s_iadd C d_G_listFitting_75,
  mx_s_puti (T := T_G) (N := 9) (k := 3) C (fun w h => List.mem_cons_of_mem _ (in_G w h)) rfl ty_G ok_G nm_G (by decide) (List.mem_cons_of_mem _ fk_G_75) rfl rfl (ok_G 3 (by decide)) d_G_listFitting_76,
  mx_s_iinc C d_G_listFitting_79 (by decide) (by decide),
  mx_s_goto C d_G_listFitting_82 (by decide),
  mx_s_ret C hr hlk d_G_listFitting_85,
  trivial⟩
set_option maxRecDepth 20000 in
set_option maxHeartbeats 2000000 in
theorem m_G_listFitting (l : Launch) : mx_M l y_G_listFitting w_G_listFitting rm_G_listFitting sp_G_listFitting := by
  intro zD ztc ztb zad As F P sz0 h
  obtain ⟨n, N, ch, S, lt, st, rn, rl, fc, kc, tot, wt, ft, hp, l0, rfl, h1, h2, hr, hvl, h3, h4, h5, hw, h10, h11, h12, hsp, hl16, hP⟩ := h
  refine mx_run (cc := c_G_listFitting) (maxL := 7) (ret := none) (tab := t_G_listFitting  P) (by decide) rfl zD ztc ztb zad _ F P sz0 (Nat.le_of_ble_eq_true rfl) (fun p e s m args below meth c C hr hlk => a_G_listFitting  C hr hlk) ?_
  intro Rr go
  have hF : F = mx_put (mx_put (mx_put (mx_put (mx_put (mx_put (mx_put (mx_put F 1 (e_R rn)) 2 (mx_ia 12 rl)) 3 (e_W n)) 4 (mx_ia 360 lt)) 5 (mx_ia 61 st)) 11 (mx_ia 60 ft)) 12 (mx_la 60 hp)) 10 (e_G fc kc tot wt) := by rw [mx_self h1, mx_self h2, mx_self h3, mx_self h4, mx_self h5, mx_self h11, mx_self h12, mx_self h10]
  have hX : (mx_put (mx_put (mx_put (mx_put (mx_put F 1 (e_R rn)) 2 (mx_ia 12 rl)) 3 (e_W n)) 4 (mx_ia 360 lt)) 5 (mx_ia 61 st)) = F := by rw [mx_self h1, mx_self h2, mx_self h3, mx_self h4, mx_self h5]
  rw [hF]
  have hn := hw.1.1
  have loop : ∀ (m v k : Nat) (fl : Nat → Nat) (ft' : Nat → Int32) (hp' : Nat → Int64) (j5 : Option mx_V), v + m = n → k ≤ v → fli n N ch rl rn l0 v k fl ft' hp' → Rr 8 [some (mx_r 10), some (mx_r 1), some (mx_l (lN (enc (al rl rn l0) 12))), none, some (mx_i (nI v)), j5, none] [] (mx_put (mx_put (mx_put (mx_put (mx_put (mx_put (mx_put (mx_put F 1 (e_R rn)) 2 (mx_ia 12 rl)) 3 (e_W n)) 4 (mx_ia 360 lt)) 5 (mx_ia 61 st)) 11 (mx_ia 60 ft')) 12 (mx_la 60 hp')) 10 (e_G (nI k) kc tot wt)) 0 0 := by
    intro m
    induction m with
    | zero =>
      intro v k fl ft' hp' j5 hv hk hfl
      refine go rfl ⟨_, rfl, ?_⟩
      refine go rfl ⟨_, rfl, ?_⟩
      refine go rfl ⟨_, _, _, _, rfl, rfl, rfl, ?_⟩
      refine go rfl ⟨_, _, _, rfl, rfl, rfl, rfl, rfl, ⟨n, rfl, rfl, ?_⟩⟩
      refine go rfl ⟨_, _, _, rfl, fun c => ?_, fun c => ?_⟩
      · refine go rfl ⟨rfl, rfl, rfl, ?_⟩
        rw [hX]
        rw [show v = n by omega] at hfl
        exact hP k ft' hp' fl (by omega) hfl
      · exact absurd (nI_le (by omega) (by omega)) c
    | succ m ih =>
      intro v k fl ft' hp' j5 hv hk hfl
      have hvn : v < n := by omega
      have hNv := hw.2.1.2.1 v hvn
      refine go rfl ⟨_, rfl, ?_⟩
      refine go rfl ⟨_, rfl, ?_⟩
      refine go rfl ⟨_, _, _, _, rfl, rfl, rfl, ?_⟩
      refine go rfl ⟨_, _, _, rfl, rfl, rfl, rfl, rfl, ⟨n, rfl, rfl, ?_⟩⟩
      refine go rfl ⟨_, _, _, rfl, fun c => ?_, fun c => ?_⟩
      · exact absurd ((nI_leI (by omega) (by omega)).mp c) (by omega)
      have next : ¬ fitw N ch l0 v → ∀ h : Int64, Rr 79 [some (mx_r 10), some (mx_r 1), some (mx_l (lN (enc (al rl rn l0) 12))), none, some (mx_i (nI v)), some (mx_l h), none] [] (mx_put (mx_put (mx_put (mx_put (mx_put (mx_put (mx_put (mx_put F 1 (e_R rn)) 2 (mx_ia 12 rl)) 3 (e_W n)) 4 (mx_ia 360 lt)) 5 (mx_ia 61 st)) 11 (mx_ia 60 ft')) 12 (mx_la 60 hp')) 10 (e_G (nI k) kc tot wt)) 0 0 := by
        intro hno h
        refine go rfl ⟨_, rfl, ?_⟩
        refine go rfl ?_
        rw [nI_add]
        refine ih (v + 1) k fl ft' hp' _ (by omega) (by omega) ⟨fun q hq => ?_, hfl.2.1, fun w hw2 hf => ?_⟩
        · obtain ⟨a1, a2, a3⟩ := hfl.1 q hq
          exact ⟨a1, by omega, a3⟩
        · by_cases e : w = v
          · rw [e] at hf
            exact absurd hf hno
          · exact hfl.2.2 w (by omega) hf
      refine go rfl ⟨_, rfl, ?_⟩
      refine go rfl ⟨_, rfl, ?_⟩
      refine go rfl ⟨_, rfl, ?_⟩
      refine go rfl ⟨_, _, _, _, _, rfl, rfl, rfl, rfl, rfl, ⟨n, N, ch, S, lt, st, rn, v, rl, _, _, _, _, rfl, rfl, rfl, hr, hvl, rfl, rfl, rfl, hw, rfl, hvn, fun hin => ?_, fun hin => ?_⟩⟩
      rotate_left
      · refine go rfl ⟨_, _, rfl, ?_⟩
        refine go rfl ⟨_, rfl, ?_⟩
        refine go rfl ?_
        refine go rfl ⟨_, _, _, rfl, ?_⟩
        refine go rfl ⟨_, _, rfl, fun e => ?_, fun e => ?_⟩
        · exact next (fun hf => hin (fit_inr hsp (fun i hi => hw.2.1.2.2 v i hvn hi) hf)) _
        · exact absurd (lcmpE.mpr rfl) e
      have h16 : ∀ j, j < 12 → al rl rn (fun u => wc (ch v) u (N v)) j < 16 := fun j _ => al_lt (by decide) hvl (fun u hu => by have := wc_le (ch v) u (N v); omega) j
      refine go rfl ⟨_, _, rfl, ?_⟩
      refine go rfl ⟨_, rfl, ?_⟩
      refine go rfl ?_
      refine go rfl ⟨_, _, _, rfl, ?_⟩
      refine go rfl ⟨_, _, rfl, fun e => ?_, fun e => ?_⟩
      · exact absurd (lcmpE.mp e) (enc_m1 (fun j hj => by have := h16 j hj; omega))
      refine go rfl ⟨_, rfl, ?_⟩
      refine go rfl ⟨_, rfl, ?_⟩
      refine go rfl ⟨_, _, _, rfl, rfl, rfl, rfl, ⟨_, _, rfl, fun j _ => al_lt (by decide) hvl hl16 j, h16, fun hy => ?_, fun hy => ?_⟩⟩
      · have hf := (fit_al hvl hr hin).mp hy
        refine go rfl ⟨_, _, rfl, fun e2 => ?_, fun e2 => ?_⟩
        · exact absurd e2 (by decide)
        refine go rfl ⟨_, rfl, ?_⟩
        refine go rfl ⟨_, _, _, _, rfl, rfl, rfl, ?_⟩
        refine go rfl ⟨_, rfl, ?_⟩
        refine go rfl ⟨_, _, _, _, rfl, rfl, rfl, ?_⟩
        refine go rfl ⟨_, rfl, ?_⟩
        refine go rfl ⟨_, _, _, _, _, _, rfl, rfl, (vp_in_nI (show k < 60 by omega) (by omega)), ?_⟩
        rw [nI_clamp (by omega), mx_pc _ _ _ (show (11 : Nat) ≠ 10 by decide), mx_pc _ _ _ (show (11 : Nat) ≠ 12 by decide), mx_pp]
        refine go rfl ⟨_, rfl, ?_⟩
        refine go rfl ⟨_, _, _, _, rfl, rfl, rfl, ?_⟩
        refine go rfl ⟨_, rfl, ?_⟩
        refine go rfl ⟨_, _, _, _, rfl, rfl, rfl, ?_⟩
        refine go rfl ⟨_, rfl, ?_⟩
        refine go rfl ⟨_, _, _, _, _, _, rfl, rfl, (vp_in_nI (show k < 60 by omega) (by omega)), ?_⟩
        rw [nI_clamp (by omega), mx_pc _ _ _ (show (12 : Nat) ≠ 10 by decide), mx_pp]
        refine go rfl ⟨_, rfl, ?_⟩
        refine go rfl ⟨_, _, rfl, rfl, ?_⟩
        refine go rfl ⟨_, _, _, _, rfl, rfl, rfl, ?_⟩
        refine go rfl ?_
        refine go rfl ⟨_, _, _, rfl, ?_⟩
        rw [nI_add]
        refine go rfl ⟨_, _, _, _, rfl, rfl, (Nat.le_of_ble_eq_true rfl), ?_⟩
        rw [mx_pp]
        refine go rfl ⟨_, rfl, ?_⟩
        refine go rfl ?_
        rw [nI_add]
        refine ih (v + 1) (k + 1) (pu fl k v) _ _ _ (by omega) (by omega) ⟨fun q hq => ?_, fun a b hab hb => ?_, fun w hw2 hf2 => ?_⟩
        · by_cases eq : q = k
          · rw [eq, pk_us, pk_uLs, pu_s]
            exact ⟨rfl, by omega, hf, hin, rfl⟩
          · obtain ⟨a1, a2, a3, a4, a5⟩ := hfl.1 q (by omega)
            rw [pk_un eq, pk_uLn eq, pu_n eq]
            exact ⟨a1, by omega, a3, a4, a5⟩
        · by_cases eb : b = k
          · rw [eb, pu_s, pu_n (by omega)]
            exact (hfl.1 a (by omega)).2.1
          · rw [pu_n eb, pu_n (by omega)]
            exact hfl.2.1 a b hab (by omega)
        · by_cases ew : w = v
          · exact ⟨k, by omega, by rw [pu_s, ew]⟩
          · obtain ⟨q, hq, eq⟩ := hfl.2.2 w (by omega) hf2
            exact ⟨q, by omega, by rw [pu_n (by omega)]; exact eq⟩
      · refine go rfl ⟨_, _, rfl, fun e2 => ?_, fun e2 => ?_⟩
        · exact next (fun hf => hy ((fit_al hvl hr hin).mpr hf)) _
        · exact absurd rfl e2
  refine go rfl ⟨_, rfl, ?_⟩
  refine go rfl ?_
  refine go rfl ⟨_, _, _, _, rfl, rfl, (Nat.le_of_ble_eq_true rfl), ?_⟩
  rw [mx_pp]
  refine go rfl ?_
  refine go rfl ⟨_, _, rfl, ?_⟩
  exact loop n 0 0 (fun i => i) ft hp none (by omega) (by omega) ⟨fun q hq => absurd hq (Nat.not_lt_zero q), fun a b _ hb => absurd hb (Nat.not_lt_zero b), fun w hw2 => absurd hw2 (Nat.not_lt_zero w)⟩
-- LadderWords$Gatherings.keep(I)V
def sp_G_keep : mx_Sp := fun As F P => ∃ (fc : Int32) (kc s : Nat) (tot wt : Int32) (cs ka : Nat → Int32), As = [mx_r 10, mx_i (nI s)] ∧ F 10 = some (e_G fc (nI kc) tot wt) ∧ F 13 = some (mx_ia 4 cs) ∧ F 14 = some (mx_ia 800 ka) ∧ kc ≤ 200 ∧ s ≤ 4 ∧ (kc < 200 → ∀ ka', kpd kc s cs ka ka' → P none (mx_put (mx_put F 14 (mx_ia 800 ka')) 10 (e_G fc (nI (kc + 1)) (tot + nI 1) wt))) ∧ (kc = 200 → P none (mx_put F 10 (e_G fc (nI kc) (tot + nI 1) wt)))
theorem d_G_keep_0 : decode c_G_keep 0 = .ok (.aload_n 0, 1) := by decide +kernel
theorem d_G_keep_1 : decode c_G_keep 1 = .ok (.dup, 1) := by decide +kernel
theorem d_G_keep_2 : decode c_G_keep 2 = .ok (.getfield 33, 3) := by decide +kernel
theorem d_G_keep_5 : decode c_G_keep 5 = .ok (.iconst 1, 1) := by decide +kernel
theorem d_G_keep_6 : decode c_G_keep 6 = .ok (.iadd, 1) := by decide +kernel
theorem d_G_keep_7 : decode c_G_keep 7 = .ok (.putfield 33, 3) := by decide +kernel
theorem d_G_keep_10 : decode c_G_keep 10 = .ok (.aload_n 0, 1) := by decide +kernel
theorem d_G_keep_11 : decode c_G_keep 11 = .ok (.getfield 29, 3) := by decide +kernel
theorem d_G_keep_14 : decode c_G_keep 14 = .ok (.sipush 200, 3) := by decide +kernel
theorem d_G_keep_17 : decode c_G_keep 17 = .ok (.if_icmp .lt 4, 3) := by decide +kernel
theorem d_G_keep_20 : decode c_G_keep 20 = .ok (.return_, 1) := by decide +kernel
theorem d_G_keep_21 : decode c_G_keep 21 = .ok (.iconst 0, 1) := by decide +kernel
theorem d_G_keep_22 : decode c_G_keep 22 = .ok (.istore_n 2, 1) := by decide +kernel
theorem d_G_keep_23 : decode c_G_keep 23 = .ok (.iload_n 2, 1) := by decide +kernel
theorem d_G_keep_24 : decode c_G_keep 24 = .ok (.iconst 4, 1) := by decide +kernel
theorem d_G_keep_25 : decode c_G_keep 25 = .ok (.if_icmp .ge 37, 3) := by decide +kernel
theorem d_G_keep_28 : decode c_G_keep 28 = .ok (.aload_n 0, 1) := by decide +kernel
theorem d_G_keep_29 : decode c_G_keep 29 = .ok (.getfield 22, 3) := by decide +kernel
theorem d_G_keep_32 : decode c_G_keep 32 = .ok (.aload_n 0, 1) := by decide +kernel
theorem d_G_keep_33 : decode c_G_keep 33 = .ok (.getfield 29, 3) := by decide +kernel
theorem d_G_keep_36 : decode c_G_keep 36 = .ok (.iconst 4, 1) := by decide +kernel
theorem d_G_keep_37 : decode c_G_keep 37 = .ok (.imul, 1) := by decide +kernel
theorem d_G_keep_38 : decode c_G_keep 38 = .ok (.iload_n 2, 1) := by decide +kernel
theorem d_G_keep_39 : decode c_G_keep 39 = .ok (.iadd, 1) := by decide +kernel
theorem d_G_keep_40 : decode c_G_keep 40 = .ok (.iload_n 2, 1) := by decide +kernel
theorem d_G_keep_41 : decode c_G_keep 41 = .ok (.iload_n 1, 1) := by decide +kernel
theorem d_G_keep_42 : decode c_G_keep 42 = .ok (.if_icmp .ge 12, 3) := by decide +kernel
theorem d_G_keep_45 : decode c_G_keep 45 = .ok (.aload_n 0, 1) := by decide +kernel
theorem d_G_keep_46 : decode c_G_keep 46 = .ok (.getfield 19, 3) := by decide +kernel
theorem d_G_keep_49 : decode c_G_keep 49 = .ok (.iload_n 2, 1) := by decide +kernel
theorem d_G_keep_50 : decode c_G_keep 50 = .ok (.iaload, 1) := by decide +kernel
theorem d_G_keep_51 : decode c_G_keep 51 = .ok (.goto 4, 3) := by decide +kernel
theorem d_G_keep_54 : decode c_G_keep 54 = .ok (.iconst (-1), 1) := by decide +kernel
theorem d_G_keep_55 : decode c_G_keep 55 = .ok (.iastore, 1) := by decide +kernel
theorem d_G_keep_56 : decode c_G_keep 56 = .ok (.iinc 2 1, 3) := by decide +kernel
theorem d_G_keep_59 : decode c_G_keep 59 = .ok (.goto (-36), 3) := by decide +kernel
theorem d_G_keep_62 : decode c_G_keep 62 = .ok (.aload_n 0, 1) := by decide +kernel
theorem d_G_keep_63 : decode c_G_keep 63 = .ok (.dup, 1) := by decide +kernel
theorem d_G_keep_64 : decode c_G_keep 64 = .ok (.getfield 29, 3) := by decide +kernel
theorem d_G_keep_67 : decode c_G_keep 67 = .ok (.iconst 1, 1) := by decide +kernel
theorem d_G_keep_68 : decode c_G_keep 68 = .ok (.iadd, 1) := by decide +kernel
theorem d_G_keep_69 : decode c_G_keep 69 = .ok (.putfield 29, 3) := by decide +kernel
theorem d_G_keep_72 : decode c_G_keep 72 = .ok (.return_, 1) := by decide +kernel
abbrev w_G_keep : List Cond := mx_ws y_G_keep c_G_keep 3 none
abbrev rm_G_keep : Room := { frames := 10, cells := 0, slots := 0, locals := 200 }
def t_G_keep  (P : Option mx_V → mx_F → Prop) : List (Nat × mx_O) := [
  (0, mx_aload 0 1),
  (1, mx_dup 2),
  (2, mx_get 0 7 5),
  (5, mx_push (.inl (nI 1)) 6),
  (6, mx_iadd 7),
  (7, mx_puti 0 7 10),
  (10, mx_aload 0 11),
  (11, mx_get 0 6 14),
  (14, mx_push (.inl (nI 200)) 17),
  (17, mx_ic_lt 21 20),
  (20, mx_ret P),
  (21, mx_push (.inl (nI 0)) 22),
  (22, mx_istore 2 23),
  (23, mx_iload 2 24),
  (24, mx_push (.inl (nI 4)) 25),
  (25, mx_ic_ge 62 28),
  (28, mx_aload 0 29),
  (29, mx_get 0 5 32),
  (32, mx_aload 0 33),
  (33, mx_get 0 6 36),
  (36, mx_push (.inl (nI 4)) 37),
  (37, mx_imul 38),
  (38, mx_iload 2 39),
  (39, mx_iadd 40),
  (40, mx_iload 2 41),
  (41, mx_iload 1 42),
  (42, mx_ic_ge 54 45),
  (45, mx_aload 0 46),
  (46, mx_get 0 4 49),
  (49, mx_iload 2 50),
  (50, mx_iald 51),
  (51, mx_goto 55),
  (54, mx_push (.inl (-1)) 55),
  (55, mx_iast 56),
  (56, mx_iinc 2 (nI 1) 59),
  (59, mx_goto 23),
  (62, mx_aload 0 63),
  (63, mx_dup 64),
  (64, mx_get 0 6 67),
  (67, mx_push (.inl (nI 1)) 68),
  (68, mx_iadd 69),
  (69, mx_puti 0 6 72),
  (72, mx_ret P)]
set_option maxRecDepth 20000 in
theorem a_G_keep  {p : Program} {l : Launch} {e : Env} {s : State} {m : MethodId} {args : Array Value} {below : List Frame} {meth : Method} {c : Code} {D : va_G} {tc : Nat → ClassId} {tb : Nat → Nat} {sz : Nat} {a0 : Nat → Nat} {G : mx_F} {P : Option mx_V → mx_F → Prop}  (C : mx_C p s m args c c_G_keep y_G_keep.cls w_G_keep D tc tb (mx_A a0 G sz) 3 (mx_Ok0 a0 G)) (hr : meth.sig.returnType = none) (hlk : meth.locks = false) : mx_all (mx_W p l e rm_G_keep s m args below meth c (MQ below (mx_Q D tc tb a0 G sz P) args s 0 0 (mx_A a0 G sz)) D tc tb (mx_A a0 G sz) 3 (mx_Ok0 a0 G)) (t_G_keep  P) :=
  ⟨mx_s_aload_n C d_G_keep_0 rfl,
  mx_s_dup C d_G_keep_1,
  mx_s_get (T := T_G) (N := 9) (k := 7) C (fun w h => List.mem_cons_of_mem _ (in_G w h)) rfl (by decide) (List.mem_cons_of_mem _ fk_G_33) rfl d_G_keep_2,
  mx_s_iconst C d_G_keep_5 (by decide),
  mx_s_iadd C d_G_keep_6,
  mx_s_puti (T := T_G) (N := 9) (k := 7) C (fun w h => List.mem_cons_of_mem _ (in_G w h)) rfl ty_G ok_G nm_G (by decide) (List.mem_cons_of_mem _ fk_G_33) rfl rfl (ok_G 7 (by decide)) d_G_keep_7,
  mx_s_aload_n C d_G_keep_10 rfl,
  mx_s_get (T := T_G) (N := 9) (k := 6) C (fun w h => List.mem_cons_of_mem _ (in_G w h)) rfl (by decide) (List.mem_cons_of_mem _ fk_G_29) rfl d_G_keep_11,
  mx_s_sipush C d_G_keep_14 (by decide),
  mx_s_ic_lt C d_G_keep_17 (by decide),
  mx_s_ret C hr hlk d_G_keep_20,
  mx_s_iconst C d_G_keep_21 (by decide),
  mx_s_istore_n C d_G_keep_22 rfl (by decide),
  mx_s_iload_n C d_G_keep_23 rfl,
  mx_s_iconst C d_G_keep_24 (by decide),
  mx_s_ic_ge C d_G_keep_25 (by decide),
  mx_s_aload_n C d_G_keep_28 rfl,
  mx_s_get (T := T_G) (N := 9) (k := 5) C (fun w h => List.mem_cons_of_mem _ (in_G w h)) rfl (by decide) (List.mem_cons_of_mem _ fk_G_22) rfl d_G_keep_29,
  mx_s_aload_n C d_G_keep_32 rfl,
  mx_s_get (T := T_G) (N := 9) (k := 6) C (fun w h => List.mem_cons_of_mem _ (in_G w h)) rfl (by decide) (List.mem_cons_of_mem _ fk_G_29) rfl d_G_keep_33,
  mx_s_iconst C d_G_keep_36 (by decide),
  mx_s_imul C d_G_keep_37,
  mx_s_iload_n C d_G_keep_38 rfl,
  mx_s_iadd C d_G_keep_39,
  mx_s_iload_n C d_G_keep_40 rfl,
  mx_s_iload_n C d_G_keep_41 rfl,
  mx_s_ic_ge C d_G_keep_42 (by decide),
  mx_s_aload_n C d_G_keep_45 rfl,
  mx_s_get (T := T_G) (N := 9) (k := 4) C (fun w h => List.mem_cons_of_mem _ (in_G w h)) rfl (by decide) (List.mem_cons_of_mem _ fk_G_19) rfl d_G_keep_46,
  mx_s_iload_n C d_G_keep_49 rfl,
  mx_s_iald C d_G_keep_50,
  mx_s_goto C d_G_keep_51 (by decide),
  mx_s_iconst C d_G_keep_54 (by decide),
  mx_s_iast C d_G_keep_55,
  mx_s_iinc C d_G_keep_56 (by decide) (by decide),
  mx_s_goto C d_G_keep_59 (by decide),
  mx_s_aload_n C d_G_keep_62 rfl,
  mx_s_dup C d_G_keep_63,
  mx_s_get (T := T_G) (N := 9) (k := 6) C (fun w h => List.mem_cons_of_mem _ (in_G w h)) rfl (by decide) (List.mem_cons_of_mem _ fk_G_29) rfl d_G_keep_64,
  mx_s_iconst C d_G_keep_67 (by decide),
  mx_s_iadd C d_G_keep_68,
  mx_s_puti (T := T_G) (N := 9) (k := 6) C (fun w h => List.mem_cons_of_mem _ (in_G w h)) rfl ty_G ok_G nm_G (by decide) (List.mem_cons_of_mem _ fk_G_29) rfl rfl (ok_G 6 (by decide)) d_G_keep_69,
  mx_s_ret C hr hlk d_G_keep_72,
  trivial⟩
set_option maxRecDepth 20000 in
set_option maxHeartbeats 2000000 in
theorem m_G_keep (l : Launch) : mx_M l y_G_keep w_G_keep rm_G_keep sp_G_keep := by
  intro zD ztc ztb zad As F P sz0 h
  obtain ⟨fc, kc, s, tot, wt, cs, ka, rfl, h10, h13, h14, hk, hs, ho, hz⟩ := h
  refine mx_run (cc := c_G_keep) (maxL := 3) (ret := none) (tab := t_G_keep  P) (by decide) rfl zD ztc ztb zad _ F P sz0 (Nat.le_of_ble_eq_true rfl) (fun p e s m args below meth c C hr hlk => a_G_keep  C hr hlk) ?_
  intro Rr go
  have hF := mx_as3 h13 h14 h10
  have hX : (mx_put (mx_put F 13 (mx_ia 4 cs)) 14 (mx_ia 800 ka)) = F := by rw [mx_self h13, mx_self h14]
  have hX3 : (mx_put F 13 (mx_ia 4 cs)) = F := mx_self h13
  rw [hF]
  refine go rfl ⟨_, rfl, ?_⟩
  refine go rfl ⟨_, _, rfl, rfl, ?_⟩
  refine go rfl ⟨_, _, _, _, rfl, rfl, rfl, ?_⟩
  refine go rfl ?_
  refine go rfl ⟨_, _, _, rfl, ?_⟩
  refine go rfl ⟨_, _, _, _, rfl, rfl, (Nat.le_of_ble_eq_true rfl), ?_⟩
  rw [mx_pp]
  refine go rfl ⟨_, rfl, ?_⟩
  refine go rfl ⟨_, _, _, _, rfl, rfl, rfl, ?_⟩
  refine go rfl ?_
  rcases (show kc < 200 ∨ kc = 200 by omega) with h | h
  rotate_left
  · refine go rfl ⟨_, _, _, rfl, fun c => ?_, fun c => ?_⟩
    · exact absurd ((nI_ltI (by omega) (by omega)).mp c) (by omega)
    refine go rfl ⟨rfl, rfl, rfl, ?_⟩
    rw [hX]
    exact hz h
  refine go rfl ⟨_, _, _, rfl, fun c => ?_, fun c => ?_⟩
  rotate_left
  · exact absurd (nI_lt h (by omega)) c
  have loop : ∀ (m i : Nat) (ka' : Nat → Int32), i + m = 4 → (∀ q, q < 4 * kc → ka' q = ka q) → (∀ q, q < i → ka' (4 * kc + q) = if q < s then cs q else -1) → Rr 23 [some (mx_r 10), some (mx_i (nI s)), some (mx_i (nI i))] [] (mx_put (mx_put (mx_put F 13 (mx_ia 4 cs)) 14 (mx_ia 800 ka')) 10 (e_G fc (nI kc) (tot + nI 1) wt)) 0 0 := by
    intro m
    induction m with
    | zero =>
      intro i ka' hi hlo hq
      refine go rfl ⟨_, rfl, ?_⟩
      refine go rfl ?_
      refine go rfl ⟨_, _, _, rfl, fun c => ?_, fun c => ?_⟩
      · refine go rfl ⟨_, rfl, ?_⟩
        refine go rfl ⟨_, _, rfl, rfl, ?_⟩
        refine go rfl ⟨_, _, _, _, rfl, rfl, rfl, ?_⟩
        refine go rfl ?_
        refine go rfl ⟨_, _, _, rfl, ?_⟩
        rw [nI_add]
        refine go rfl ⟨_, _, _, _, rfl, rfl, (Nat.le_of_ble_eq_true rfl), ?_⟩
        refine go rfl ⟨rfl, rfl, rfl, ?_⟩
        rw [mx_pp, hX3]
        exact ho h ka' ⟨hlo, fun q hq2 => hq q (by omega)⟩
      · exact absurd (nI_le (by omega) (by omega)) c
    | succ m ih =>
      intro i ka' hi hlo hq
      have sto : ∀ y : Int32, (y = if i < s then cs i else -1) → Rr 55 [some (mx_r 10), some (mx_i (nI s)), some (mx_i (nI i))] [mx_i y, mx_i (nI (kc * 4 + i)), mx_r 14] (mx_put (mx_put (mx_put F 13 (mx_ia 4 cs)) 14 (mx_ia 800 ka')) 10 (e_G fc (nI kc) (tot + nI 1) wt)) 0 0 := by
        intro y hy
        refine go rfl ⟨_, _, _, _, _, _, rfl, rfl, (vp_in_nI (show kc * 4 + i < 800 by omega) (by omega)), ?_⟩
        rw [nI_clamp (by omega), mx_pc _ _ _ (show (14 : Nat) ≠ 10 by decide), mx_pp]
        refine go rfl ⟨_, rfl, ?_⟩
        refine go rfl ?_
        rw [nI_add]
        refine ih (i + 1) _ (by omega) (fun q hq2 => ?_) (fun q hq2 => ?_)
        · rw [pk_un (by omega)]
          exact hlo q hq2
        · by_cases e : q = i
          · rw [e, show kc * 4 + i = 4 * kc + i by omega, pk_us]
            exact hy
          · rw [pk_un (by omega)]
            exact hq q (by omega)
      refine go rfl ⟨_, rfl, ?_⟩
      refine go rfl ?_
      refine go rfl ⟨_, _, _, rfl, fun c => ?_, fun c => ?_⟩
      · exact absurd ((nI_leI (by omega) (by omega)).mp c) (by omega)
      refine go rfl ⟨_, rfl, ?_⟩
      refine go rfl ⟨_, _, _, _, rfl, rfl, rfl, ?_⟩
      refine go rfl ⟨_, rfl, ?_⟩
      refine go rfl ⟨_, _, _, _, rfl, rfl, rfl, ?_⟩
      refine go rfl ?_
      refine go rfl ⟨_, _, _, rfl, ?_⟩
      rw [pk_mul]
      refine go rfl ⟨_, rfl, ?_⟩
      refine go rfl ⟨_, _, _, rfl, ?_⟩
      rw [nI_add]
      refine go rfl ⟨_, rfl, ?_⟩
      refine go rfl ⟨_, rfl, ?_⟩
      refine go rfl ⟨_, _, _, rfl, fun c2 => ?_, fun c2 => ?_⟩
      · have c2 := (nI_leI (by omega) (by omega)).mp c2
        refine go rfl ?_
        exact sto _ (by rw [if_neg (by omega)])
      · have c2 : i < s := by
          rcases Nat.lt_or_ge i s with q | q
          · exact q
          · exact absurd (nI_le q (by omega)) c2
        refine go rfl ⟨_, rfl, ?_⟩
        refine go rfl ⟨_, _, _, _, rfl, rfl, rfl, ?_⟩
        refine go rfl ⟨_, rfl, ?_⟩
        refine go rfl ⟨_, _, _, _, _, rfl, rfl, (vp_in_nI (show i < 4 by omega) (by omega)), ?_⟩
        rw [nI_clamp (by omega)]
        refine go rfl ?_
        exact sto _ (by rw [if_pos c2])
  refine go rfl ?_
  refine go rfl ⟨_, _, rfl, ?_⟩
  exact loop 4 0 ka (by omega) (fun _ _ => rfl) (fun q hq => absurd hq (Nat.not_lt_zero q))
theorem pre_s {pre : List Nat} {d w : Nat} {cs : Nat → Int32} (hl : pre.length = d) (h : ∀ i, i < d → cs i = nI (pre.getD i 0)) : ∀ i, i < d + 1 → upd cs d (nI w) i = nI ((pre ++ [w]).getD i 0) := by
  intro i hi
  rw [List.getD_eq_getElem?_getD]
  by_cases e : i = d
  · rw [e, pk_us, ← hl, List.getElem?_append_right (Nat.le_refl _), Nat.sub_self]
    rfl
  · rw [pk_un e, List.getElem?_append_left (by omega), ← List.getD_eq_getElem?_getD]
    exact h i (by omega)
theorem map_pre {pre : List Nat} {w : Nat} {T : List (List Nat)} : (T.map (List.cons w)).map (pre ++ ·) = T.map (pre ++ [w] ++ ·) := by
  rw [List.map_map]
  apply List.map_congr_left
  intro a _
  show pre ++ w :: a = pre ++ [w] ++ a
  rw [List.append_assoc]
  rfl
-- LadderWords$Gatherings.choose(IIIJ)V
def sp_G_choose4 : mx_Sp := fun As F P => ∃ (fc kc : Nat) (tot wt : Int32) (ft cs ka : Nat → Int32) (hp : Nat → Int64) (n : Nat) (N : Nat → Nat) (ch : Nat → Nat → Int32) (rl : Nat → Int32) (rn : Nat) (l0 l : Nat → Nat) (fl : Nat → Nat) (pre : List Nat) (L : List (List Nat)) (mo f : Nat), As = [mx_r 10, mx_i (nI 4), mx_i (nI mo), mx_i (nI f), mx_l (lN (enc (al rl rn l) 12))] ∧ F 10 = some (e_G (nI fc) (nI kc) tot wt) ∧ F 11 = some (mx_ia 60 ft) ∧ F 12 = some (mx_la 60 hp) ∧ F 13 = some (mx_ia 4 cs) ∧ F 14 = some (mx_ia 800 ka) ∧ fc ≤ 60 ∧ wch n N ch ∧ rn ≤ 12 ∧ (∀ i, i < rn → vl (rl i)) ∧ spl rl rn l0 ∧ (∀ u, u < 26 → l0 u < 16) ∧ (∀ u, u < 26 → l u ≤ l0 u) ∧ fli n N ch rl rn l0 n fc fl ft hp ∧ ks L kc tot ka ∧ pre.length = 4 ∧ (∀ i, i < 4 → cs i = nI (pre.getD i 0)) ∧ mo ≤ 4 ∧ f ≤ fc ∧ ∀ (kc' : Nat) (tot' : Int32) cs' ka', ks (L ++ (ge N ch (mo - 4) (pos n fc fl f) (n - pos n fc fl f) l).map (pre ++ ·)) kc' tot' ka' → (∀ i, i < 4 → cs' i = cs i) → P none (mx_put (mx_put (mx_put F 13 (mx_ia 4 cs')) 14 (mx_ia 800 ka')) 10 (e_G (nI fc) (nI kc') tot' wt))
theorem d_G_choose_0 : decode c_G_choose 0 = .ok (.iload_n 1, 1) := by decide +kernel
theorem d_G_choose_1 : decode c_G_choose 1 = .ok (.iload_n 2, 1) := by decide +kernel
theorem d_G_choose_2 : decode c_G_choose 2 = .ok (.if_icmp .ge 8, 3) := by decide +kernel
theorem d_G_choose_10 : decode c_G_choose 10 = .ok (.return_, 1) := by decide +kernel
abbrev w_G_choose : List Cond := mx_ws y_G_choose c_G_choose 7 none
abbrev rm_G_choose4 : Room := { frames := 30, cells := 0, slots := 0, locals := 600 }
def t_G_choose4  (P : Option mx_V → mx_F → Prop) : List (Nat × mx_O) := [
  (0, mx_iload 1 1),
  (1, mx_iload 2 2),
  (2, mx_ic_ge 10 5),
  (10, mx_ret P)]
set_option maxRecDepth 20000 in
theorem a_G_choose4  {p : Program} {l : Launch} {e : Env} {s : State} {m : MethodId} {args : Array Value} {below : List Frame} {meth : Method} {c : Code} {D : va_G} {tc : Nat → ClassId} {tb : Nat → Nat} {sz : Nat} {a0 : Nat → Nat} {G : mx_F} {P : Option mx_V → mx_F → Prop}  (C : mx_C p s m args c c_G_choose y_G_choose.cls w_G_choose D tc tb (mx_A a0 G sz) 7 (mx_Ok0 a0 G)) (hr : meth.sig.returnType = none) (hlk : meth.locks = false) : mx_all (mx_W p l e rm_G_choose4 s m args below meth c (MQ below (mx_Q D tc tb a0 G sz P) args s 0 0 (mx_A a0 G sz)) D tc tb (mx_A a0 G sz) 7 (mx_Ok0 a0 G)) (t_G_choose4  P) :=
  ⟨mx_s_iload_n C d_G_choose_0 rfl,
  mx_s_iload_n C d_G_choose_1 rfl,
  mx_s_ic_ge C d_G_choose_2 (by decide),
  mx_s_ret C hr hlk d_G_choose_10,
  trivial⟩
set_option maxRecDepth 20000 in
set_option maxHeartbeats 2000000 in
theorem m_G_choose4 (l : Launch) : mx_M l y_G_choose w_G_choose rm_G_choose4 sp_G_choose4 := by
  intro zD ztc ztb zad As F P sz0 h
  obtain ⟨fc, kc, tot, wt, ft, cs, ka, hp, n, N, ch, rl, rn, l0, l, fl, pre, L, mo, f, rfl, h10, h11, h12, h13, h14, hfc, hwc, hrn, hvl, hsp, hl16, hll, hfl, hks, hpl, hpc, hmo, hf, hP⟩ := h
  refine mx_run (cc := c_G_choose) (maxL := 7) (ret := none) (tab := t_G_choose4  P) (by decide) rfl zD ztc ztb zad _ F P sz0 (Nat.le_of_ble_eq_true rfl) (fun p e s m args below meth c C hr hlk => a_G_choose4  C hr hlk) ?_
  intro Rr go
  have hF : F = (mx_put (mx_put (mx_put (mx_put (mx_put F 11 (mx_ia 60 ft)) 12 (mx_la 60 hp)) 13 (mx_ia 4 cs)) 14 (mx_ia 800 ka)) 10 (e_G (nI fc) (nI kc) tot wt)) := by rw [mx_self h11, mx_self h12, mx_self h13, mx_self h14, mx_self h10]
  have hY : (mx_put (mx_put F 11 (mx_ia 60 ft)) 12 (mx_la 60 hp)) = F := by rw [mx_self h11, mx_self h12]

  have done : mo ≤ 4 → Rr 10 (mx_en [mx_r 10, mx_i (nI 4), mx_i (nI mo), mx_i (nI f), mx_l (lN (enc (al rl rn l) 12))] 7) [] F 0 0 := by
    intro hle
    refine go rfl ⟨rfl, rfl, rfl, ?_⟩
    have h := hP kc tot cs ka (by rw [show mo - 4 = 0 by omega]; exact (by rw [show (ge N ch 0 (pos n fc fl f) (n - pos n fc fl f) l).map (pre ++ ·) = [] from rfl, List.append_nil]; exact hks)) (fun _ _ => rfl)
    rw [mx_self h13, mx_self h14, mx_self h10] at h
    exact h

  refine go rfl ⟨_, rfl, ?_⟩
  refine go rfl ⟨_, rfl, ?_⟩
  refine go rfl ⟨_, _, _, rfl, fun c => ?_, fun c => ?_⟩
  · exact done hmo
  · exact absurd (nI_le hmo (by omega)) c
-- LadderWords$Gatherings.take(IIIJ)V
def sp_G_take3 : mx_Sp := fun As F P => ∃ (fc kc : Nat) (tot wt : Int32) (ft cs ka : Nat → Int32) (hp : Nat → Int64) (n : Nat) (N : Nat → Nat) (ch : Nat → Nat → Int32) (rl : Nat → Int32) (rn : Nat) (l0 l : Nat → Nat) (fl : Nat → Nat) (pre : List Nat) (L : List (List Nat)) (mo f : Nat), As = [mx_r 10, mx_i (nI 3), mx_i (nI mo), mx_i (nI f), mx_l (lN (enc (al rl rn (subw N ch l (fl f))) 12))] ∧ F 10 = some (e_G (nI fc) (nI kc) tot wt) ∧ F 11 = some (mx_ia 60 ft) ∧ F 12 = some (mx_la 60 hp) ∧ F 13 = some (mx_ia 4 cs) ∧ F 14 = some (mx_ia 800 ka) ∧ fc ≤ 60 ∧ wch n N ch ∧ rn ≤ 12 ∧ (∀ i, i < rn → vl (rl i)) ∧ spl rl rn l0 ∧ (∀ u, u < 26 → l0 u < 16) ∧ (∀ u, u < 26 → l u ≤ l0 u) ∧ fli n N ch rl rn l0 n fc fl ft hp ∧ ks L kc tot ka ∧ pre.length = 3 ∧ (∀ i, i < 3 → cs i = nI (pre.getD i 0)) ∧ mo ≤ 4 ∧ f < fc ∧ 3 < mo ∧ ∀ (kc' : Nat) (tot' : Int32) cs' ka', ks (L ++ (cif (empl (subw N ch l (fl f))) [[fl f]] ((ge N ch (mo - 4) (fl f) (n - fl f) (subw N ch l (fl f))).map (List.cons (fl f)))).map (pre ++ ·)) kc' tot' ka' → (∀ i, i < 3 → cs' i = cs i) → P none (mx_put (mx_put (mx_put F 13 (mx_ia 4 cs')) 14 (mx_ia 800 ka')) 10 (e_G (nI fc) (nI kc') tot' wt))
theorem d_G_take_0 : decode c_G_take 0 = .ok (.aload_n 0, 1) := by decide +kernel
theorem d_G_take_1 : decode c_G_take 1 = .ok (.getfield 19, 3) := by decide +kernel
theorem d_G_take_4 : decode c_G_take 4 = .ok (.iload_n 1, 1) := by decide +kernel
theorem d_G_take_5 : decode c_G_take 5 = .ok (.aload_n 0, 1) := by decide +kernel
theorem d_G_take_6 : decode c_G_take 6 = .ok (.getfield 9, 3) := by decide +kernel
theorem d_G_take_9 : decode c_G_take 9 = .ok (.iload_n 3, 1) := by decide +kernel
theorem d_G_take_10 : decode c_G_take 10 = .ok (.iaload, 1) := by decide +kernel
theorem d_G_take_11 : decode c_G_take 11 = .ok (.iastore, 1) := by decide +kernel
theorem d_G_take_12 : decode c_G_take 12 = .ok (.lload 4, 2) := by decide +kernel
theorem d_G_take_14 : decode c_G_take 14 = .ok (.lconst 0, 1) := by decide +kernel
theorem d_G_take_15 : decode c_G_take 15 = .ok (.lcmp, 1) := by decide +kernel
theorem d_G_take_16 : decode c_G_take 16 = .ok (.ifCond .ne 13, 3) := by decide +kernel
theorem d_G_take_19 : decode c_G_take 19 = .ok (.aload_n 0, 1) := by decide +kernel
theorem d_G_take_20 : decode c_G_take 20 = .ok (.iload_n 1, 1) := by decide +kernel
theorem d_G_take_21 : decode c_G_take 21 = .ok (.iconst 1, 1) := by decide +kernel
theorem d_G_take_22 : decode c_G_take 22 = .ok (.iadd, 1) := by decide +kernel
theorem d_G_take_23 : decode c_G_take 23 = .ok (.invokevirtual 98, 3) := by decide +kernel
theorem d_G_take_26 : decode c_G_take 26 = .ok (.goto 14, 3) := by decide +kernel
theorem d_G_take_29 : decode c_G_take 29 = .ok (.aload_n 0, 1) := by decide +kernel
theorem d_G_take_30 : decode c_G_take 30 = .ok (.iload_n 1, 1) := by decide +kernel
theorem d_G_take_31 : decode c_G_take 31 = .ok (.iconst 1, 1) := by decide +kernel
theorem d_G_take_32 : decode c_G_take 32 = .ok (.iadd, 1) := by decide +kernel
theorem d_G_take_33 : decode c_G_take 33 = .ok (.iload_n 2, 1) := by decide +kernel
theorem d_G_take_34 : decode c_G_take 34 = .ok (.iload_n 3, 1) := by decide +kernel
theorem d_G_take_35 : decode c_G_take 35 = .ok (.lload 4, 2) := by decide +kernel
theorem d_G_take_37 : decode c_G_take 37 = .ok (.invokevirtual 53, 3) := by decide +kernel
theorem d_G_take_40 : decode c_G_take 40 = .ok (.return_, 1) := by decide +kernel
abbrev w_G_take : List Cond := mx_ws y_G_take c_G_take 6 none
abbrev rm_G_take3 : Room := { frames := 40, cells := 0, slots := 0, locals := 800 }
def t_G_take3  (P : Option mx_V → mx_F → Prop) : List (Nat × mx_O) := [
  (0, mx_aload 0 1),
  (1, mx_get 0 4 4),
  (4, mx_iload 1 5),
  (5, mx_aload 0 6),
  (6, mx_get 0 1 9),
  (9, mx_iload 3 10),
  (10, mx_iald 11),
  (11, mx_iast 12),
  (12, mx_lload 4 14),
  (14, mx_push (.inr (.inl 0)) 15),
  (15, mx_lcmp 16),
  (16, mx_if_ne 29 19),
  (19, mx_aload 0 20),
  (20, mx_iload 1 21),
  (21, mx_push (.inl (nI 1)) 22),
  (22, mx_iadd 23),
  (23, mx_cv1 0 sp_G_keep 0 0 26),
  (26, mx_goto 40),
  (29, mx_aload 0 30),
  (30, mx_iload 1 31),
  (31, mx_push (.inl (nI 1)) 32),
  (32, mx_iadd 33),
  (33, mx_iload 2 34),
  (34, mx_iload 3 35),
  (35, mx_lload 4 37),
  (37, mx_cv4 0 sp_G_choose4 0 0 40),
  (40, mx_ret P)]
set_option maxRecDepth 20000 in
theorem a_G_take3  {p : Program} {l : Launch} {e : Env} {s : State} {m : MethodId} {args : Array Value} {below : List Frame} {meth : Method} {c : Code} {D : va_G} {tc : Nat → ClassId} {tb : Nat → Nat} {sz : Nat} {a0 : Nat → Nat} {G : mx_F} {P : Option mx_V → mx_F → Prop}  (C : mx_C p s m args c c_G_take y_G_take.cls w_G_take D tc tb (mx_A a0 G sz) 6 (mx_Ok0 a0 G)) (hr : meth.sig.returnType = none) (hlk : meth.locks = false) : mx_all (mx_W p l e rm_G_take3 s m args below meth c (MQ below (mx_Q D tc tb a0 G sz P) args s 0 0 (mx_A a0 G sz)) D tc tb (mx_A a0 G sz) 6 (mx_Ok0 a0 G)) (t_G_take3  P) :=
  ⟨mx_s_aload_n C d_G_take_0 rfl,
  mx_s_get (T := T_G) (N := 9) (k := 4) C (fun w h => List.mem_cons_of_mem _ (in_G w h)) rfl (by decide) (List.mem_cons_of_mem _ fk_G_19) rfl d_G_take_1,
  mx_s_iload_n C d_G_take_4 rfl,
  mx_s_aload_n C d_G_take_5 rfl,
  mx_s_get (T := T_G) (N := 9) (k := 1) C (fun w h => List.mem_cons_of_mem _ (in_G w h)) rfl (by decide) (List.mem_cons_of_mem _ fk_G_9) rfl d_G_take_6,
  mx_s_iload_n C d_G_take_9 rfl,
  mx_s_iald C d_G_take_10,
  mx_s_iast C d_G_take_11,
  mx_s_lload C d_G_take_12,
  mx_s_lconst C d_G_take_14 (by decide),
  mx_s_lcmp C d_G_take_15,
  mx_s_if_ne C d_G_take_16 (by decide),
  mx_s_aload_n C d_G_take_19 rfl,
  mx_s_iload_n C d_G_take_20 rfl,
  mx_s_iconst C d_G_take_21 (by decide),
  mx_s_iadd C d_G_take_22,
  mx_s_cv1 C (m_G_keep l) rfl (cwV 1 C.2.2.2.2.1 (mx_gV (fun w h => List.mem_cons_of_mem _ h) mk_G_98 im_G_keep se_G_keep ic_G co_G_keep) rfl rfl rfl (by decide +kernel) ⟨by decide, by decide⟩) d_G_take_23 ⟨Nat.zero_le _, Nat.zero_le _⟩,
  mx_s_goto C d_G_take_26 (by decide),
  mx_s_aload_n C d_G_take_29 rfl,
  mx_s_iload_n C d_G_take_30 rfl,
  mx_s_iconst C d_G_take_31 (by decide),
  mx_s_iadd C d_G_take_32,
  mx_s_iload_n C d_G_take_33 rfl,
  mx_s_iload_n C d_G_take_34 rfl,
  mx_s_lload C d_G_take_35,
  mx_s_cv4 C (m_G_choose4 l) rfl (cwV 4 C.2.2.2.2.1 (mx_gV (fun w h => List.mem_cons_of_mem _ h) mk_G_53 im_G_choose se_G_choose ic_G co_G_choose) rfl rfl rfl (by decide +kernel) ⟨by decide, by decide⟩) d_G_take_37 ⟨Nat.zero_le _, Nat.zero_le _⟩,
  mx_s_ret C hr hlk d_G_take_40,
  trivial⟩
set_option maxRecDepth 20000 in
set_option maxHeartbeats 2000000 in
theorem m_G_take3 (l : Launch) : mx_M l y_G_take w_G_take rm_G_take3 sp_G_take3 := by
  intro zD ztc ztb zad As F P sz0 h
  obtain ⟨fc, kc, tot, wt, ft, cs, ka, hp, n, N, ch, rl, rn, l0, l, fl, pre, L, mo, f, rfl, h10, h11, h12, h13, h14, hfc, hwc, hrn, hvl, hsp, hl16, hll, hfl, hks, hpl, hpc, hmo, hf, hmd, hP⟩ := h
  refine mx_run (cc := c_G_take) (maxL := 6) (ret := none) (tab := t_G_take3  P) (by decide) rfl zD ztc ztb zad _ F P sz0 (Nat.le_of_ble_eq_true rfl) (fun p e s m args below meth c C hr hlk => a_G_take3  C hr hlk) ?_
  intro Rr go
  have hF : F = (mx_put (mx_put (mx_put (mx_put (mx_put F 11 (mx_ia 60 ft)) 12 (mx_la 60 hp)) 13 (mx_ia 4 cs)) 14 (mx_ia 800 ka)) 10 (e_G (nI fc) (nI kc) tot wt)) := by rw [mx_self h11, mx_self h12, mx_self h13, mx_self h14, mx_self h10]
  have hY : (mx_put (mx_put F 11 (mx_ia 60 ft)) 12 (mx_la 60 hp)) = F := by rw [mx_self h11, mx_self h12]

  rw [hF]
  have hkc := ks_le hks
  have hspl : spl rl rn l := fun u hu h => Nat.le_zero.mp (by rw [← hsp u hu h]; exact hll u hu)
  have hll2 : ∀ u, u < 26 → subw N ch l (fl f) u ≤ l0 u := fun u hu => Nat.le_trans (Nat.sub_le _ _) (hll u hu)
  have hsp2 : spl rl rn (subw N ch l (fl f)) := fun u hu h => Nat.le_zero.mp (by rw [← hsp u hu h]; exact hll2 u hu)
  have hpl2 : (pre ++ [fl f]).length = 4 := by rw [List.length_append, hpl]; rfl
  have hpc2 := pre_s (w := fl f) hpl hpc
  have h63 : enc (al rl rn (subw N ch l (fl f))) 12 < 2 ^ 63 := enc63 (fun j _ => Nat.lt_of_lt_of_le (al_lt (by decide) hvl (fun u hu => Nat.lt_of_le_of_lt (hll2 u hu) (hl16 u hu)) j) (show 16 ≤ 32 by decide))
  refine go rfl ⟨_, rfl, ?_⟩
  refine go rfl ⟨_, _, _, _, rfl, rfl, rfl, ?_⟩
  refine go rfl ⟨_, rfl, ?_⟩
  refine go rfl ⟨_, rfl, ?_⟩
  refine go rfl ⟨_, _, _, _, rfl, rfl, rfl, ?_⟩
  refine go rfl ⟨_, rfl, ?_⟩
  refine go rfl ⟨_, _, _, _, _, rfl, rfl, (vp_in_nI (show f < 60 by omega) (by omega)), ?_⟩
  rw [nI_clamp (show f < 2 ^ 31 by omega), (hfl.1 f hf).1]
  refine go rfl ⟨_, _, _, _, _, _, rfl, rfl, (vp_in_nI (show 3 < 4 by omega) (by omega)), ?_⟩
  rw [nI_clamp (show 3 < 2 ^ 31 by omega), mx_pc _ _ _ (show (13 : Nat) ≠ 10 by decide), mx_pc _ _ _ (show (13 : Nat) ≠ 14 by decide), mx_pp]
  refine go rfl ⟨_, rfl, ?_⟩
  refine go rfl ?_
  refine go rfl ⟨_, _, _, rfl, ?_⟩
  refine go rfl ⟨_, _, rfl, fun c => ?_, fun c => ?_⟩
  rotate_left
  · have hz : empl (subw N ch l (fl f)) := (al_emp hvl hrn hsp2).mp ((pk_lEQ h63 (show 0 < 2 ^ 63 by decide)).mp (lcmpE.mp c))
    rw [cif_y hz] at hP
    refine go rfl ⟨_, rfl, ?_⟩
    refine go rfl ⟨_, rfl, ?_⟩
    refine go rfl ?_
    refine go rfl ⟨_, _, _, rfl, ?_⟩
    rw [nI_add]
    refine go rfl ⟨_, _, _, _, rfl, rfl, rfl, rfl, rfl, ⟨_, kc, 3 + 1, _, _, _, _, rfl, rfl, rfl, rfl, hkc, by omega, fun hk2 ka' hkp => ?_, fun hk2 => ?_⟩⟩
    · rw [mx_pc _ _ _ (show (14 : Nat) ≠ 10 by decide), mx_pp, mx_pp]
      refine go rfl ?_
      refine go rfl ⟨rfl, rfl, rfl, ?_⟩
      rw [hY]
      refine hP (kc + 1) _ _ ka' ?_ (fun i hi => pk_un (by omega))
      exact ks_keep (g := pre ++ [fl f]) hks hk2 (fun i hi => hpc2 i (by rw [hpl2] at hi; exact hi)) (by rw [hpl2]; exact hkp)
    · rw [mx_pp]
      refine go rfl ?_
      refine go rfl ⟨rfl, rfl, rfl, ?_⟩
      rw [hY]
      subst hk2
      exact hP 200 _ _ ka (ks_full hks) (fun i hi => pk_un (by omega))
  have hz : ¬ empl (subw N ch l (fl f)) := fun q => c (lcmpE.mpr (by rw [(al_emp hvl hrn hsp2).mpr q]; rfl))
  rw [cif_n hz, map_pre] at hP
  refine go rfl ⟨_, rfl, ?_⟩
  refine go rfl ⟨_, rfl, ?_⟩
  refine go rfl ?_
  refine go rfl ⟨_, _, _, rfl, ?_⟩
  rw [nI_add]
  refine go rfl ⟨_, rfl, ?_⟩
  refine go rfl ⟨_, rfl, ?_⟩
  refine go rfl ⟨_, rfl, ?_⟩
  refine go rfl ⟨_, _, _, _, _, _, _, rfl, rfl, rfl, rfl, rfl, ⟨fc, kc, tot, wt, ft, _, ka, hp, n, N, ch, rl, rn, l0, subw N ch l (fl f), fl, pre ++ [fl f], L, mo, f, rfl, rfl, rfl, rfl, rfl, rfl, hfc, hwc, hrn, hvl, hsp, hl16, hll2, hfl, hks, hpl2, hpc2, hmo, by omega, fun kc2 tot2 cs2 ka2 q q2 => ?_⟩⟩
  rw [mx_pc _ _ _ (show (13 : Nat) ≠ 10 by decide), mx_pc _ _ _ (show (13 : Nat) ≠ 14 by decide), mx_pp, mx_pc _ _ _ (show (14 : Nat) ≠ 10 by decide), mx_pp, mx_pp]
  refine go rfl ⟨rfl, rfl, rfl, ?_⟩
  rw [hY]
  refine hP kc2 tot2 cs2 ka2 ?_ (fun i hi => ?_)
  · rw [pos_y hf] at q
    exact q
  · rw [q2 i (by omega), pk_un (by omega)]
-- LadderWords$Gatherings.choose(IIIJ)V
def sp_G_choose3 : mx_Sp := fun As F P => ∃ (fc kc : Nat) (tot wt : Int32) (ft cs ka : Nat → Int32) (hp : Nat → Int64) (n : Nat) (N : Nat → Nat) (ch : Nat → Nat → Int32) (rl : Nat → Int32) (rn : Nat) (l0 l : Nat → Nat) (fl : Nat → Nat) (pre : List Nat) (L : List (List Nat)) (mo f : Nat), As = [mx_r 10, mx_i (nI 3), mx_i (nI mo), mx_i (nI f), mx_l (lN (enc (al rl rn l) 12))] ∧ F 10 = some (e_G (nI fc) (nI kc) tot wt) ∧ F 11 = some (mx_ia 60 ft) ∧ F 12 = some (mx_la 60 hp) ∧ F 13 = some (mx_ia 4 cs) ∧ F 14 = some (mx_ia 800 ka) ∧ fc ≤ 60 ∧ wch n N ch ∧ rn ≤ 12 ∧ (∀ i, i < rn → vl (rl i)) ∧ spl rl rn l0 ∧ (∀ u, u < 26 → l0 u < 16) ∧ (∀ u, u < 26 → l u ≤ l0 u) ∧ fli n N ch rl rn l0 n fc fl ft hp ∧ ks L kc tot ka ∧ pre.length = 3 ∧ (∀ i, i < 3 → cs i = nI (pre.getD i 0)) ∧ mo ≤ 4 ∧ f ≤ fc ∧ ∀ (kc' : Nat) (tot' : Int32) cs' ka', ks (L ++ (ge N ch (mo - 3) (pos n fc fl f) (n - pos n fc fl f) l).map (pre ++ ·)) kc' tot' ka' → (∀ i, i < 3 → cs' i = cs i) → P none (mx_put (mx_put (mx_put F 13 (mx_ia 4 cs')) 14 (mx_ia 800 ka')) 10 (e_G (nI fc) (nI kc') tot' wt))
theorem d_G_choose_5 : decode c_G_choose 5 = .ok (.iload_n 1, 1) := by decide +kernel
theorem d_G_choose_6 : decode c_G_choose 6 = .ok (.iconst 4, 1) := by decide +kernel
theorem d_G_choose_7 : decode c_G_choose 7 = .ok (.if_icmp .lt 4, 3) := by decide +kernel
theorem d_G_choose_11 : decode c_G_choose 11 = .ok (.iload_n 3, 1) := by decide +kernel
theorem d_G_choose_12 : decode c_G_choose 12 = .ok (.istore 6, 2) := by decide +kernel
theorem d_G_choose_14 : decode c_G_choose 14 = .ok (.iload 6, 2) := by decide +kernel
theorem d_G_choose_16 : decode c_G_choose 16 = .ok (.aload_n 0, 1) := by decide +kernel
theorem d_G_choose_17 : decode c_G_choose 17 = .ok (.getfield 75, 3) := by decide +kernel
theorem d_G_choose_20 : decode c_G_choose 20 = .ok (.if_icmp .ge 42, 3) := by decide +kernel
theorem d_G_choose_23 : decode c_G_choose 23 = .ok (.aload_n 0, 1) := by decide +kernel
theorem d_G_choose_24 : decode c_G_choose 24 = .ok (.getfield 15, 3) := by decide +kernel
theorem d_G_choose_27 : decode c_G_choose 27 = .ok (.iload 6, 2) := by decide +kernel
theorem d_G_choose_29 : decode c_G_choose 29 = .ok (.laload, 1) := by decide +kernel
theorem d_G_choose_30 : decode c_G_choose 30 = .ok (.lload 4, 2) := by decide +kernel
theorem d_G_choose_32 : decode c_G_choose 32 = .ok (.invokestatic 84, 3) := by decide +kernel
theorem d_G_choose_35 : decode c_G_choose 35 = .ok (.ifCond .eq 21, 3) := by decide +kernel
theorem d_G_choose_38 : decode c_G_choose 38 = .ok (.aload_n 0, 1) := by decide +kernel
theorem d_G_choose_39 : decode c_G_choose 39 = .ok (.iload_n 1, 1) := by decide +kernel
theorem d_G_choose_40 : decode c_G_choose 40 = .ok (.iload_n 2, 1) := by decide +kernel
theorem d_G_choose_41 : decode c_G_choose 41 = .ok (.iload 6, 2) := by decide +kernel
theorem d_G_choose_43 : decode c_G_choose 43 = .ok (.lload 4, 2) := by decide +kernel
theorem d_G_choose_45 : decode c_G_choose 45 = .ok (.aload_n 0, 1) := by decide +kernel
theorem d_G_choose_46 : decode c_G_choose 46 = .ok (.getfield 15, 3) := by decide +kernel
theorem d_G_choose_49 : decode c_G_choose 49 = .ok (.iload 6, 2) := by decide +kernel
theorem d_G_choose_51 : decode c_G_choose 51 = .ok (.laload, 1) := by decide +kernel
theorem d_G_choose_52 : decode c_G_choose 52 = .ok (.lsub, 1) := by decide +kernel
theorem d_G_choose_53 : decode c_G_choose 53 = .ok (.invokevirtual 95, 3) := by decide +kernel
theorem d_G_choose_56 : decode c_G_choose 56 = .ok (.iinc 6 1, 3) := by decide +kernel
theorem d_G_choose_59 : decode c_G_choose 59 = .ok (.goto (-45), 3) := by decide +kernel
theorem d_G_choose_62 : decode c_G_choose 62 = .ok (.return_, 1) := by decide +kernel
abbrev rm_G_choose3 : Room := { frames := 50, cells := 0, slots := 0, locals := 1000 }
def t_G_choose3  (P : Option mx_V → mx_F → Prop) : List (Nat × mx_O) := [
  (0, mx_iload 1 1),
  (1, mx_iload 2 2),
  (2, mx_ic_ge 10 5),
  (5, mx_iload 1 6),
  (6, mx_push (.inl (nI 4)) 7),
  (7, mx_ic_lt 11 10),
  (10, mx_ret P),
  (11, mx_iload 3 12),
  (12, mx_istore 6 14),
  (14, mx_iload 6 16),
  (16, mx_aload 0 17),
  (17, mx_get 0 3 20),
  (20, mx_ic_ge 62 23),
  (23, mx_aload 0 24),
  (24, mx_get 0 2 27),
  (27, mx_iload 6 29),
  (29, mx_lald 30),
  (30, mx_lload 4 32),
  (32, mx_cs2 sp_G_isWithin 0 0 35),
  (35, mx_if_eq 56 38),
  (38, mx_aload 0 39),
  (39, mx_iload 1 40),
  (40, mx_iload 2 41),
  (41, mx_iload 6 43),
  (43, mx_lload 4 45),
  (45, mx_aload 0 46),
  (46, mx_get 0 2 49),
  (49, mx_iload 6 51),
  (51, mx_lald 52),
  (52, mx_lsub 53),
  (53, mx_cv4 0 sp_G_take3 0 0 56),
  (56, mx_iinc 6 (nI 1) 59),
  (59, mx_goto 14),
  (62, mx_ret P)]
set_option maxRecDepth 20000 in
theorem a_G_choose3  {p : Program} {l : Launch} {e : Env} {s : State} {m : MethodId} {args : Array Value} {below : List Frame} {meth : Method} {c : Code} {D : va_G} {tc : Nat → ClassId} {tb : Nat → Nat} {sz : Nat} {a0 : Nat → Nat} {G : mx_F} {P : Option mx_V → mx_F → Prop}  (C : mx_C p s m args c c_G_choose y_G_choose.cls w_G_choose D tc tb (mx_A a0 G sz) 7 (mx_Ok0 a0 G)) (hr : meth.sig.returnType = none) (hlk : meth.locks = false) : mx_all (mx_W p l e rm_G_choose3 s m args below meth c (MQ below (mx_Q D tc tb a0 G sz P) args s 0 0 (mx_A a0 G sz)) D tc tb (mx_A a0 G sz) 7 (mx_Ok0 a0 G)) (t_G_choose3  P) :=
  ⟨mx_s_iload_n C d_G_choose_0 rfl,
  mx_s_iload_n C d_G_choose_1 rfl,
  mx_s_ic_ge C d_G_choose_2 (by decide),
  mx_s_iload_n C d_G_choose_5 rfl,
  mx_s_iconst C d_G_choose_6 (by decide),
  mx_s_ic_lt C d_G_choose_7 (by decide),
  mx_s_ret C hr hlk d_G_choose_10,
  mx_s_iload_n C d_G_choose_11 rfl,
  mx_s_istore C d_G_choose_12 (by decide),
  mx_s_iload C d_G_choose_14,
  mx_s_aload_n C d_G_choose_16 rfl,
  mx_s_get (T := T_G) (N := 9) (k := 3) C (fun w h => List.mem_cons_of_mem _ (in_G w h)) rfl (by decide) (List.mem_cons_of_mem _ fk_G_75) rfl d_G_choose_17,
  mx_s_ic_ge C d_G_choose_20 (by decide),
  mx_s_aload_n C d_G_choose_23 rfl,
  mx_s_get (T := T_G) (N := 9) (k := 2) C (fun w h => List.mem_cons_of_mem _ (in_G w h)) rfl (by decide) (List.mem_cons_of_mem _ fk_G_15) rfl d_G_choose_24,
  mx_s_iload C d_G_choose_27,
  mx_s_lald C d_G_choose_29,
  mx_s_lload C d_G_choose_30,
  mx_s_cs2 C (m_G_isWithin l) (cwS 2 C.2.2.2.2.1 (mx_gS (fun w h => List.mem_cons_of_mem _ h) mk_G_84 sm_G_isWithin ic_G co_G_isWithin) rfl rfl rfl (by decide +kernel) ⟨by decide, by decide⟩) d_G_choose_32 ⟨Nat.zero_le _, Nat.zero_le _⟩,
  mx_s_if_eq C d_G_choose_35 (by decide),
  mx_s_aload_n C d_G_choose_38 rfl,
  mx_s_iload_n C d_G_choose_39 rfl,
  mx_s_iload_n C d_G_choose_40 rfl,
  mx_s_iload C d_G_choose_41,
  mx_s_lload C d_G_choose_43,
  mx_s_aload_n C d_G_choose_45 rfl,
  mx_s_get (T := T_G) (N := 9) (k := 2) C (fun w h => List.mem_cons_of_mem _ (in_G w h)) rfl (by decide) (List.mem_cons_of_mem _ fk_G_15) rfl d_G_choose_46,
  mx_s_iload C d_G_choose_49,
  mx_s_lald C d_G_choose_51,
  mx_s_lsub C d_G_choose_52,
  mx_s_cv4 C (m_G_take3 l) rfl (cwV 4 C.2.2.2.2.1 (mx_gV (fun w h => List.mem_cons_of_mem _ h) mk_G_95 im_G_take se_G_take ic_G co_G_take) rfl rfl rfl (by decide +kernel) ⟨by decide, by decide⟩) d_G_choose_53 ⟨Nat.zero_le _, Nat.zero_le _⟩,
  mx_s_iinc C d_G_choose_56 (by decide) (by decide),
  mx_s_goto C d_G_choose_59 (by decide),
  mx_s_ret C hr hlk d_G_choose_62,
  trivial⟩
set_option maxRecDepth 20000 in
set_option maxHeartbeats 2000000 in
theorem m_G_choose3 (l : Launch) : mx_M l y_G_choose w_G_choose rm_G_choose3 sp_G_choose3 := by
  intro zD ztc ztb zad As F P sz0 h
  obtain ⟨fc, kc, tot, wt, ft, cs, ka, hp, n, N, ch, rl, rn, l0, l, fl, pre, L, mo, f, rfl, h10, h11, h12, h13, h14, hfc, hwc, hrn, hvl, hsp, hl16, hll, hfl, hks, hpl, hpc, hmo, hf, hP⟩ := h
  refine mx_run (cc := c_G_choose) (maxL := 7) (ret := none) (tab := t_G_choose3  P) (by decide) rfl zD ztc ztb zad _ F P sz0 (Nat.le_of_ble_eq_true rfl) (fun p e s m args below meth c C hr hlk => a_G_choose3  C hr hlk) ?_
  intro Rr go
  have hF : F = (mx_put (mx_put (mx_put (mx_put (mx_put F 11 (mx_ia 60 ft)) 12 (mx_la 60 hp)) 13 (mx_ia 4 cs)) 14 (mx_ia 800 ka)) 10 (e_G (nI fc) (nI kc) tot wt)) := by rw [mx_self h11, mx_self h12, mx_self h13, mx_self h14, mx_self h10]
  have hY : (mx_put (mx_put F 11 (mx_ia 60 ft)) 12 (mx_la 60 hp)) = F := by rw [mx_self h11, mx_self h12]

  have done : mo ≤ 3 → Rr 10 (mx_en [mx_r 10, mx_i (nI 3), mx_i (nI mo), mx_i (nI f), mx_l (lN (enc (al rl rn l) 12))] 7) [] F 0 0 := by
    intro hle
    refine go rfl ⟨rfl, rfl, rfl, ?_⟩
    have h := hP kc tot cs ka (by rw [show mo - 3 = 0 by omega]; exact (by rw [show (ge N ch 0 (pos n fc fl f) (n - pos n fc fl f) l).map (pre ++ ·) = [] from rfl, List.append_nil]; exact hks)) (fun _ _ => rfl)
    rw [mx_self h13, mx_self h14, mx_self h10] at h
    exact h

  rcases Nat.lt_or_ge 3 mo with hd | hd
  rotate_left
  · refine go rfl ⟨_, rfl, ?_⟩
    refine go rfl ⟨_, rfl, ?_⟩
    refine go rfl ⟨_, _, _, rfl, fun c => ?_, fun c => ?_⟩
    · exact done hd
    · exact absurd (nI_le hd (by omega)) c
  refine go rfl ⟨_, rfl, ?_⟩
  refine go rfl ⟨_, rfl, ?_⟩
  refine go rfl ⟨_, _, _, rfl, fun c => ?_, fun c => ?_⟩
  · exact absurd ((nI_leI (by omega) (by omega)).mp c) (by omega)
  refine go rfl ⟨_, rfl, ?_⟩
  refine go rfl ?_
  refine go rfl ⟨_, _, _, rfl, fun c2 => ?_, fun c2 => ?_⟩
  rotate_left
  · exact absurd (nI_lt (show 3 < 4 by omega) (by omega)) c2
  rw [hF]
  have la16 : ∀ j, j < 12 → al rl rn l j < 16 := fun j _ => al_lt (by decide) hvl (fun u hu => Nat.lt_of_le_of_lt (hll u hu) (hl16 u hu)) j
  have hspl : spl rl rn l := fun u hu h => Nat.le_zero.mp (by rw [← hsp u hu h]; exact hll u hu)
  have loop : ∀ (m v kc' : Nat) (tot' : Int32) (cs' ka' : Nat → Int32) (L' : List (List Nat)), v + m = fc → ks L' kc' tot' ka' → (∀ i, i < 3 → cs' i = cs i) → L ++ (ge N ch (mo - 3) (pos n fc fl f) (n - pos n fc fl f) l).map (pre ++ ·) = L' ++ (ge N ch (mo - 3) (pos n fc fl v) (n - pos n fc fl v) l).map (pre ++ ·) → Rr 14 [some (mx_r 10), some (mx_i (nI 3)), some (mx_i (nI mo)), some (mx_i (nI f)), some (mx_l (lN (enc (al rl rn l) 12))), none, some (mx_i (nI v))] [] (mx_put (mx_put (mx_put (mx_put (mx_put F 11 (mx_ia 60 ft)) 12 (mx_la 60 hp)) 13 (mx_ia 4 cs')) 14 (mx_ia 800 ka')) 10 (e_G (nI fc) (nI kc') tot' wt)) 0 0 := by
    intro m
    induction m with
    | zero =>
      intro v kc' tot' cs' ka' L' hm hk' hc' hL
      refine go rfl ⟨_, rfl, ?_⟩
      refine go rfl ⟨_, rfl, ?_⟩
      refine go rfl ⟨_, _, _, _, rfl, rfl, rfl, ?_⟩
      refine go rfl ⟨_, _, _, rfl, fun e => ?_, fun e => ?_⟩
      · refine go rfl ⟨rfl, rfl, rfl, ?_⟩
        rw [hY]
        refine hP kc' tot' cs' ka' ?_ hc'
        rw [hL, pos_n (show ¬ v < fc by omega), Nat.sub_self, ge_0]
        show ks (L' ++ []) _ _ _
        rw [List.append_nil]
        exact hk'
      · exact absurd (nI_le (by omega) (by omega)) e
    | succ m ih =>
      intro v kc' tot' cs' ka' L' hm hk' hc' hL
      have hvf : v < fc := by omega
      obtain ⟨b1, b2, b3, b4, b5⟩ := hfl.1 v hvf
      have hNw := hwc.2.1 (fl v) b2
      have hw16 : ∀ j, j < 12 → al rl rn (fun u => wc (ch (fl v)) u (N (fl v))) j < 16 := fun j _ => al_lt (by decide) hvl (fun u hu => by have := wc_le (ch (fl v)) u (N (fl v)); omega) j
      have hL := hL.trans (show _ = L' ++ (ge N ch (mo - 4 + 1) (fl v) (n - (fl v + 1) + 1) l).map (pre ++ ·) by rw [pos_y hvf, show n - (fl v + 1) + 1 = n - fl v by omega, show mo - 4 + 1 = mo - 3 by omega])
      refine go rfl ⟨_, rfl, ?_⟩
      refine go rfl ⟨_, rfl, ?_⟩
      refine go rfl ⟨_, _, _, _, rfl, rfl, rfl, ?_⟩
      refine go rfl ⟨_, _, _, rfl, fun e => ?_, fun e => ?_⟩
      · exact absurd ((nI_leI (by omega) (by omega)).mp e) (by omega)
      refine go rfl ⟨_, rfl, ?_⟩
      refine go rfl ⟨_, _, _, _, rfl, rfl, rfl, ?_⟩
      refine go rfl ⟨_, rfl, ?_⟩
      refine go rfl ⟨_, _, _, _, _, rfl, rfl, (vp_in_nI (show v < 60 by omega) (by omega)), ?_⟩
      rw [nI_clamp (by omega), b5]
      refine go rfl ⟨_, rfl, ?_⟩
      refine go rfl ⟨_, _, _, rfl, rfl, rfl, rfl, ⟨_, _, rfl, la16, hw16, fun hy => ?_, fun hy => ?_⟩⟩
      · have hft := (fit_al hvl hrn b4).mp hy
        have esub : lN (enc (al rl rn l) 12) - lN (enc (al rl rn (fun u => wc (ch (fl v)) u (N (fl v)))) 12) = lN (enc (al rl rn (subw N ch l (fl v))) 12) := by
          have e1 := enc_sub (k := 12) hy
          rw [lN_sub (by omega)]
          congr 1
          rw [enc_c (a := al rl rn (subw N ch l (fl v))) (b := fun j => al rl rn l j - al rl rn (fun u => wc (ch (fl v)) u (N (fl v))) j) (fun j _ => al_sub j)]
          omega
        rw [ge_t hft, List.map_append, ← List.append_assoc] at hL
        refine go rfl ⟨_, _, rfl, fun e2 => ?_, fun e2 => ?_⟩
        · exact absurd e2 (by decide)
        refine go rfl ⟨_, rfl, ?_⟩
        refine go rfl ⟨_, rfl, ?_⟩
        refine go rfl ⟨_, rfl, ?_⟩
        refine go rfl ⟨_, rfl, ?_⟩
        refine go rfl ⟨_, rfl, ?_⟩
        refine go rfl ⟨_, rfl, ?_⟩
        refine go rfl ⟨_, _, _, _, rfl, rfl, rfl, ?_⟩
        refine go rfl ⟨_, rfl, ?_⟩
        refine go rfl ⟨_, _, _, _, _, rfl, rfl, (vp_in_nI (show v < 60 by omega) (by omega)), ?_⟩
        rw [nI_clamp (by omega), b5]
        refine go rfl ⟨_, _, _, rfl, ?_⟩
        rw [esub]
        refine go rfl ⟨_, _, _, _, _, _, _, rfl, rfl, rfl, rfl, rfl, ⟨fc, kc', tot', wt, ft, cs', ka', hp, n, N, ch, rl, rn, l0, l, fl, pre, L', mo, v, rfl, rfl, rfl, rfl, rfl, rfl, hfc, hwc, hrn, hvl, hsp, hl16, hll, hfl, hk', hpl, fun i hi => (hc' i hi).trans (hpc i hi), hmo, hvf, hd, fun kc2 tot2 cs2 ka2 q q2 => ?_⟩⟩
        rw [mx_pc _ _ _ (show (13 : Nat) ≠ 10 by decide), mx_pc _ _ _ (show (13 : Nat) ≠ 14 by decide), mx_pp, mx_pc _ _ _ (show (14 : Nat) ≠ 10 by decide), mx_pp, mx_pp]
        refine go rfl ⟨_, rfl, ?_⟩
        refine go rfl ?_
        rw [nI_add]
        refine ih (v + 1) kc2 tot2 cs2 ka2 _ (by omega) q (fun i hi => (q2 i hi).trans (hc' i hi)) ?_
        rw [hL, show n - (fl v + 1) + 1 = n - fl v by omega, show mo - 4 + 1 = mo - 3 by omega, pos_skip hfl hll hvf]
      · have hft : ¬ fitw N ch l (fl v) := fun h => hy ((fit_al hvl hrn b4).mpr h)
        refine go rfl ⟨_, _, rfl, fun e2 => ?_, fun e2 => ?_⟩
        · refine go rfl ⟨_, rfl, ?_⟩
          refine go rfl ?_
          rw [nI_add]
          refine ih (v + 1) kc' tot' cs' ka' L' (by omega) hk' hc' ?_
          rw [hL, ge_n hft, show mo - 4 + 1 = mo - 3 by omega, pos_skip hfl hll hvf]
        · exact absurd rfl e2
  refine go rfl ⟨_, rfl, ?_⟩
  refine go rfl ⟨_, _, rfl, ?_⟩
  exact loop (fc - f) f kc tot cs ka L (by omega) hks (fun _ _ => rfl) rfl
-- LadderWords$Gatherings.take(IIIJ)V
def sp_G_take2 : mx_Sp := fun As F P => ∃ (fc kc : Nat) (tot wt : Int32) (ft cs ka : Nat → Int32) (hp : Nat → Int64) (n : Nat) (N : Nat → Nat) (ch : Nat → Nat → Int32) (rl : Nat → Int32) (rn : Nat) (l0 l : Nat → Nat) (fl : Nat → Nat) (pre : List Nat) (L : List (List Nat)) (mo f : Nat), As = [mx_r 10, mx_i (nI 2), mx_i (nI mo), mx_i (nI f), mx_l (lN (enc (al rl rn (subw N ch l (fl f))) 12))] ∧ F 10 = some (e_G (nI fc) (nI kc) tot wt) ∧ F 11 = some (mx_ia 60 ft) ∧ F 12 = some (mx_la 60 hp) ∧ F 13 = some (mx_ia 4 cs) ∧ F 14 = some (mx_ia 800 ka) ∧ fc ≤ 60 ∧ wch n N ch ∧ rn ≤ 12 ∧ (∀ i, i < rn → vl (rl i)) ∧ spl rl rn l0 ∧ (∀ u, u < 26 → l0 u < 16) ∧ (∀ u, u < 26 → l u ≤ l0 u) ∧ fli n N ch rl rn l0 n fc fl ft hp ∧ ks L kc tot ka ∧ pre.length = 2 ∧ (∀ i, i < 2 → cs i = nI (pre.getD i 0)) ∧ mo ≤ 4 ∧ f < fc ∧ 2 < mo ∧ ∀ (kc' : Nat) (tot' : Int32) cs' ka', ks (L ++ (cif (empl (subw N ch l (fl f))) [[fl f]] ((ge N ch (mo - 3) (fl f) (n - fl f) (subw N ch l (fl f))).map (List.cons (fl f)))).map (pre ++ ·)) kc' tot' ka' → (∀ i, i < 2 → cs' i = cs i) → P none (mx_put (mx_put (mx_put F 13 (mx_ia 4 cs')) 14 (mx_ia 800 ka')) 10 (e_G (nI fc) (nI kc') tot' wt))
abbrev rm_G_take2 : Room := { frames := 60, cells := 0, slots := 0, locals := 1200 }
def t_G_take2  (P : Option mx_V → mx_F → Prop) : List (Nat × mx_O) := [
  (0, mx_aload 0 1),
  (1, mx_get 0 4 4),
  (4, mx_iload 1 5),
  (5, mx_aload 0 6),
  (6, mx_get 0 1 9),
  (9, mx_iload 3 10),
  (10, mx_iald 11),
  (11, mx_iast 12),
  (12, mx_lload 4 14),
  (14, mx_push (.inr (.inl 0)) 15),
  (15, mx_lcmp 16),
  (16, mx_if_ne 29 19),
  (19, mx_aload 0 20),
  (20, mx_iload 1 21),
  (21, mx_push (.inl (nI 1)) 22),
  (22, mx_iadd 23),
  (23, mx_cv1 0 sp_G_keep 0 0 26),
  (26, mx_goto 40),
  (29, mx_aload 0 30),
  (30, mx_iload 1 31),
  (31, mx_push (.inl (nI 1)) 32),
  (32, mx_iadd 33),
  (33, mx_iload 2 34),
  (34, mx_iload 3 35),
  (35, mx_lload 4 37),
  (37, mx_cv4 0 sp_G_choose3 0 0 40),
  (40, mx_ret P)]
set_option maxRecDepth 20000 in
theorem a_G_take2  {p : Program} {l : Launch} {e : Env} {s : State} {m : MethodId} {args : Array Value} {below : List Frame} {meth : Method} {c : Code} {D : va_G} {tc : Nat → ClassId} {tb : Nat → Nat} {sz : Nat} {a0 : Nat → Nat} {G : mx_F} {P : Option mx_V → mx_F → Prop}  (C : mx_C p s m args c c_G_take y_G_take.cls w_G_take D tc tb (mx_A a0 G sz) 6 (mx_Ok0 a0 G)) (hr : meth.sig.returnType = none) (hlk : meth.locks = false) : mx_all (mx_W p l e rm_G_take2 s m args below meth c (MQ below (mx_Q D tc tb a0 G sz P) args s 0 0 (mx_A a0 G sz)) D tc tb (mx_A a0 G sz) 6 (mx_Ok0 a0 G)) (t_G_take2  P) :=
  ⟨mx_s_aload_n C d_G_take_0 rfl,
  mx_s_get (T := T_G) (N := 9) (k := 4) C (fun w h => List.mem_cons_of_mem _ (in_G w h)) rfl (by decide) (List.mem_cons_of_mem _ fk_G_19) rfl d_G_take_1,
  mx_s_iload_n C d_G_take_4 rfl,
  mx_s_aload_n C d_G_take_5 rfl,
  mx_s_get (T := T_G) (N := 9) (k := 1) C (fun w h => List.mem_cons_of_mem _ (in_G w h)) rfl (by decide) (List.mem_cons_of_mem _ fk_G_9) rfl d_G_take_6,
  mx_s_iload_n C d_G_take_9 rfl,
  mx_s_iald C d_G_take_10,
  mx_s_iast C d_G_take_11,
  mx_s_lload C d_G_take_12,
  mx_s_lconst C d_G_take_14 (by decide),
  mx_s_lcmp C d_G_take_15,
  mx_s_if_ne C d_G_take_16 (by decide),
  mx_s_aload_n C d_G_take_19 rfl,
  mx_s_iload_n C d_G_take_20 rfl,
  mx_s_iconst C d_G_take_21 (by decide),
  mx_s_iadd C d_G_take_22,
  mx_s_cv1 C (m_G_keep l) rfl (cwV 1 C.2.2.2.2.1 (mx_gV (fun w h => List.mem_cons_of_mem _ h) mk_G_98 im_G_keep se_G_keep ic_G co_G_keep) rfl rfl rfl (by decide +kernel) ⟨by decide, by decide⟩) d_G_take_23 ⟨Nat.zero_le _, Nat.zero_le _⟩,
  mx_s_goto C d_G_take_26 (by decide),
  mx_s_aload_n C d_G_take_29 rfl,
  mx_s_iload_n C d_G_take_30 rfl,
  mx_s_iconst C d_G_take_31 (by decide),
  mx_s_iadd C d_G_take_32,
  mx_s_iload_n C d_G_take_33 rfl,
  mx_s_iload_n C d_G_take_34 rfl,
  mx_s_lload C d_G_take_35,
  mx_s_cv4 C (m_G_choose3 l) rfl (cwV 4 C.2.2.2.2.1 (mx_gV (fun w h => List.mem_cons_of_mem _ h) mk_G_53 im_G_choose se_G_choose ic_G co_G_choose) rfl rfl rfl (by decide +kernel) ⟨by decide, by decide⟩) d_G_take_37 ⟨Nat.zero_le _, Nat.zero_le _⟩,
  mx_s_ret C hr hlk d_G_take_40,
  trivial⟩
set_option maxRecDepth 20000 in
set_option maxHeartbeats 2000000 in
theorem m_G_take2 (l : Launch) : mx_M l y_G_take w_G_take rm_G_take2 sp_G_take2 := by
  intro zD ztc ztb zad As F P sz0 h
  obtain ⟨fc, kc, tot, wt, ft, cs, ka, hp, n, N, ch, rl, rn, l0, l, fl, pre, L, mo, f, rfl, h10, h11, h12, h13, h14, hfc, hwc, hrn, hvl, hsp, hl16, hll, hfl, hks, hpl, hpc, hmo, hf, hmd, hP⟩ := h
  refine mx_run (cc := c_G_take) (maxL := 6) (ret := none) (tab := t_G_take2  P) (by decide) rfl zD ztc ztb zad _ F P sz0 (Nat.le_of_ble_eq_true rfl) (fun p e s m args below meth c C hr hlk => a_G_take2  C hr hlk) ?_
  intro Rr go
  have hF : F = (mx_put (mx_put (mx_put (mx_put (mx_put F 11 (mx_ia 60 ft)) 12 (mx_la 60 hp)) 13 (mx_ia 4 cs)) 14 (mx_ia 800 ka)) 10 (e_G (nI fc) (nI kc) tot wt)) := by rw [mx_self h11, mx_self h12, mx_self h13, mx_self h14, mx_self h10]
  have hY : (mx_put (mx_put F 11 (mx_ia 60 ft)) 12 (mx_la 60 hp)) = F := by rw [mx_self h11, mx_self h12]

  rw [hF]
  have hkc := ks_le hks
  have hspl : spl rl rn l := fun u hu h => Nat.le_zero.mp (by rw [← hsp u hu h]; exact hll u hu)
  have hll2 : ∀ u, u < 26 → subw N ch l (fl f) u ≤ l0 u := fun u hu => Nat.le_trans (Nat.sub_le _ _) (hll u hu)
  have hsp2 : spl rl rn (subw N ch l (fl f)) := fun u hu h => Nat.le_zero.mp (by rw [← hsp u hu h]; exact hll2 u hu)
  have hpl2 : (pre ++ [fl f]).length = 3 := by rw [List.length_append, hpl]; rfl
  have hpc2 := pre_s (w := fl f) hpl hpc
  have h63 : enc (al rl rn (subw N ch l (fl f))) 12 < 2 ^ 63 := enc63 (fun j _ => Nat.lt_of_lt_of_le (al_lt (by decide) hvl (fun u hu => Nat.lt_of_le_of_lt (hll2 u hu) (hl16 u hu)) j) (show 16 ≤ 32 by decide))
  refine go rfl ⟨_, rfl, ?_⟩
  refine go rfl ⟨_, _, _, _, rfl, rfl, rfl, ?_⟩
  refine go rfl ⟨_, rfl, ?_⟩
  refine go rfl ⟨_, rfl, ?_⟩
  refine go rfl ⟨_, _, _, _, rfl, rfl, rfl, ?_⟩
  refine go rfl ⟨_, rfl, ?_⟩
  refine go rfl ⟨_, _, _, _, _, rfl, rfl, (vp_in_nI (show f < 60 by omega) (by omega)), ?_⟩
  rw [nI_clamp (show f < 2 ^ 31 by omega), (hfl.1 f hf).1]
  refine go rfl ⟨_, _, _, _, _, _, rfl, rfl, (vp_in_nI (show 2 < 4 by omega) (by omega)), ?_⟩
  rw [nI_clamp (show 2 < 2 ^ 31 by omega), mx_pc _ _ _ (show (13 : Nat) ≠ 10 by decide), mx_pc _ _ _ (show (13 : Nat) ≠ 14 by decide), mx_pp]
  refine go rfl ⟨_, rfl, ?_⟩
  refine go rfl ?_
  refine go rfl ⟨_, _, _, rfl, ?_⟩
  refine go rfl ⟨_, _, rfl, fun c => ?_, fun c => ?_⟩
  rotate_left
  · have hz : empl (subw N ch l (fl f)) := (al_emp hvl hrn hsp2).mp ((pk_lEQ h63 (show 0 < 2 ^ 63 by decide)).mp (lcmpE.mp c))
    rw [cif_y hz] at hP
    refine go rfl ⟨_, rfl, ?_⟩
    refine go rfl ⟨_, rfl, ?_⟩
    refine go rfl ?_
    refine go rfl ⟨_, _, _, rfl, ?_⟩
    rw [nI_add]
    refine go rfl ⟨_, _, _, _, rfl, rfl, rfl, rfl, rfl, ⟨_, kc, 2 + 1, _, _, _, _, rfl, rfl, rfl, rfl, hkc, by omega, fun hk2 ka' hkp => ?_, fun hk2 => ?_⟩⟩
    · rw [mx_pc _ _ _ (show (14 : Nat) ≠ 10 by decide), mx_pp, mx_pp]
      refine go rfl ?_
      refine go rfl ⟨rfl, rfl, rfl, ?_⟩
      rw [hY]
      refine hP (kc + 1) _ _ ka' ?_ (fun i hi => pk_un (by omega))
      exact ks_keep (g := pre ++ [fl f]) hks hk2 (fun i hi => hpc2 i (by rw [hpl2] at hi; exact hi)) (by rw [hpl2]; exact hkp)
    · rw [mx_pp]
      refine go rfl ?_
      refine go rfl ⟨rfl, rfl, rfl, ?_⟩
      rw [hY]
      subst hk2
      exact hP 200 _ _ ka (ks_full hks) (fun i hi => pk_un (by omega))
  have hz : ¬ empl (subw N ch l (fl f)) := fun q => c (lcmpE.mpr (by rw [(al_emp hvl hrn hsp2).mpr q]; rfl))
  rw [cif_n hz, map_pre] at hP
  refine go rfl ⟨_, rfl, ?_⟩
  refine go rfl ⟨_, rfl, ?_⟩
  refine go rfl ?_
  refine go rfl ⟨_, _, _, rfl, ?_⟩
  rw [nI_add]
  refine go rfl ⟨_, rfl, ?_⟩
  refine go rfl ⟨_, rfl, ?_⟩
  refine go rfl ⟨_, rfl, ?_⟩
  refine go rfl ⟨_, _, _, _, _, _, _, rfl, rfl, rfl, rfl, rfl, ⟨fc, kc, tot, wt, ft, _, ka, hp, n, N, ch, rl, rn, l0, subw N ch l (fl f), fl, pre ++ [fl f], L, mo, f, rfl, rfl, rfl, rfl, rfl, rfl, hfc, hwc, hrn, hvl, hsp, hl16, hll2, hfl, hks, hpl2, hpc2, hmo, by omega, fun kc2 tot2 cs2 ka2 q q2 => ?_⟩⟩
  rw [mx_pc _ _ _ (show (13 : Nat) ≠ 10 by decide), mx_pc _ _ _ (show (13 : Nat) ≠ 14 by decide), mx_pp, mx_pc _ _ _ (show (14 : Nat) ≠ 10 by decide), mx_pp, mx_pp]
  refine go rfl ⟨rfl, rfl, rfl, ?_⟩
  rw [hY]
  refine hP kc2 tot2 cs2 ka2 ?_ (fun i hi => ?_)
  · rw [pos_y hf] at q
    exact q
  · rw [q2 i (by omega), pk_un (by omega)]
-- LadderWords$Gatherings.choose(IIIJ)V
def sp_G_choose2 : mx_Sp := fun As F P => ∃ (fc kc : Nat) (tot wt : Int32) (ft cs ka : Nat → Int32) (hp : Nat → Int64) (n : Nat) (N : Nat → Nat) (ch : Nat → Nat → Int32) (rl : Nat → Int32) (rn : Nat) (l0 l : Nat → Nat) (fl : Nat → Nat) (pre : List Nat) (L : List (List Nat)) (mo f : Nat), As = [mx_r 10, mx_i (nI 2), mx_i (nI mo), mx_i (nI f), mx_l (lN (enc (al rl rn l) 12))] ∧ F 10 = some (e_G (nI fc) (nI kc) tot wt) ∧ F 11 = some (mx_ia 60 ft) ∧ F 12 = some (mx_la 60 hp) ∧ F 13 = some (mx_ia 4 cs) ∧ F 14 = some (mx_ia 800 ka) ∧ fc ≤ 60 ∧ wch n N ch ∧ rn ≤ 12 ∧ (∀ i, i < rn → vl (rl i)) ∧ spl rl rn l0 ∧ (∀ u, u < 26 → l0 u < 16) ∧ (∀ u, u < 26 → l u ≤ l0 u) ∧ fli n N ch rl rn l0 n fc fl ft hp ∧ ks L kc tot ka ∧ pre.length = 2 ∧ (∀ i, i < 2 → cs i = nI (pre.getD i 0)) ∧ mo ≤ 4 ∧ f ≤ fc ∧ ∀ (kc' : Nat) (tot' : Int32) cs' ka', ks (L ++ (ge N ch (mo - 2) (pos n fc fl f) (n - pos n fc fl f) l).map (pre ++ ·)) kc' tot' ka' → (∀ i, i < 2 → cs' i = cs i) → P none (mx_put (mx_put (mx_put F 13 (mx_ia 4 cs')) 14 (mx_ia 800 ka')) 10 (e_G (nI fc) (nI kc') tot' wt))
abbrev rm_G_choose2 : Room := { frames := 70, cells := 0, slots := 0, locals := 1400 }
def t_G_choose2  (P : Option mx_V → mx_F → Prop) : List (Nat × mx_O) := [
  (0, mx_iload 1 1),
  (1, mx_iload 2 2),
  (2, mx_ic_ge 10 5),
  (5, mx_iload 1 6),
  (6, mx_push (.inl (nI 4)) 7),
  (7, mx_ic_lt 11 10),
  (10, mx_ret P),
  (11, mx_iload 3 12),
  (12, mx_istore 6 14),
  (14, mx_iload 6 16),
  (16, mx_aload 0 17),
  (17, mx_get 0 3 20),
  (20, mx_ic_ge 62 23),
  (23, mx_aload 0 24),
  (24, mx_get 0 2 27),
  (27, mx_iload 6 29),
  (29, mx_lald 30),
  (30, mx_lload 4 32),
  (32, mx_cs2 sp_G_isWithin 0 0 35),
  (35, mx_if_eq 56 38),
  (38, mx_aload 0 39),
  (39, mx_iload 1 40),
  (40, mx_iload 2 41),
  (41, mx_iload 6 43),
  (43, mx_lload 4 45),
  (45, mx_aload 0 46),
  (46, mx_get 0 2 49),
  (49, mx_iload 6 51),
  (51, mx_lald 52),
  (52, mx_lsub 53),
  (53, mx_cv4 0 sp_G_take2 0 0 56),
  (56, mx_iinc 6 (nI 1) 59),
  (59, mx_goto 14),
  (62, mx_ret P)]
set_option maxRecDepth 20000 in
theorem a_G_choose2  {p : Program} {l : Launch} {e : Env} {s : State} {m : MethodId} {args : Array Value} {below : List Frame} {meth : Method} {c : Code} {D : va_G} {tc : Nat → ClassId} {tb : Nat → Nat} {sz : Nat} {a0 : Nat → Nat} {G : mx_F} {P : Option mx_V → mx_F → Prop}  (C : mx_C p s m args c c_G_choose y_G_choose.cls w_G_choose D tc tb (mx_A a0 G sz) 7 (mx_Ok0 a0 G)) (hr : meth.sig.returnType = none) (hlk : meth.locks = false) : mx_all (mx_W p l e rm_G_choose2 s m args below meth c (MQ below (mx_Q D tc tb a0 G sz P) args s 0 0 (mx_A a0 G sz)) D tc tb (mx_A a0 G sz) 7 (mx_Ok0 a0 G)) (t_G_choose2  P) :=
  ⟨mx_s_iload_n C d_G_choose_0 rfl,
  mx_s_iload_n C d_G_choose_1 rfl,
  mx_s_ic_ge C d_G_choose_2 (by decide),
  mx_s_iload_n C d_G_choose_5 rfl,
  mx_s_iconst C d_G_choose_6 (by decide),
  mx_s_ic_lt C d_G_choose_7 (by decide),
  mx_s_ret C hr hlk d_G_choose_10,
  mx_s_iload_n C d_G_choose_11 rfl,
  mx_s_istore C d_G_choose_12 (by decide),
  mx_s_iload C d_G_choose_14,
  mx_s_aload_n C d_G_choose_16 rfl,
  mx_s_get (T := T_G) (N := 9) (k := 3) C (fun w h => List.mem_cons_of_mem _ (in_G w h)) rfl (by decide) (List.mem_cons_of_mem _ fk_G_75) rfl d_G_choose_17,
  mx_s_ic_ge C d_G_choose_20 (by decide),
  mx_s_aload_n C d_G_choose_23 rfl,
  mx_s_get (T := T_G) (N := 9) (k := 2) C (fun w h => List.mem_cons_of_mem _ (in_G w h)) rfl (by decide) (List.mem_cons_of_mem _ fk_G_15) rfl d_G_choose_24,
  mx_s_iload C d_G_choose_27,
  mx_s_lald C d_G_choose_29,
  mx_s_lload C d_G_choose_30,
  mx_s_cs2 C (m_G_isWithin l) (cwS 2 C.2.2.2.2.1 (mx_gS (fun w h => List.mem_cons_of_mem _ h) mk_G_84 sm_G_isWithin ic_G co_G_isWithin) rfl rfl rfl (by decide +kernel) ⟨by decide, by decide⟩) d_G_choose_32 ⟨Nat.zero_le _, Nat.zero_le _⟩,
  mx_s_if_eq C d_G_choose_35 (by decide),
  mx_s_aload_n C d_G_choose_38 rfl,
  mx_s_iload_n C d_G_choose_39 rfl,
  mx_s_iload_n C d_G_choose_40 rfl,
  mx_s_iload C d_G_choose_41,
  mx_s_lload C d_G_choose_43,
  mx_s_aload_n C d_G_choose_45 rfl,
  mx_s_get (T := T_G) (N := 9) (k := 2) C (fun w h => List.mem_cons_of_mem _ (in_G w h)) rfl (by decide) (List.mem_cons_of_mem _ fk_G_15) rfl d_G_choose_46,
  mx_s_iload C d_G_choose_49,
  mx_s_lald C d_G_choose_51,
  mx_s_lsub C d_G_choose_52,
  mx_s_cv4 C (m_G_take2 l) rfl (cwV 4 C.2.2.2.2.1 (mx_gV (fun w h => List.mem_cons_of_mem _ h) mk_G_95 im_G_take se_G_take ic_G co_G_take) rfl rfl rfl (by decide +kernel) ⟨by decide, by decide⟩) d_G_choose_53 ⟨Nat.zero_le _, Nat.zero_le _⟩,
  mx_s_iinc C d_G_choose_56 (by decide) (by decide),
  mx_s_goto C d_G_choose_59 (by decide),
  mx_s_ret C hr hlk d_G_choose_62,
  trivial⟩
set_option maxRecDepth 20000 in
set_option maxHeartbeats 2000000 in
theorem m_G_choose2 (l : Launch) : mx_M l y_G_choose w_G_choose rm_G_choose2 sp_G_choose2 := by
  intro zD ztc ztb zad As F P sz0 h
  obtain ⟨fc, kc, tot, wt, ft, cs, ka, hp, n, N, ch, rl, rn, l0, l, fl, pre, L, mo, f, rfl, h10, h11, h12, h13, h14, hfc, hwc, hrn, hvl, hsp, hl16, hll, hfl, hks, hpl, hpc, hmo, hf, hP⟩ := h
  refine mx_run (cc := c_G_choose) (maxL := 7) (ret := none) (tab := t_G_choose2  P) (by decide) rfl zD ztc ztb zad _ F P sz0 (Nat.le_of_ble_eq_true rfl) (fun p e s m args below meth c C hr hlk => a_G_choose2  C hr hlk) ?_
  intro Rr go
  have hF : F = (mx_put (mx_put (mx_put (mx_put (mx_put F 11 (mx_ia 60 ft)) 12 (mx_la 60 hp)) 13 (mx_ia 4 cs)) 14 (mx_ia 800 ka)) 10 (e_G (nI fc) (nI kc) tot wt)) := by rw [mx_self h11, mx_self h12, mx_self h13, mx_self h14, mx_self h10]
  have hY : (mx_put (mx_put F 11 (mx_ia 60 ft)) 12 (mx_la 60 hp)) = F := by rw [mx_self h11, mx_self h12]

  have done : mo ≤ 2 → Rr 10 (mx_en [mx_r 10, mx_i (nI 2), mx_i (nI mo), mx_i (nI f), mx_l (lN (enc (al rl rn l) 12))] 7) [] F 0 0 := by
    intro hle
    refine go rfl ⟨rfl, rfl, rfl, ?_⟩
    have h := hP kc tot cs ka (by rw [show mo - 2 = 0 by omega]; exact (by rw [show (ge N ch 0 (pos n fc fl f) (n - pos n fc fl f) l).map (pre ++ ·) = [] from rfl, List.append_nil]; exact hks)) (fun _ _ => rfl)
    rw [mx_self h13, mx_self h14, mx_self h10] at h
    exact h

  rcases Nat.lt_or_ge 2 mo with hd | hd
  rotate_left
  · refine go rfl ⟨_, rfl, ?_⟩
    refine go rfl ⟨_, rfl, ?_⟩
    refine go rfl ⟨_, _, _, rfl, fun c => ?_, fun c => ?_⟩
    · exact done hd
    · exact absurd (nI_le hd (by omega)) c
  refine go rfl ⟨_, rfl, ?_⟩
  refine go rfl ⟨_, rfl, ?_⟩
  refine go rfl ⟨_, _, _, rfl, fun c => ?_, fun c => ?_⟩
  · exact absurd ((nI_leI (by omega) (by omega)).mp c) (by omega)
  refine go rfl ⟨_, rfl, ?_⟩
  refine go rfl ?_
  refine go rfl ⟨_, _, _, rfl, fun c2 => ?_, fun c2 => ?_⟩
  rotate_left
  · exact absurd (nI_lt (show 2 < 4 by omega) (by omega)) c2
  rw [hF]
  have la16 : ∀ j, j < 12 → al rl rn l j < 16 := fun j _ => al_lt (by decide) hvl (fun u hu => Nat.lt_of_le_of_lt (hll u hu) (hl16 u hu)) j
  have hspl : spl rl rn l := fun u hu h => Nat.le_zero.mp (by rw [← hsp u hu h]; exact hll u hu)
  have loop : ∀ (m v kc' : Nat) (tot' : Int32) (cs' ka' : Nat → Int32) (L' : List (List Nat)), v + m = fc → ks L' kc' tot' ka' → (∀ i, i < 2 → cs' i = cs i) → L ++ (ge N ch (mo - 2) (pos n fc fl f) (n - pos n fc fl f) l).map (pre ++ ·) = L' ++ (ge N ch (mo - 2) (pos n fc fl v) (n - pos n fc fl v) l).map (pre ++ ·) → Rr 14 [some (mx_r 10), some (mx_i (nI 2)), some (mx_i (nI mo)), some (mx_i (nI f)), some (mx_l (lN (enc (al rl rn l) 12))), none, some (mx_i (nI v))] [] (mx_put (mx_put (mx_put (mx_put (mx_put F 11 (mx_ia 60 ft)) 12 (mx_la 60 hp)) 13 (mx_ia 4 cs')) 14 (mx_ia 800 ka')) 10 (e_G (nI fc) (nI kc') tot' wt)) 0 0 := by
    intro m
    induction m with
    | zero =>
      intro v kc' tot' cs' ka' L' hm hk' hc' hL
      refine go rfl ⟨_, rfl, ?_⟩
      refine go rfl ⟨_, rfl, ?_⟩
      refine go rfl ⟨_, _, _, _, rfl, rfl, rfl, ?_⟩
      refine go rfl ⟨_, _, _, rfl, fun e => ?_, fun e => ?_⟩
      · refine go rfl ⟨rfl, rfl, rfl, ?_⟩
        rw [hY]
        refine hP kc' tot' cs' ka' ?_ hc'
        rw [hL, pos_n (show ¬ v < fc by omega), Nat.sub_self, ge_0]
        show ks (L' ++ []) _ _ _
        rw [List.append_nil]
        exact hk'
      · exact absurd (nI_le (by omega) (by omega)) e
    | succ m ih =>
      intro v kc' tot' cs' ka' L' hm hk' hc' hL
      have hvf : v < fc := by omega
      obtain ⟨b1, b2, b3, b4, b5⟩ := hfl.1 v hvf
      have hNw := hwc.2.1 (fl v) b2
      have hw16 : ∀ j, j < 12 → al rl rn (fun u => wc (ch (fl v)) u (N (fl v))) j < 16 := fun j _ => al_lt (by decide) hvl (fun u hu => by have := wc_le (ch (fl v)) u (N (fl v)); omega) j
      have hL := hL.trans (show _ = L' ++ (ge N ch (mo - 3 + 1) (fl v) (n - (fl v + 1) + 1) l).map (pre ++ ·) by rw [pos_y hvf, show n - (fl v + 1) + 1 = n - fl v by omega, show mo - 3 + 1 = mo - 2 by omega])
      refine go rfl ⟨_, rfl, ?_⟩
      refine go rfl ⟨_, rfl, ?_⟩
      refine go rfl ⟨_, _, _, _, rfl, rfl, rfl, ?_⟩
      refine go rfl ⟨_, _, _, rfl, fun e => ?_, fun e => ?_⟩
      · exact absurd ((nI_leI (by omega) (by omega)).mp e) (by omega)
      refine go rfl ⟨_, rfl, ?_⟩
      refine go rfl ⟨_, _, _, _, rfl, rfl, rfl, ?_⟩
      refine go rfl ⟨_, rfl, ?_⟩
      refine go rfl ⟨_, _, _, _, _, rfl, rfl, (vp_in_nI (show v < 60 by omega) (by omega)), ?_⟩
      rw [nI_clamp (by omega), b5]
      refine go rfl ⟨_, rfl, ?_⟩
      refine go rfl ⟨_, _, _, rfl, rfl, rfl, rfl, ⟨_, _, rfl, la16, hw16, fun hy => ?_, fun hy => ?_⟩⟩
      · have hft := (fit_al hvl hrn b4).mp hy
        have esub : lN (enc (al rl rn l) 12) - lN (enc (al rl rn (fun u => wc (ch (fl v)) u (N (fl v)))) 12) = lN (enc (al rl rn (subw N ch l (fl v))) 12) := by
          have e1 := enc_sub (k := 12) hy
          rw [lN_sub (by omega)]
          congr 1
          rw [enc_c (a := al rl rn (subw N ch l (fl v))) (b := fun j => al rl rn l j - al rl rn (fun u => wc (ch (fl v)) u (N (fl v))) j) (fun j _ => al_sub j)]
          omega
        rw [ge_t hft, List.map_append, ← List.append_assoc] at hL
        refine go rfl ⟨_, _, rfl, fun e2 => ?_, fun e2 => ?_⟩
        · exact absurd e2 (by decide)
        refine go rfl ⟨_, rfl, ?_⟩
        refine go rfl ⟨_, rfl, ?_⟩
        refine go rfl ⟨_, rfl, ?_⟩
        refine go rfl ⟨_, rfl, ?_⟩
        refine go rfl ⟨_, rfl, ?_⟩
        refine go rfl ⟨_, rfl, ?_⟩
        refine go rfl ⟨_, _, _, _, rfl, rfl, rfl, ?_⟩
        refine go rfl ⟨_, rfl, ?_⟩
        refine go rfl ⟨_, _, _, _, _, rfl, rfl, (vp_in_nI (show v < 60 by omega) (by omega)), ?_⟩
        rw [nI_clamp (by omega), b5]
        refine go rfl ⟨_, _, _, rfl, ?_⟩
        rw [esub]
        refine go rfl ⟨_, _, _, _, _, _, _, rfl, rfl, rfl, rfl, rfl, ⟨fc, kc', tot', wt, ft, cs', ka', hp, n, N, ch, rl, rn, l0, l, fl, pre, L', mo, v, rfl, rfl, rfl, rfl, rfl, rfl, hfc, hwc, hrn, hvl, hsp, hl16, hll, hfl, hk', hpl, fun i hi => (hc' i hi).trans (hpc i hi), hmo, hvf, hd, fun kc2 tot2 cs2 ka2 q q2 => ?_⟩⟩
        rw [mx_pc _ _ _ (show (13 : Nat) ≠ 10 by decide), mx_pc _ _ _ (show (13 : Nat) ≠ 14 by decide), mx_pp, mx_pc _ _ _ (show (14 : Nat) ≠ 10 by decide), mx_pp, mx_pp]
        refine go rfl ⟨_, rfl, ?_⟩
        refine go rfl ?_
        rw [nI_add]
        refine ih (v + 1) kc2 tot2 cs2 ka2 _ (by omega) q (fun i hi => (q2 i hi).trans (hc' i hi)) ?_
        rw [hL, show n - (fl v + 1) + 1 = n - fl v by omega, show mo - 3 + 1 = mo - 2 by omega, pos_skip hfl hll hvf]
      · have hft : ¬ fitw N ch l (fl v) := fun h => hy ((fit_al hvl hrn b4).mpr h)
        refine go rfl ⟨_, _, rfl, fun e2 => ?_, fun e2 => ?_⟩
        · refine go rfl ⟨_, rfl, ?_⟩
          refine go rfl ?_
          rw [nI_add]
          refine ih (v + 1) kc' tot' cs' ka' L' (by omega) hk' hc' ?_
          rw [hL, ge_n hft, show mo - 3 + 1 = mo - 2 by omega, pos_skip hfl hll hvf]
        · exact absurd rfl e2
  refine go rfl ⟨_, rfl, ?_⟩
  refine go rfl ⟨_, _, rfl, ?_⟩
  exact loop (fc - f) f kc tot cs ka L (by omega) hks (fun _ _ => rfl) rfl
-- LadderWords$Gatherings.take(IIIJ)V
def sp_G_take1 : mx_Sp := fun As F P => ∃ (fc kc : Nat) (tot wt : Int32) (ft cs ka : Nat → Int32) (hp : Nat → Int64) (n : Nat) (N : Nat → Nat) (ch : Nat → Nat → Int32) (rl : Nat → Int32) (rn : Nat) (l0 l : Nat → Nat) (fl : Nat → Nat) (pre : List Nat) (L : List (List Nat)) (mo f : Nat), As = [mx_r 10, mx_i (nI 1), mx_i (nI mo), mx_i (nI f), mx_l (lN (enc (al rl rn (subw N ch l (fl f))) 12))] ∧ F 10 = some (e_G (nI fc) (nI kc) tot wt) ∧ F 11 = some (mx_ia 60 ft) ∧ F 12 = some (mx_la 60 hp) ∧ F 13 = some (mx_ia 4 cs) ∧ F 14 = some (mx_ia 800 ka) ∧ fc ≤ 60 ∧ wch n N ch ∧ rn ≤ 12 ∧ (∀ i, i < rn → vl (rl i)) ∧ spl rl rn l0 ∧ (∀ u, u < 26 → l0 u < 16) ∧ (∀ u, u < 26 → l u ≤ l0 u) ∧ fli n N ch rl rn l0 n fc fl ft hp ∧ ks L kc tot ka ∧ pre.length = 1 ∧ (∀ i, i < 1 → cs i = nI (pre.getD i 0)) ∧ mo ≤ 4 ∧ f < fc ∧ 1 < mo ∧ ∀ (kc' : Nat) (tot' : Int32) cs' ka', ks (L ++ (cif (empl (subw N ch l (fl f))) [[fl f]] ((ge N ch (mo - 2) (fl f) (n - fl f) (subw N ch l (fl f))).map (List.cons (fl f)))).map (pre ++ ·)) kc' tot' ka' → (∀ i, i < 1 → cs' i = cs i) → P none (mx_put (mx_put (mx_put F 13 (mx_ia 4 cs')) 14 (mx_ia 800 ka')) 10 (e_G (nI fc) (nI kc') tot' wt))
abbrev rm_G_take1 : Room := { frames := 80, cells := 0, slots := 0, locals := 1600 }
def t_G_take1  (P : Option mx_V → mx_F → Prop) : List (Nat × mx_O) := [
  (0, mx_aload 0 1),
  (1, mx_get 0 4 4),
  (4, mx_iload 1 5),
  (5, mx_aload 0 6),
  (6, mx_get 0 1 9),
  (9, mx_iload 3 10),
  (10, mx_iald 11),
  (11, mx_iast 12),
  (12, mx_lload 4 14),
  (14, mx_push (.inr (.inl 0)) 15),
  (15, mx_lcmp 16),
  (16, mx_if_ne 29 19),
  (19, mx_aload 0 20),
  (20, mx_iload 1 21),
  (21, mx_push (.inl (nI 1)) 22),
  (22, mx_iadd 23),
  (23, mx_cv1 0 sp_G_keep 0 0 26),
  (26, mx_goto 40),
  (29, mx_aload 0 30),
  (30, mx_iload 1 31),
  (31, mx_push (.inl (nI 1)) 32),
  (32, mx_iadd 33),
  (33, mx_iload 2 34),
  (34, mx_iload 3 35),
  (35, mx_lload 4 37),
  (37, mx_cv4 0 sp_G_choose2 0 0 40),
  (40, mx_ret P)]
set_option maxRecDepth 20000 in
theorem a_G_take1  {p : Program} {l : Launch} {e : Env} {s : State} {m : MethodId} {args : Array Value} {below : List Frame} {meth : Method} {c : Code} {D : va_G} {tc : Nat → ClassId} {tb : Nat → Nat} {sz : Nat} {a0 : Nat → Nat} {G : mx_F} {P : Option mx_V → mx_F → Prop}  (C : mx_C p s m args c c_G_take y_G_take.cls w_G_take D tc tb (mx_A a0 G sz) 6 (mx_Ok0 a0 G)) (hr : meth.sig.returnType = none) (hlk : meth.locks = false) : mx_all (mx_W p l e rm_G_take1 s m args below meth c (MQ below (mx_Q D tc tb a0 G sz P) args s 0 0 (mx_A a0 G sz)) D tc tb (mx_A a0 G sz) 6 (mx_Ok0 a0 G)) (t_G_take1  P) :=
  ⟨mx_s_aload_n C d_G_take_0 rfl,
  mx_s_get (T := T_G) (N := 9) (k := 4) C (fun w h => List.mem_cons_of_mem _ (in_G w h)) rfl (by decide) (List.mem_cons_of_mem _ fk_G_19) rfl d_G_take_1,
  mx_s_iload_n C d_G_take_4 rfl,
  mx_s_aload_n C d_G_take_5 rfl,
  mx_s_get (T := T_G) (N := 9) (k := 1) C (fun w h => List.mem_cons_of_mem _ (in_G w h)) rfl (by decide) (List.mem_cons_of_mem _ fk_G_9) rfl d_G_take_6,
  mx_s_iload_n C d_G_take_9 rfl,
  mx_s_iald C d_G_take_10,
  mx_s_iast C d_G_take_11,
  mx_s_lload C d_G_take_12,
  mx_s_lconst C d_G_take_14 (by decide),
  mx_s_lcmp C d_G_take_15,
  mx_s_if_ne C d_G_take_16 (by decide),
  mx_s_aload_n C d_G_take_19 rfl,
  mx_s_iload_n C d_G_take_20 rfl,
  mx_s_iconst C d_G_take_21 (by decide),
  mx_s_iadd C d_G_take_22,
  mx_s_cv1 C (m_G_keep l) rfl (cwV 1 C.2.2.2.2.1 (mx_gV (fun w h => List.mem_cons_of_mem _ h) mk_G_98 im_G_keep se_G_keep ic_G co_G_keep) rfl rfl rfl (by decide +kernel) ⟨by decide, by decide⟩) d_G_take_23 ⟨Nat.zero_le _, Nat.zero_le _⟩,
  mx_s_goto C d_G_take_26 (by decide),
  mx_s_aload_n C d_G_take_29 rfl,
  mx_s_iload_n C d_G_take_30 rfl,
  mx_s_iconst C d_G_take_31 (by decide),
  mx_s_iadd C d_G_take_32,
  mx_s_iload_n C d_G_take_33 rfl,
  mx_s_iload_n C d_G_take_34 rfl,
  mx_s_lload C d_G_take_35,
  mx_s_cv4 C (m_G_choose2 l) rfl (cwV 4 C.2.2.2.2.1 (mx_gV (fun w h => List.mem_cons_of_mem _ h) mk_G_53 im_G_choose se_G_choose ic_G co_G_choose) rfl rfl rfl (by decide +kernel) ⟨by decide, by decide⟩) d_G_take_37 ⟨Nat.zero_le _, Nat.zero_le _⟩,
  mx_s_ret C hr hlk d_G_take_40,
  trivial⟩
set_option maxRecDepth 20000 in
set_option maxHeartbeats 2000000 in
theorem m_G_take1 (l : Launch) : mx_M l y_G_take w_G_take rm_G_take1 sp_G_take1 := by
  intro zD ztc ztb zad As F P sz0 h
  obtain ⟨fc, kc, tot, wt, ft, cs, ka, hp, n, N, ch, rl, rn, l0, l, fl, pre, L, mo, f, rfl, h10, h11, h12, h13, h14, hfc, hwc, hrn, hvl, hsp, hl16, hll, hfl, hks, hpl, hpc, hmo, hf, hmd, hP⟩ := h
  refine mx_run (cc := c_G_take) (maxL := 6) (ret := none) (tab := t_G_take1  P) (by decide) rfl zD ztc ztb zad _ F P sz0 (Nat.le_of_ble_eq_true rfl) (fun p e s m args below meth c C hr hlk => a_G_take1  C hr hlk) ?_
  intro Rr go
  have hF : F = (mx_put (mx_put (mx_put (mx_put (mx_put F 11 (mx_ia 60 ft)) 12 (mx_la 60 hp)) 13 (mx_ia 4 cs)) 14 (mx_ia 800 ka)) 10 (e_G (nI fc) (nI kc) tot wt)) := by rw [mx_self h11, mx_self h12, mx_self h13, mx_self h14, mx_self h10]
  have hY : (mx_put (mx_put F 11 (mx_ia 60 ft)) 12 (mx_la 60 hp)) = F := by rw [mx_self h11, mx_self h12]

  rw [hF]
  have hkc := ks_le hks
  have hspl : spl rl rn l := fun u hu h => Nat.le_zero.mp (by rw [← hsp u hu h]; exact hll u hu)
  have hll2 : ∀ u, u < 26 → subw N ch l (fl f) u ≤ l0 u := fun u hu => Nat.le_trans (Nat.sub_le _ _) (hll u hu)
  have hsp2 : spl rl rn (subw N ch l (fl f)) := fun u hu h => Nat.le_zero.mp (by rw [← hsp u hu h]; exact hll2 u hu)
  have hpl2 : (pre ++ [fl f]).length = 2 := by rw [List.length_append, hpl]; rfl
  have hpc2 := pre_s (w := fl f) hpl hpc
  have h63 : enc (al rl rn (subw N ch l (fl f))) 12 < 2 ^ 63 := enc63 (fun j _ => Nat.lt_of_lt_of_le (al_lt (by decide) hvl (fun u hu => Nat.lt_of_le_of_lt (hll2 u hu) (hl16 u hu)) j) (show 16 ≤ 32 by decide))
  refine go rfl ⟨_, rfl, ?_⟩
  refine go rfl ⟨_, _, _, _, rfl, rfl, rfl, ?_⟩
  refine go rfl ⟨_, rfl, ?_⟩
  refine go rfl ⟨_, rfl, ?_⟩
  refine go rfl ⟨_, _, _, _, rfl, rfl, rfl, ?_⟩
  refine go rfl ⟨_, rfl, ?_⟩
  refine go rfl ⟨_, _, _, _, _, rfl, rfl, (vp_in_nI (show f < 60 by omega) (by omega)), ?_⟩
  rw [nI_clamp (show f < 2 ^ 31 by omega), (hfl.1 f hf).1]
  refine go rfl ⟨_, _, _, _, _, _, rfl, rfl, (vp_in_nI (show 1 < 4 by omega) (by omega)), ?_⟩
  rw [nI_clamp (show 1 < 2 ^ 31 by omega), mx_pc _ _ _ (show (13 : Nat) ≠ 10 by decide), mx_pc _ _ _ (show (13 : Nat) ≠ 14 by decide), mx_pp]
  refine go rfl ⟨_, rfl, ?_⟩
  refine go rfl ?_
  refine go rfl ⟨_, _, _, rfl, ?_⟩
  refine go rfl ⟨_, _, rfl, fun c => ?_, fun c => ?_⟩
  rotate_left
  · have hz : empl (subw N ch l (fl f)) := (al_emp hvl hrn hsp2).mp ((pk_lEQ h63 (show 0 < 2 ^ 63 by decide)).mp (lcmpE.mp c))
    rw [cif_y hz] at hP
    refine go rfl ⟨_, rfl, ?_⟩
    refine go rfl ⟨_, rfl, ?_⟩
    refine go rfl ?_
    refine go rfl ⟨_, _, _, rfl, ?_⟩
    rw [nI_add]
    refine go rfl ⟨_, _, _, _, rfl, rfl, rfl, rfl, rfl, ⟨_, kc, 1 + 1, _, _, _, _, rfl, rfl, rfl, rfl, hkc, by omega, fun hk2 ka' hkp => ?_, fun hk2 => ?_⟩⟩
    · rw [mx_pc _ _ _ (show (14 : Nat) ≠ 10 by decide), mx_pp, mx_pp]
      refine go rfl ?_
      refine go rfl ⟨rfl, rfl, rfl, ?_⟩
      rw [hY]
      refine hP (kc + 1) _ _ ka' ?_ (fun i hi => pk_un (by omega))
      exact ks_keep (g := pre ++ [fl f]) hks hk2 (fun i hi => hpc2 i (by rw [hpl2] at hi; exact hi)) (by rw [hpl2]; exact hkp)
    · rw [mx_pp]
      refine go rfl ?_
      refine go rfl ⟨rfl, rfl, rfl, ?_⟩
      rw [hY]
      subst hk2
      exact hP 200 _ _ ka (ks_full hks) (fun i hi => pk_un (by omega))
  have hz : ¬ empl (subw N ch l (fl f)) := fun q => c (lcmpE.mpr (by rw [(al_emp hvl hrn hsp2).mpr q]; rfl))
  rw [cif_n hz, map_pre] at hP
  refine go rfl ⟨_, rfl, ?_⟩
  refine go rfl ⟨_, rfl, ?_⟩
  refine go rfl ?_
  refine go rfl ⟨_, _, _, rfl, ?_⟩
  rw [nI_add]
  refine go rfl ⟨_, rfl, ?_⟩
  refine go rfl ⟨_, rfl, ?_⟩
  refine go rfl ⟨_, rfl, ?_⟩
  refine go rfl ⟨_, _, _, _, _, _, _, rfl, rfl, rfl, rfl, rfl, ⟨fc, kc, tot, wt, ft, _, ka, hp, n, N, ch, rl, rn, l0, subw N ch l (fl f), fl, pre ++ [fl f], L, mo, f, rfl, rfl, rfl, rfl, rfl, rfl, hfc, hwc, hrn, hvl, hsp, hl16, hll2, hfl, hks, hpl2, hpc2, hmo, by omega, fun kc2 tot2 cs2 ka2 q q2 => ?_⟩⟩
  rw [mx_pc _ _ _ (show (13 : Nat) ≠ 10 by decide), mx_pc _ _ _ (show (13 : Nat) ≠ 14 by decide), mx_pp, mx_pc _ _ _ (show (14 : Nat) ≠ 10 by decide), mx_pp, mx_pp]
  refine go rfl ⟨rfl, rfl, rfl, ?_⟩
  rw [hY]
  refine hP kc2 tot2 cs2 ka2 ?_ (fun i hi => ?_)
  · rw [pos_y hf] at q
    exact q
  · rw [q2 i (by omega), pk_un (by omega)]
-- LadderWords$Gatherings.choose(IIIJ)V
def sp_G_choose1 : mx_Sp := fun As F P => ∃ (fc kc : Nat) (tot wt : Int32) (ft cs ka : Nat → Int32) (hp : Nat → Int64) (n : Nat) (N : Nat → Nat) (ch : Nat → Nat → Int32) (rl : Nat → Int32) (rn : Nat) (l0 l : Nat → Nat) (fl : Nat → Nat) (pre : List Nat) (L : List (List Nat)) (mo f : Nat), As = [mx_r 10, mx_i (nI 1), mx_i (nI mo), mx_i (nI f), mx_l (lN (enc (al rl rn l) 12))] ∧ F 10 = some (e_G (nI fc) (nI kc) tot wt) ∧ F 11 = some (mx_ia 60 ft) ∧ F 12 = some (mx_la 60 hp) ∧ F 13 = some (mx_ia 4 cs) ∧ F 14 = some (mx_ia 800 ka) ∧ fc ≤ 60 ∧ wch n N ch ∧ rn ≤ 12 ∧ (∀ i, i < rn → vl (rl i)) ∧ spl rl rn l0 ∧ (∀ u, u < 26 → l0 u < 16) ∧ (∀ u, u < 26 → l u ≤ l0 u) ∧ fli n N ch rl rn l0 n fc fl ft hp ∧ ks L kc tot ka ∧ pre.length = 1 ∧ (∀ i, i < 1 → cs i = nI (pre.getD i 0)) ∧ mo ≤ 4 ∧ f ≤ fc ∧ ∀ (kc' : Nat) (tot' : Int32) cs' ka', ks (L ++ (ge N ch (mo - 1) (pos n fc fl f) (n - pos n fc fl f) l).map (pre ++ ·)) kc' tot' ka' → (∀ i, i < 1 → cs' i = cs i) → P none (mx_put (mx_put (mx_put F 13 (mx_ia 4 cs')) 14 (mx_ia 800 ka')) 10 (e_G (nI fc) (nI kc') tot' wt))
abbrev rm_G_choose1 : Room := { frames := 90, cells := 0, slots := 0, locals := 1800 }
def t_G_choose1  (P : Option mx_V → mx_F → Prop) : List (Nat × mx_O) := [
  (0, mx_iload 1 1),
  (1, mx_iload 2 2),
  (2, mx_ic_ge 10 5),
  (5, mx_iload 1 6),
  (6, mx_push (.inl (nI 4)) 7),
  (7, mx_ic_lt 11 10),
  (10, mx_ret P),
  (11, mx_iload 3 12),
  (12, mx_istore 6 14),
  (14, mx_iload 6 16),
  (16, mx_aload 0 17),
  (17, mx_get 0 3 20),
  (20, mx_ic_ge 62 23),
  (23, mx_aload 0 24),
  (24, mx_get 0 2 27),
  (27, mx_iload 6 29),
  (29, mx_lald 30),
  (30, mx_lload 4 32),
  (32, mx_cs2 sp_G_isWithin 0 0 35),
  (35, mx_if_eq 56 38),
  (38, mx_aload 0 39),
  (39, mx_iload 1 40),
  (40, mx_iload 2 41),
  (41, mx_iload 6 43),
  (43, mx_lload 4 45),
  (45, mx_aload 0 46),
  (46, mx_get 0 2 49),
  (49, mx_iload 6 51),
  (51, mx_lald 52),
  (52, mx_lsub 53),
  (53, mx_cv4 0 sp_G_take1 0 0 56),
  (56, mx_iinc 6 (nI 1) 59),
  (59, mx_goto 14),
  (62, mx_ret P)]
set_option maxRecDepth 20000 in
theorem a_G_choose1  {p : Program} {l : Launch} {e : Env} {s : State} {m : MethodId} {args : Array Value} {below : List Frame} {meth : Method} {c : Code} {D : va_G} {tc : Nat → ClassId} {tb : Nat → Nat} {sz : Nat} {a0 : Nat → Nat} {G : mx_F} {P : Option mx_V → mx_F → Prop}  (C : mx_C p s m args c c_G_choose y_G_choose.cls w_G_choose D tc tb (mx_A a0 G sz) 7 (mx_Ok0 a0 G)) (hr : meth.sig.returnType = none) (hlk : meth.locks = false) : mx_all (mx_W p l e rm_G_choose1 s m args below meth c (MQ below (mx_Q D tc tb a0 G sz P) args s 0 0 (mx_A a0 G sz)) D tc tb (mx_A a0 G sz) 7 (mx_Ok0 a0 G)) (t_G_choose1  P) :=
  ⟨mx_s_iload_n C d_G_choose_0 rfl,
  mx_s_iload_n C d_G_choose_1 rfl,
  mx_s_ic_ge C d_G_choose_2 (by decide),
  mx_s_iload_n C d_G_choose_5 rfl,
  mx_s_iconst C d_G_choose_6 (by decide),
  mx_s_ic_lt C d_G_choose_7 (by decide),
  mx_s_ret C hr hlk d_G_choose_10,
  mx_s_iload_n C d_G_choose_11 rfl,
  mx_s_istore C d_G_choose_12 (by decide),
  mx_s_iload C d_G_choose_14,
  mx_s_aload_n C d_G_choose_16 rfl,
  mx_s_get (T := T_G) (N := 9) (k := 3) C (fun w h => List.mem_cons_of_mem _ (in_G w h)) rfl (by decide) (List.mem_cons_of_mem _ fk_G_75) rfl d_G_choose_17,
  mx_s_ic_ge C d_G_choose_20 (by decide),
  mx_s_aload_n C d_G_choose_23 rfl,
  mx_s_get (T := T_G) (N := 9) (k := 2) C (fun w h => List.mem_cons_of_mem _ (in_G w h)) rfl (by decide) (List.mem_cons_of_mem _ fk_G_15) rfl d_G_choose_24,
  mx_s_iload C d_G_choose_27,
  mx_s_lald C d_G_choose_29,
  mx_s_lload C d_G_choose_30,
  mx_s_cs2 C (m_G_isWithin l) (cwS 2 C.2.2.2.2.1 (mx_gS (fun w h => List.mem_cons_of_mem _ h) mk_G_84 sm_G_isWithin ic_G co_G_isWithin) rfl rfl rfl (by decide +kernel) ⟨by decide, by decide⟩) d_G_choose_32 ⟨Nat.zero_le _, Nat.zero_le _⟩,
  mx_s_if_eq C d_G_choose_35 (by decide),
  mx_s_aload_n C d_G_choose_38 rfl,
  mx_s_iload_n C d_G_choose_39 rfl,
  mx_s_iload_n C d_G_choose_40 rfl,
  mx_s_iload C d_G_choose_41,
  mx_s_lload C d_G_choose_43,
  mx_s_aload_n C d_G_choose_45 rfl,
  mx_s_get (T := T_G) (N := 9) (k := 2) C (fun w h => List.mem_cons_of_mem _ (in_G w h)) rfl (by decide) (List.mem_cons_of_mem _ fk_G_15) rfl d_G_choose_46,
  mx_s_iload C d_G_choose_49,
  mx_s_lald C d_G_choose_51,
  mx_s_lsub C d_G_choose_52,
  mx_s_cv4 C (m_G_take1 l) rfl (cwV 4 C.2.2.2.2.1 (mx_gV (fun w h => List.mem_cons_of_mem _ h) mk_G_95 im_G_take se_G_take ic_G co_G_take) rfl rfl rfl (by decide +kernel) ⟨by decide, by decide⟩) d_G_choose_53 ⟨Nat.zero_le _, Nat.zero_le _⟩,
  mx_s_iinc C d_G_choose_56 (by decide) (by decide),
  mx_s_goto C d_G_choose_59 (by decide),
  mx_s_ret C hr hlk d_G_choose_62,
  trivial⟩
set_option maxRecDepth 20000 in
set_option maxHeartbeats 2000000 in
theorem m_G_choose1 (l : Launch) : mx_M l y_G_choose w_G_choose rm_G_choose1 sp_G_choose1 := by
  intro zD ztc ztb zad As F P sz0 h
  obtain ⟨fc, kc, tot, wt, ft, cs, ka, hp, n, N, ch, rl, rn, l0, l, fl, pre, L, mo, f, rfl, h10, h11, h12, h13, h14, hfc, hwc, hrn, hvl, hsp, hl16, hll, hfl, hks, hpl, hpc, hmo, hf, hP⟩ := h
  refine mx_run (cc := c_G_choose) (maxL := 7) (ret := none) (tab := t_G_choose1  P) (by decide) rfl zD ztc ztb zad _ F P sz0 (Nat.le_of_ble_eq_true rfl) (fun p e s m args below meth c C hr hlk => a_G_choose1  C hr hlk) ?_
  intro Rr go
  have hF : F = (mx_put (mx_put (mx_put (mx_put (mx_put F 11 (mx_ia 60 ft)) 12 (mx_la 60 hp)) 13 (mx_ia 4 cs)) 14 (mx_ia 800 ka)) 10 (e_G (nI fc) (nI kc) tot wt)) := by rw [mx_self h11, mx_self h12, mx_self h13, mx_self h14, mx_self h10]
  have hY : (mx_put (mx_put F 11 (mx_ia 60 ft)) 12 (mx_la 60 hp)) = F := by rw [mx_self h11, mx_self h12]

  have done : mo ≤ 1 → Rr 10 (mx_en [mx_r 10, mx_i (nI 1), mx_i (nI mo), mx_i (nI f), mx_l (lN (enc (al rl rn l) 12))] 7) [] F 0 0 := by
    intro hle
    refine go rfl ⟨rfl, rfl, rfl, ?_⟩
    have h := hP kc tot cs ka (by rw [show mo - 1 = 0 by omega]; exact (by rw [show (ge N ch 0 (pos n fc fl f) (n - pos n fc fl f) l).map (pre ++ ·) = [] from rfl, List.append_nil]; exact hks)) (fun _ _ => rfl)
    rw [mx_self h13, mx_self h14, mx_self h10] at h
    exact h

  rcases Nat.lt_or_ge 1 mo with hd | hd
  rotate_left
  · refine go rfl ⟨_, rfl, ?_⟩
    refine go rfl ⟨_, rfl, ?_⟩
    refine go rfl ⟨_, _, _, rfl, fun c => ?_, fun c => ?_⟩
    · exact done hd
    · exact absurd (nI_le hd (by omega)) c
  refine go rfl ⟨_, rfl, ?_⟩
  refine go rfl ⟨_, rfl, ?_⟩
  refine go rfl ⟨_, _, _, rfl, fun c => ?_, fun c => ?_⟩
  · exact absurd ((nI_leI (by omega) (by omega)).mp c) (by omega)
  refine go rfl ⟨_, rfl, ?_⟩
  refine go rfl ?_
  refine go rfl ⟨_, _, _, rfl, fun c2 => ?_, fun c2 => ?_⟩
  rotate_left
  · exact absurd (nI_lt (show 1 < 4 by omega) (by omega)) c2
  rw [hF]
  have la16 : ∀ j, j < 12 → al rl rn l j < 16 := fun j _ => al_lt (by decide) hvl (fun u hu => Nat.lt_of_le_of_lt (hll u hu) (hl16 u hu)) j
  have hspl : spl rl rn l := fun u hu h => Nat.le_zero.mp (by rw [← hsp u hu h]; exact hll u hu)
  have loop : ∀ (m v kc' : Nat) (tot' : Int32) (cs' ka' : Nat → Int32) (L' : List (List Nat)), v + m = fc → ks L' kc' tot' ka' → (∀ i, i < 1 → cs' i = cs i) → L ++ (ge N ch (mo - 1) (pos n fc fl f) (n - pos n fc fl f) l).map (pre ++ ·) = L' ++ (ge N ch (mo - 1) (pos n fc fl v) (n - pos n fc fl v) l).map (pre ++ ·) → Rr 14 [some (mx_r 10), some (mx_i (nI 1)), some (mx_i (nI mo)), some (mx_i (nI f)), some (mx_l (lN (enc (al rl rn l) 12))), none, some (mx_i (nI v))] [] (mx_put (mx_put (mx_put (mx_put (mx_put F 11 (mx_ia 60 ft)) 12 (mx_la 60 hp)) 13 (mx_ia 4 cs')) 14 (mx_ia 800 ka')) 10 (e_G (nI fc) (nI kc') tot' wt)) 0 0 := by
    intro m
    induction m with
    | zero =>
      intro v kc' tot' cs' ka' L' hm hk' hc' hL
      refine go rfl ⟨_, rfl, ?_⟩
      refine go rfl ⟨_, rfl, ?_⟩
      refine go rfl ⟨_, _, _, _, rfl, rfl, rfl, ?_⟩
      refine go rfl ⟨_, _, _, rfl, fun e => ?_, fun e => ?_⟩
      · refine go rfl ⟨rfl, rfl, rfl, ?_⟩
        rw [hY]
        refine hP kc' tot' cs' ka' ?_ hc'
        rw [hL, pos_n (show ¬ v < fc by omega), Nat.sub_self, ge_0]
        show ks (L' ++ []) _ _ _
        rw [List.append_nil]
        exact hk'
      · exact absurd (nI_le (by omega) (by omega)) e
    | succ m ih =>
      intro v kc' tot' cs' ka' L' hm hk' hc' hL
      have hvf : v < fc := by omega
      obtain ⟨b1, b2, b3, b4, b5⟩ := hfl.1 v hvf
      have hNw := hwc.2.1 (fl v) b2
      have hw16 : ∀ j, j < 12 → al rl rn (fun u => wc (ch (fl v)) u (N (fl v))) j < 16 := fun j _ => al_lt (by decide) hvl (fun u hu => by have := wc_le (ch (fl v)) u (N (fl v)); omega) j
      have hL := hL.trans (show _ = L' ++ (ge N ch (mo - 2 + 1) (fl v) (n - (fl v + 1) + 1) l).map (pre ++ ·) by rw [pos_y hvf, show n - (fl v + 1) + 1 = n - fl v by omega, show mo - 2 + 1 = mo - 1 by omega])
      refine go rfl ⟨_, rfl, ?_⟩
      refine go rfl ⟨_, rfl, ?_⟩
      refine go rfl ⟨_, _, _, _, rfl, rfl, rfl, ?_⟩
      refine go rfl ⟨_, _, _, rfl, fun e => ?_, fun e => ?_⟩
      · exact absurd ((nI_leI (by omega) (by omega)).mp e) (by omega)
      refine go rfl ⟨_, rfl, ?_⟩
      refine go rfl ⟨_, _, _, _, rfl, rfl, rfl, ?_⟩
      refine go rfl ⟨_, rfl, ?_⟩
      refine go rfl ⟨_, _, _, _, _, rfl, rfl, (vp_in_nI (show v < 60 by omega) (by omega)), ?_⟩
      rw [nI_clamp (by omega), b5]
      refine go rfl ⟨_, rfl, ?_⟩
      refine go rfl ⟨_, _, _, rfl, rfl, rfl, rfl, ⟨_, _, rfl, la16, hw16, fun hy => ?_, fun hy => ?_⟩⟩
      · have hft := (fit_al hvl hrn b4).mp hy
        have esub : lN (enc (al rl rn l) 12) - lN (enc (al rl rn (fun u => wc (ch (fl v)) u (N (fl v)))) 12) = lN (enc (al rl rn (subw N ch l (fl v))) 12) := by
          have e1 := enc_sub (k := 12) hy
          rw [lN_sub (by omega)]
          congr 1
          rw [enc_c (a := al rl rn (subw N ch l (fl v))) (b := fun j => al rl rn l j - al rl rn (fun u => wc (ch (fl v)) u (N (fl v))) j) (fun j _ => al_sub j)]
          omega
        rw [ge_t hft, List.map_append, ← List.append_assoc] at hL
        refine go rfl ⟨_, _, rfl, fun e2 => ?_, fun e2 => ?_⟩
        · exact absurd e2 (by decide)
        refine go rfl ⟨_, rfl, ?_⟩
        refine go rfl ⟨_, rfl, ?_⟩
        refine go rfl ⟨_, rfl, ?_⟩
        refine go rfl ⟨_, rfl, ?_⟩
        refine go rfl ⟨_, rfl, ?_⟩
        refine go rfl ⟨_, rfl, ?_⟩
        refine go rfl ⟨_, _, _, _, rfl, rfl, rfl, ?_⟩
        refine go rfl ⟨_, rfl, ?_⟩
        refine go rfl ⟨_, _, _, _, _, rfl, rfl, (vp_in_nI (show v < 60 by omega) (by omega)), ?_⟩
        rw [nI_clamp (by omega), b5]
        refine go rfl ⟨_, _, _, rfl, ?_⟩
        rw [esub]
        refine go rfl ⟨_, _, _, _, _, _, _, rfl, rfl, rfl, rfl, rfl, ⟨fc, kc', tot', wt, ft, cs', ka', hp, n, N, ch, rl, rn, l0, l, fl, pre, L', mo, v, rfl, rfl, rfl, rfl, rfl, rfl, hfc, hwc, hrn, hvl, hsp, hl16, hll, hfl, hk', hpl, fun i hi => (hc' i hi).trans (hpc i hi), hmo, hvf, hd, fun kc2 tot2 cs2 ka2 q q2 => ?_⟩⟩
        rw [mx_pc _ _ _ (show (13 : Nat) ≠ 10 by decide), mx_pc _ _ _ (show (13 : Nat) ≠ 14 by decide), mx_pp, mx_pc _ _ _ (show (14 : Nat) ≠ 10 by decide), mx_pp, mx_pp]
        refine go rfl ⟨_, rfl, ?_⟩
        refine go rfl ?_
        rw [nI_add]
        refine ih (v + 1) kc2 tot2 cs2 ka2 _ (by omega) q (fun i hi => (q2 i hi).trans (hc' i hi)) ?_
        rw [hL, show n - (fl v + 1) + 1 = n - fl v by omega, show mo - 2 + 1 = mo - 1 by omega, pos_skip hfl hll hvf]
      · have hft : ¬ fitw N ch l (fl v) := fun h => hy ((fit_al hvl hrn b4).mpr h)
        refine go rfl ⟨_, _, rfl, fun e2 => ?_, fun e2 => ?_⟩
        · refine go rfl ⟨_, rfl, ?_⟩
          refine go rfl ?_
          rw [nI_add]
          refine ih (v + 1) kc' tot' cs' ka' L' (by omega) hk' hc' ?_
          rw [hL, ge_n hft, show mo - 2 + 1 = mo - 1 by omega, pos_skip hfl hll hvf]
        · exact absurd rfl e2
  refine go rfl ⟨_, rfl, ?_⟩
  refine go rfl ⟨_, _, rfl, ?_⟩
  exact loop (fc - f) f kc tot cs ka L (by omega) hks (fun _ _ => rfl) rfl
-- LadderWords$Gatherings.take(IIIJ)V
def sp_G_take0 : mx_Sp := fun As F P => ∃ (fc kc : Nat) (tot wt : Int32) (ft cs ka : Nat → Int32) (hp : Nat → Int64) (n : Nat) (N : Nat → Nat) (ch : Nat → Nat → Int32) (rl : Nat → Int32) (rn : Nat) (l0 l : Nat → Nat) (fl : Nat → Nat) (pre : List Nat) (L : List (List Nat)) (mo f : Nat), As = [mx_r 10, mx_i (nI 0), mx_i (nI mo), mx_i (nI f), mx_l (lN (enc (al rl rn (subw N ch l (fl f))) 12))] ∧ F 10 = some (e_G (nI fc) (nI kc) tot wt) ∧ F 11 = some (mx_ia 60 ft) ∧ F 12 = some (mx_la 60 hp) ∧ F 13 = some (mx_ia 4 cs) ∧ F 14 = some (mx_ia 800 ka) ∧ fc ≤ 60 ∧ wch n N ch ∧ rn ≤ 12 ∧ (∀ i, i < rn → vl (rl i)) ∧ spl rl rn l0 ∧ (∀ u, u < 26 → l0 u < 16) ∧ (∀ u, u < 26 → l u ≤ l0 u) ∧ fli n N ch rl rn l0 n fc fl ft hp ∧ ks L kc tot ka ∧ pre.length = 0 ∧ (∀ i, i < 0 → cs i = nI (pre.getD i 0)) ∧ mo ≤ 4 ∧ f < fc ∧ 0 < mo ∧ ∀ (kc' : Nat) (tot' : Int32) cs' ka', ks (L ++ (cif (empl (subw N ch l (fl f))) [[fl f]] ((ge N ch (mo - 1) (fl f) (n - fl f) (subw N ch l (fl f))).map (List.cons (fl f)))).map (pre ++ ·)) kc' tot' ka' → (∀ i, i < 0 → cs' i = cs i) → P none (mx_put (mx_put (mx_put F 13 (mx_ia 4 cs')) 14 (mx_ia 800 ka')) 10 (e_G (nI fc) (nI kc') tot' wt))
abbrev rm_G_take0 : Room := { frames := 100, cells := 0, slots := 0, locals := 2000 }
def t_G_take0  (P : Option mx_V → mx_F → Prop) : List (Nat × mx_O) := [
  (0, mx_aload 0 1),
  (1, mx_get 0 4 4),
  (4, mx_iload 1 5),
  (5, mx_aload 0 6),
  (6, mx_get 0 1 9),
  (9, mx_iload 3 10),
  (10, mx_iald 11),
  (11, mx_iast 12),
  (12, mx_lload 4 14),
  (14, mx_push (.inr (.inl 0)) 15),
  (15, mx_lcmp 16),
  (16, mx_if_ne 29 19),
  (19, mx_aload 0 20),
  (20, mx_iload 1 21),
  (21, mx_push (.inl (nI 1)) 22),
  (22, mx_iadd 23),
  (23, mx_cv1 0 sp_G_keep 0 0 26),
  (26, mx_goto 40),
  (29, mx_aload 0 30),
  (30, mx_iload 1 31),
  (31, mx_push (.inl (nI 1)) 32),
  (32, mx_iadd 33),
  (33, mx_iload 2 34),
  (34, mx_iload 3 35),
  (35, mx_lload 4 37),
  (37, mx_cv4 0 sp_G_choose1 0 0 40),
  (40, mx_ret P)]
set_option maxRecDepth 20000 in
theorem a_G_take0  {p : Program} {l : Launch} {e : Env} {s : State} {m : MethodId} {args : Array Value} {below : List Frame} {meth : Method} {c : Code} {D : va_G} {tc : Nat → ClassId} {tb : Nat → Nat} {sz : Nat} {a0 : Nat → Nat} {G : mx_F} {P : Option mx_V → mx_F → Prop}  (C : mx_C p s m args c c_G_take y_G_take.cls w_G_take D tc tb (mx_A a0 G sz) 6 (mx_Ok0 a0 G)) (hr : meth.sig.returnType = none) (hlk : meth.locks = false) : mx_all (mx_W p l e rm_G_take0 s m args below meth c (MQ below (mx_Q D tc tb a0 G sz P) args s 0 0 (mx_A a0 G sz)) D tc tb (mx_A a0 G sz) 6 (mx_Ok0 a0 G)) (t_G_take0  P) :=
  ⟨mx_s_aload_n C d_G_take_0 rfl,
  mx_s_get (T := T_G) (N := 9) (k := 4) C (fun w h => List.mem_cons_of_mem _ (in_G w h)) rfl (by decide) (List.mem_cons_of_mem _ fk_G_19) rfl d_G_take_1,
  mx_s_iload_n C d_G_take_4 rfl,
  mx_s_aload_n C d_G_take_5 rfl,
  mx_s_get (T := T_G) (N := 9) (k := 1) C (fun w h => List.mem_cons_of_mem _ (in_G w h)) rfl (by decide) (List.mem_cons_of_mem _ fk_G_9) rfl d_G_take_6,
  mx_s_iload_n C d_G_take_9 rfl,
  mx_s_iald C d_G_take_10,
  mx_s_iast C d_G_take_11,
  mx_s_lload C d_G_take_12,
  mx_s_lconst C d_G_take_14 (by decide),
  mx_s_lcmp C d_G_take_15,
  mx_s_if_ne C d_G_take_16 (by decide),
  mx_s_aload_n C d_G_take_19 rfl,
  mx_s_iload_n C d_G_take_20 rfl,
  mx_s_iconst C d_G_take_21 (by decide),
  mx_s_iadd C d_G_take_22,
  mx_s_cv1 C (m_G_keep l) rfl (cwV 1 C.2.2.2.2.1 (mx_gV (fun w h => List.mem_cons_of_mem _ h) mk_G_98 im_G_keep se_G_keep ic_G co_G_keep) rfl rfl rfl (by decide +kernel) ⟨by decide, by decide⟩) d_G_take_23 ⟨Nat.zero_le _, Nat.zero_le _⟩,
  mx_s_goto C d_G_take_26 (by decide),
  mx_s_aload_n C d_G_take_29 rfl,
  mx_s_iload_n C d_G_take_30 rfl,
  mx_s_iconst C d_G_take_31 (by decide),
  mx_s_iadd C d_G_take_32,
  mx_s_iload_n C d_G_take_33 rfl,
  mx_s_iload_n C d_G_take_34 rfl,
  mx_s_lload C d_G_take_35,
  mx_s_cv4 C (m_G_choose1 l) rfl (cwV 4 C.2.2.2.2.1 (mx_gV (fun w h => List.mem_cons_of_mem _ h) mk_G_53 im_G_choose se_G_choose ic_G co_G_choose) rfl rfl rfl (by decide +kernel) ⟨by decide, by decide⟩) d_G_take_37 ⟨Nat.zero_le _, Nat.zero_le _⟩,
  mx_s_ret C hr hlk d_G_take_40,
  trivial⟩
set_option maxRecDepth 20000 in
set_option maxHeartbeats 2000000 in
theorem m_G_take0 (l : Launch) : mx_M l y_G_take w_G_take rm_G_take0 sp_G_take0 := by
  intro zD ztc ztb zad As F P sz0 h
  obtain ⟨fc, kc, tot, wt, ft, cs, ka, hp, n, N, ch, rl, rn, l0, l, fl, pre, L, mo, f, rfl, h10, h11, h12, h13, h14, hfc, hwc, hrn, hvl, hsp, hl16, hll, hfl, hks, hpl, hpc, hmo, hf, hmd, hP⟩ := h
  refine mx_run (cc := c_G_take) (maxL := 6) (ret := none) (tab := t_G_take0  P) (by decide) rfl zD ztc ztb zad _ F P sz0 (Nat.le_of_ble_eq_true rfl) (fun p e s m args below meth c C hr hlk => a_G_take0  C hr hlk) ?_
  intro Rr go
  have hF : F = (mx_put (mx_put (mx_put (mx_put (mx_put F 11 (mx_ia 60 ft)) 12 (mx_la 60 hp)) 13 (mx_ia 4 cs)) 14 (mx_ia 800 ka)) 10 (e_G (nI fc) (nI kc) tot wt)) := by rw [mx_self h11, mx_self h12, mx_self h13, mx_self h14, mx_self h10]
  have hY : (mx_put (mx_put F 11 (mx_ia 60 ft)) 12 (mx_la 60 hp)) = F := by rw [mx_self h11, mx_self h12]

  rw [hF]
  have hkc := ks_le hks
  have hspl : spl rl rn l := fun u hu h => Nat.le_zero.mp (by rw [← hsp u hu h]; exact hll u hu)
  have hll2 : ∀ u, u < 26 → subw N ch l (fl f) u ≤ l0 u := fun u hu => Nat.le_trans (Nat.sub_le _ _) (hll u hu)
  have hsp2 : spl rl rn (subw N ch l (fl f)) := fun u hu h => Nat.le_zero.mp (by rw [← hsp u hu h]; exact hll2 u hu)
  have hpl2 : (pre ++ [fl f]).length = 1 := by rw [List.length_append, hpl]; rfl
  have hpc2 := pre_s (w := fl f) hpl hpc
  have h63 : enc (al rl rn (subw N ch l (fl f))) 12 < 2 ^ 63 := enc63 (fun j _ => Nat.lt_of_lt_of_le (al_lt (by decide) hvl (fun u hu => Nat.lt_of_le_of_lt (hll2 u hu) (hl16 u hu)) j) (show 16 ≤ 32 by decide))
  refine go rfl ⟨_, rfl, ?_⟩
  refine go rfl ⟨_, _, _, _, rfl, rfl, rfl, ?_⟩
  refine go rfl ⟨_, rfl, ?_⟩
  refine go rfl ⟨_, rfl, ?_⟩
  refine go rfl ⟨_, _, _, _, rfl, rfl, rfl, ?_⟩
  refine go rfl ⟨_, rfl, ?_⟩
  refine go rfl ⟨_, _, _, _, _, rfl, rfl, (vp_in_nI (show f < 60 by omega) (by omega)), ?_⟩
  rw [nI_clamp (show f < 2 ^ 31 by omega), (hfl.1 f hf).1]
  refine go rfl ⟨_, _, _, _, _, _, rfl, rfl, (vp_in_nI (show 0 < 4 by omega) (by omega)), ?_⟩
  rw [nI_clamp (show 0 < 2 ^ 31 by omega), mx_pc _ _ _ (show (13 : Nat) ≠ 10 by decide), mx_pc _ _ _ (show (13 : Nat) ≠ 14 by decide), mx_pp]
  refine go rfl ⟨_, rfl, ?_⟩
  refine go rfl ?_
  refine go rfl ⟨_, _, _, rfl, ?_⟩
  refine go rfl ⟨_, _, rfl, fun c => ?_, fun c => ?_⟩
  rotate_left
  · have hz : empl (subw N ch l (fl f)) := (al_emp hvl hrn hsp2).mp ((pk_lEQ h63 (show 0 < 2 ^ 63 by decide)).mp (lcmpE.mp c))
    rw [cif_y hz] at hP
    refine go rfl ⟨_, rfl, ?_⟩
    refine go rfl ⟨_, rfl, ?_⟩
    refine go rfl ?_
    refine go rfl ⟨_, _, _, rfl, ?_⟩
    rw [nI_add]
    refine go rfl ⟨_, _, _, _, rfl, rfl, rfl, rfl, rfl, ⟨_, kc, 0 + 1, _, _, _, _, rfl, rfl, rfl, rfl, hkc, by omega, fun hk2 ka' hkp => ?_, fun hk2 => ?_⟩⟩
    · rw [mx_pc _ _ _ (show (14 : Nat) ≠ 10 by decide), mx_pp, mx_pp]
      refine go rfl ?_
      refine go rfl ⟨rfl, rfl, rfl, ?_⟩
      rw [hY]
      refine hP (kc + 1) _ _ ka' ?_ (fun i hi => pk_un (by omega))
      exact ks_keep (g := pre ++ [fl f]) hks hk2 (fun i hi => hpc2 i (by rw [hpl2] at hi; exact hi)) (by rw [hpl2]; exact hkp)
    · rw [mx_pp]
      refine go rfl ?_
      refine go rfl ⟨rfl, rfl, rfl, ?_⟩
      rw [hY]
      subst hk2
      exact hP 200 _ _ ka (ks_full hks) (fun i hi => pk_un (by omega))
  have hz : ¬ empl (subw N ch l (fl f)) := fun q => c (lcmpE.mpr (by rw [(al_emp hvl hrn hsp2).mpr q]; rfl))
  rw [cif_n hz, map_pre] at hP
  refine go rfl ⟨_, rfl, ?_⟩
  refine go rfl ⟨_, rfl, ?_⟩
  refine go rfl ?_
  refine go rfl ⟨_, _, _, rfl, ?_⟩
  rw [nI_add]
  refine go rfl ⟨_, rfl, ?_⟩
  refine go rfl ⟨_, rfl, ?_⟩
  refine go rfl ⟨_, rfl, ?_⟩
  refine go rfl ⟨_, _, _, _, _, _, _, rfl, rfl, rfl, rfl, rfl, ⟨fc, kc, tot, wt, ft, _, ka, hp, n, N, ch, rl, rn, l0, subw N ch l (fl f), fl, pre ++ [fl f], L, mo, f, rfl, rfl, rfl, rfl, rfl, rfl, hfc, hwc, hrn, hvl, hsp, hl16, hll2, hfl, hks, hpl2, hpc2, hmo, by omega, fun kc2 tot2 cs2 ka2 q q2 => ?_⟩⟩
  rw [mx_pc _ _ _ (show (13 : Nat) ≠ 10 by decide), mx_pc _ _ _ (show (13 : Nat) ≠ 14 by decide), mx_pp, mx_pc _ _ _ (show (14 : Nat) ≠ 10 by decide), mx_pp, mx_pp]
  refine go rfl ⟨rfl, rfl, rfl, ?_⟩
  rw [hY]
  refine hP kc2 tot2 cs2 ka2 ?_ (fun i hi => ?_)
  · rw [pos_y hf] at q
    exact q
  · rw [q2 i (by omega), pk_un (by omega)]
-- LadderWords$Gatherings.choose(IIIJ)V
def sp_G_choose0 : mx_Sp := fun As F P => ∃ (fc kc : Nat) (tot wt : Int32) (ft cs ka : Nat → Int32) (hp : Nat → Int64) (n : Nat) (N : Nat → Nat) (ch : Nat → Nat → Int32) (rl : Nat → Int32) (rn : Nat) (l0 l : Nat → Nat) (fl : Nat → Nat) (pre : List Nat) (L : List (List Nat)) (mo f : Nat), As = [mx_r 10, mx_i (nI 0), mx_i (nI mo), mx_i (nI f), mx_l (lN (enc (al rl rn l) 12))] ∧ F 10 = some (e_G (nI fc) (nI kc) tot wt) ∧ F 11 = some (mx_ia 60 ft) ∧ F 12 = some (mx_la 60 hp) ∧ F 13 = some (mx_ia 4 cs) ∧ F 14 = some (mx_ia 800 ka) ∧ fc ≤ 60 ∧ wch n N ch ∧ rn ≤ 12 ∧ (∀ i, i < rn → vl (rl i)) ∧ spl rl rn l0 ∧ (∀ u, u < 26 → l0 u < 16) ∧ (∀ u, u < 26 → l u ≤ l0 u) ∧ fli n N ch rl rn l0 n fc fl ft hp ∧ ks L kc tot ka ∧ pre.length = 0 ∧ (∀ i, i < 0 → cs i = nI (pre.getD i 0)) ∧ mo ≤ 4 ∧ f ≤ fc ∧ ∀ (kc' : Nat) (tot' : Int32) cs' ka', ks (L ++ (ge N ch (mo - 0) (pos n fc fl f) (n - pos n fc fl f) l).map (pre ++ ·)) kc' tot' ka' → (∀ i, i < 0 → cs' i = cs i) → P none (mx_put (mx_put (mx_put F 13 (mx_ia 4 cs')) 14 (mx_ia 800 ka')) 10 (e_G (nI fc) (nI kc') tot' wt))
abbrev rm_G_choose0 : Room := { frames := 110, cells := 0, slots := 0, locals := 2200 }
def t_G_choose0  (P : Option mx_V → mx_F → Prop) : List (Nat × mx_O) := [
  (0, mx_iload 1 1),
  (1, mx_iload 2 2),
  (2, mx_ic_ge 10 5),
  (5, mx_iload 1 6),
  (6, mx_push (.inl (nI 4)) 7),
  (7, mx_ic_lt 11 10),
  (10, mx_ret P),
  (11, mx_iload 3 12),
  (12, mx_istore 6 14),
  (14, mx_iload 6 16),
  (16, mx_aload 0 17),
  (17, mx_get 0 3 20),
  (20, mx_ic_ge 62 23),
  (23, mx_aload 0 24),
  (24, mx_get 0 2 27),
  (27, mx_iload 6 29),
  (29, mx_lald 30),
  (30, mx_lload 4 32),
  (32, mx_cs2 sp_G_isWithin 0 0 35),
  (35, mx_if_eq 56 38),
  (38, mx_aload 0 39),
  (39, mx_iload 1 40),
  (40, mx_iload 2 41),
  (41, mx_iload 6 43),
  (43, mx_lload 4 45),
  (45, mx_aload 0 46),
  (46, mx_get 0 2 49),
  (49, mx_iload 6 51),
  (51, mx_lald 52),
  (52, mx_lsub 53),
  (53, mx_cv4 0 sp_G_take0 0 0 56),
  (56, mx_iinc 6 (nI 1) 59),
  (59, mx_goto 14),
  (62, mx_ret P)]
set_option maxRecDepth 20000 in
theorem a_G_choose0  {p : Program} {l : Launch} {e : Env} {s : State} {m : MethodId} {args : Array Value} {below : List Frame} {meth : Method} {c : Code} {D : va_G} {tc : Nat → ClassId} {tb : Nat → Nat} {sz : Nat} {a0 : Nat → Nat} {G : mx_F} {P : Option mx_V → mx_F → Prop}  (C : mx_C p s m args c c_G_choose y_G_choose.cls w_G_choose D tc tb (mx_A a0 G sz) 7 (mx_Ok0 a0 G)) (hr : meth.sig.returnType = none) (hlk : meth.locks = false) : mx_all (mx_W p l e rm_G_choose0 s m args below meth c (MQ below (mx_Q D tc tb a0 G sz P) args s 0 0 (mx_A a0 G sz)) D tc tb (mx_A a0 G sz) 7 (mx_Ok0 a0 G)) (t_G_choose0  P) :=
  ⟨mx_s_iload_n C d_G_choose_0 rfl,
  mx_s_iload_n C d_G_choose_1 rfl,
  mx_s_ic_ge C d_G_choose_2 (by decide),
  mx_s_iload_n C d_G_choose_5 rfl,
  mx_s_iconst C d_G_choose_6 (by decide),
  mx_s_ic_lt C d_G_choose_7 (by decide),
  mx_s_ret C hr hlk d_G_choose_10,
  mx_s_iload_n C d_G_choose_11 rfl,
  mx_s_istore C d_G_choose_12 (by decide),
  mx_s_iload C d_G_choose_14,
  mx_s_aload_n C d_G_choose_16 rfl,
  mx_s_get (T := T_G) (N := 9) (k := 3) C (fun w h => List.mem_cons_of_mem _ (in_G w h)) rfl (by decide) (List.mem_cons_of_mem _ fk_G_75) rfl d_G_choose_17,
  mx_s_ic_ge C d_G_choose_20 (by decide),
  mx_s_aload_n C d_G_choose_23 rfl,
  mx_s_get (T := T_G) (N := 9) (k := 2) C (fun w h => List.mem_cons_of_mem _ (in_G w h)) rfl (by decide) (List.mem_cons_of_mem _ fk_G_15) rfl d_G_choose_24,
  mx_s_iload C d_G_choose_27,
  mx_s_lald C d_G_choose_29,
  mx_s_lload C d_G_choose_30,
  mx_s_cs2 C (m_G_isWithin l) (cwS 2 C.2.2.2.2.1 (mx_gS (fun w h => List.mem_cons_of_mem _ h) mk_G_84 sm_G_isWithin ic_G co_G_isWithin) rfl rfl rfl (by decide +kernel) ⟨by decide, by decide⟩) d_G_choose_32 ⟨Nat.zero_le _, Nat.zero_le _⟩,
  mx_s_if_eq C d_G_choose_35 (by decide),
  mx_s_aload_n C d_G_choose_38 rfl,
  mx_s_iload_n C d_G_choose_39 rfl,
  mx_s_iload_n C d_G_choose_40 rfl,
  mx_s_iload C d_G_choose_41,
  mx_s_lload C d_G_choose_43,
  mx_s_aload_n C d_G_choose_45 rfl,
  mx_s_get (T := T_G) (N := 9) (k := 2) C (fun w h => List.mem_cons_of_mem _ (in_G w h)) rfl (by decide) (List.mem_cons_of_mem _ fk_G_15) rfl d_G_choose_46,
  mx_s_iload C d_G_choose_49,
  mx_s_lald C d_G_choose_51,
  mx_s_lsub C d_G_choose_52,
  mx_s_cv4 C (m_G_take0 l) rfl (cwV 4 C.2.2.2.2.1 (mx_gV (fun w h => List.mem_cons_of_mem _ h) mk_G_95 im_G_take se_G_take ic_G co_G_take) rfl rfl rfl (by decide +kernel) ⟨by decide, by decide⟩) d_G_choose_53 ⟨Nat.zero_le _, Nat.zero_le _⟩,
  mx_s_iinc C d_G_choose_56 (by decide) (by decide),
  mx_s_goto C d_G_choose_59 (by decide),
  mx_s_ret C hr hlk d_G_choose_62,
  trivial⟩
set_option maxRecDepth 20000 in
set_option maxHeartbeats 2000000 in
theorem m_G_choose0 (l : Launch) : mx_M l y_G_choose w_G_choose rm_G_choose0 sp_G_choose0 := by
  intro zD ztc ztb zad As F P sz0 h
  obtain ⟨fc, kc, tot, wt, ft, cs, ka, hp, n, N, ch, rl, rn, l0, l, fl, pre, L, mo, f, rfl, h10, h11, h12, h13, h14, hfc, hwc, hrn, hvl, hsp, hl16, hll, hfl, hks, hpl, hpc, hmo, hf, hP⟩ := h
  refine mx_run (cc := c_G_choose) (maxL := 7) (ret := none) (tab := t_G_choose0  P) (by decide) rfl zD ztc ztb zad _ F P sz0 (Nat.le_of_ble_eq_true rfl) (fun p e s m args below meth c C hr hlk => a_G_choose0  C hr hlk) ?_
  intro Rr go
  have hF : F = (mx_put (mx_put (mx_put (mx_put (mx_put F 11 (mx_ia 60 ft)) 12 (mx_la 60 hp)) 13 (mx_ia 4 cs)) 14 (mx_ia 800 ka)) 10 (e_G (nI fc) (nI kc) tot wt)) := by rw [mx_self h11, mx_self h12, mx_self h13, mx_self h14, mx_self h10]
  have hY : (mx_put (mx_put F 11 (mx_ia 60 ft)) 12 (mx_la 60 hp)) = F := by rw [mx_self h11, mx_self h12]

  have done : mo ≤ 0 → Rr 10 (mx_en [mx_r 10, mx_i (nI 0), mx_i (nI mo), mx_i (nI f), mx_l (lN (enc (al rl rn l) 12))] 7) [] F 0 0 := by
    intro hle
    refine go rfl ⟨rfl, rfl, rfl, ?_⟩
    have h := hP kc tot cs ka (by rw [show mo - 0 = 0 by omega]; exact (by rw [show (ge N ch 0 (pos n fc fl f) (n - pos n fc fl f) l).map (pre ++ ·) = [] from rfl, List.append_nil]; exact hks)) (fun _ _ => rfl)
    rw [mx_self h13, mx_self h14, mx_self h10] at h
    exact h

  rcases Nat.lt_or_ge 0 mo with hd | hd
  rotate_left
  · refine go rfl ⟨_, rfl, ?_⟩
    refine go rfl ⟨_, rfl, ?_⟩
    refine go rfl ⟨_, _, _, rfl, fun c => ?_, fun c => ?_⟩
    · exact done hd
    · exact absurd (nI_le hd (by omega)) c
  refine go rfl ⟨_, rfl, ?_⟩
  refine go rfl ⟨_, rfl, ?_⟩
  refine go rfl ⟨_, _, _, rfl, fun c => ?_, fun c => ?_⟩
  · exact absurd ((nI_leI (by omega) (by omega)).mp c) (by omega)
  refine go rfl ⟨_, rfl, ?_⟩
  refine go rfl ?_
  refine go rfl ⟨_, _, _, rfl, fun c2 => ?_, fun c2 => ?_⟩
  rotate_left
  · exact absurd (nI_lt (show 0 < 4 by omega) (by omega)) c2
  rw [hF]
  have la16 : ∀ j, j < 12 → al rl rn l j < 16 := fun j _ => al_lt (by decide) hvl (fun u hu => Nat.lt_of_le_of_lt (hll u hu) (hl16 u hu)) j
  have hspl : spl rl rn l := fun u hu h => Nat.le_zero.mp (by rw [← hsp u hu h]; exact hll u hu)
  have loop : ∀ (m v kc' : Nat) (tot' : Int32) (cs' ka' : Nat → Int32) (L' : List (List Nat)), v + m = fc → ks L' kc' tot' ka' → (∀ i, i < 0 → cs' i = cs i) → L ++ (ge N ch (mo - 0) (pos n fc fl f) (n - pos n fc fl f) l).map (pre ++ ·) = L' ++ (ge N ch (mo - 0) (pos n fc fl v) (n - pos n fc fl v) l).map (pre ++ ·) → Rr 14 [some (mx_r 10), some (mx_i (nI 0)), some (mx_i (nI mo)), some (mx_i (nI f)), some (mx_l (lN (enc (al rl rn l) 12))), none, some (mx_i (nI v))] [] (mx_put (mx_put (mx_put (mx_put (mx_put F 11 (mx_ia 60 ft)) 12 (mx_la 60 hp)) 13 (mx_ia 4 cs')) 14 (mx_ia 800 ka')) 10 (e_G (nI fc) (nI kc') tot' wt)) 0 0 := by
    intro m
    induction m with
    | zero =>
      intro v kc' tot' cs' ka' L' hm hk' hc' hL
      refine go rfl ⟨_, rfl, ?_⟩
      refine go rfl ⟨_, rfl, ?_⟩
      refine go rfl ⟨_, _, _, _, rfl, rfl, rfl, ?_⟩
      refine go rfl ⟨_, _, _, rfl, fun e => ?_, fun e => ?_⟩
      · refine go rfl ⟨rfl, rfl, rfl, ?_⟩
        rw [hY]
        refine hP kc' tot' cs' ka' ?_ hc'
        rw [hL, pos_n (show ¬ v < fc by omega), Nat.sub_self, ge_0]
        show ks (L' ++ []) _ _ _
        rw [List.append_nil]
        exact hk'
      · exact absurd (nI_le (by omega) (by omega)) e
    | succ m ih =>
      intro v kc' tot' cs' ka' L' hm hk' hc' hL
      have hvf : v < fc := by omega
      obtain ⟨b1, b2, b3, b4, b5⟩ := hfl.1 v hvf
      have hNw := hwc.2.1 (fl v) b2
      have hw16 : ∀ j, j < 12 → al rl rn (fun u => wc (ch (fl v)) u (N (fl v))) j < 16 := fun j _ => al_lt (by decide) hvl (fun u hu => by have := wc_le (ch (fl v)) u (N (fl v)); omega) j
      have hL := hL.trans (show _ = L' ++ (ge N ch (mo - 1 + 1) (fl v) (n - (fl v + 1) + 1) l).map (pre ++ ·) by rw [pos_y hvf, show n - (fl v + 1) + 1 = n - fl v by omega, show mo - 1 + 1 = mo - 0 by omega])
      refine go rfl ⟨_, rfl, ?_⟩
      refine go rfl ⟨_, rfl, ?_⟩
      refine go rfl ⟨_, _, _, _, rfl, rfl, rfl, ?_⟩
      refine go rfl ⟨_, _, _, rfl, fun e => ?_, fun e => ?_⟩
      · exact absurd ((nI_leI (by omega) (by omega)).mp e) (by omega)
      refine go rfl ⟨_, rfl, ?_⟩
      refine go rfl ⟨_, _, _, _, rfl, rfl, rfl, ?_⟩
      refine go rfl ⟨_, rfl, ?_⟩
      refine go rfl ⟨_, _, _, _, _, rfl, rfl, (vp_in_nI (show v < 60 by omega) (by omega)), ?_⟩
      rw [nI_clamp (by omega), b5]
      refine go rfl ⟨_, rfl, ?_⟩
      refine go rfl ⟨_, _, _, rfl, rfl, rfl, rfl, ⟨_, _, rfl, la16, hw16, fun hy => ?_, fun hy => ?_⟩⟩
      · have hft := (fit_al hvl hrn b4).mp hy
        have esub : lN (enc (al rl rn l) 12) - lN (enc (al rl rn (fun u => wc (ch (fl v)) u (N (fl v)))) 12) = lN (enc (al rl rn (subw N ch l (fl v))) 12) := by
          have e1 := enc_sub (k := 12) hy
          rw [lN_sub (by omega)]
          congr 1
          rw [enc_c (a := al rl rn (subw N ch l (fl v))) (b := fun j => al rl rn l j - al rl rn (fun u => wc (ch (fl v)) u (N (fl v))) j) (fun j _ => al_sub j)]
          omega
        rw [ge_t hft, List.map_append, ← List.append_assoc] at hL
        refine go rfl ⟨_, _, rfl, fun e2 => ?_, fun e2 => ?_⟩
        · exact absurd e2 (by decide)
        refine go rfl ⟨_, rfl, ?_⟩
        refine go rfl ⟨_, rfl, ?_⟩
        refine go rfl ⟨_, rfl, ?_⟩
        refine go rfl ⟨_, rfl, ?_⟩
        refine go rfl ⟨_, rfl, ?_⟩
        refine go rfl ⟨_, rfl, ?_⟩
        refine go rfl ⟨_, _, _, _, rfl, rfl, rfl, ?_⟩
        refine go rfl ⟨_, rfl, ?_⟩
        refine go rfl ⟨_, _, _, _, _, rfl, rfl, (vp_in_nI (show v < 60 by omega) (by omega)), ?_⟩
        rw [nI_clamp (by omega), b5]
        refine go rfl ⟨_, _, _, rfl, ?_⟩
        rw [esub]
        refine go rfl ⟨_, _, _, _, _, _, _, rfl, rfl, rfl, rfl, rfl, ⟨fc, kc', tot', wt, ft, cs', ka', hp, n, N, ch, rl, rn, l0, l, fl, pre, L', mo, v, rfl, rfl, rfl, rfl, rfl, rfl, hfc, hwc, hrn, hvl, hsp, hl16, hll, hfl, hk', hpl, fun i hi => (hc' i hi).trans (hpc i hi), hmo, hvf, hd, fun kc2 tot2 cs2 ka2 q q2 => ?_⟩⟩
        rw [mx_pc _ _ _ (show (13 : Nat) ≠ 10 by decide), mx_pc _ _ _ (show (13 : Nat) ≠ 14 by decide), mx_pp, mx_pc _ _ _ (show (14 : Nat) ≠ 10 by decide), mx_pp, mx_pp]
        refine go rfl ⟨_, rfl, ?_⟩
        refine go rfl ?_
        rw [nI_add]
        refine ih (v + 1) kc2 tot2 cs2 ka2 _ (by omega) q (fun i hi => (q2 i hi).trans (hc' i hi)) ?_
        rw [hL, show n - (fl v + 1) + 1 = n - fl v by omega, show mo - 1 + 1 = mo - 0 by omega, pos_skip hfl hll hvf]
      · have hft : ¬ fitw N ch l (fl v) := fun h => hy ((fit_al hvl hrn b4).mpr h)
        refine go rfl ⟨_, _, rfl, fun e2 => ?_, fun e2 => ?_⟩
        · refine go rfl ⟨_, rfl, ?_⟩
          refine go rfl ?_
          rw [nI_add]
          refine ih (v + 1) kc' tot' cs' ka' L' (by omega) hk' hc' ?_
          rw [hL, ge_n hft, show mo - 1 + 1 = mo - 0 by omega, pos_skip hfl hll hvf]
        · exact absurd rfl e2
  refine go rfl ⟨_, rfl, ?_⟩
  refine go rfl ⟨_, _, rfl, ?_⟩
  exact loop (fc - f) f kc tot cs ka L (by omega) hks (fun _ _ => rfl) rfl
-- LadderWords$Gatherings.find(LLadderWords$Row;I)I
def sp_G_find : mx_Sp := fun As F P => ∃ (n : Nat) (N : Nat → Nat) (ch : Nat → Nat → Int32) (S : Nat → Nat) (lt st : Nat → Int32) (rn : Nat) (rl : Nat → Int32) (fc kc : Nat) (tot wt : Int32) (ft cs ka : Nat → Int32) (hp : Nat → Int64) (x : Int32), As = [mx_r 10, mx_r 1, mx_i x] ∧ F 1 = some (e_R rn) ∧ F 2 = some (mx_ia 12 rl) ∧ rn ≤ 12 ∧ (∀ i, i < rn → vl (rl i)) ∧ F 3 = some (e_W n) ∧ F 4 = some (mx_ia 360 lt) ∧ F 5 = some (mx_ia 61 st) ∧ wst n N ch S lt st ∧ F 10 = some (e_G (nI fc) (nI kc) tot wt) ∧ F 11 = some (mx_ia 60 ft) ∧ F 12 = some (mx_la 60 hp) ∧ F 13 = some (mx_ia 4 cs) ∧ F 14 = some (mx_ia 800 ka) ∧ fc ≤ 60 ∧ kc ≤ 200 ∧ ((¬ ∃ mo : Nat, 1 ≤ mo ∧ mo ≤ 4 ∧ x = nI mo) → P (some (mx_i (-1))) F) ∧ (∀ mo : Nat, ∀ (fc' kc' : Nat) (tot' : Int32) ft' hp' cs' ka', 1 ≤ mo → mo ≤ 4 → x = nI mo → fc' ≤ 60 → ks (ge N ch mo 0 n (fun u => wc rl u rn)) kc' tot' ka' → P (some (mx_i tot')) (mx_put (mx_put (mx_put (mx_put (mx_put F 11 (mx_ia 60 ft')) 12 (mx_la 60 hp')) 13 (mx_ia 4 cs')) 14 (mx_ia 800 ka')) 10 (e_G (nI fc') (nI kc') tot' (nI n))))
theorem d_G_find_0 : decode c_G_find 0 = .ok (.iload_n 2, 1) := by decide +kernel
theorem d_G_find_1 : decode c_G_find 1 = .ok (.iconst 1, 1) := by decide +kernel
theorem d_G_find_2 : decode c_G_find 2 = .ok (.if_icmp .lt 8, 3) := by decide +kernel
theorem d_G_find_5 : decode c_G_find 5 = .ok (.iload_n 2, 1) := by decide +kernel
theorem d_G_find_6 : decode c_G_find 6 = .ok (.iconst 4, 1) := by decide +kernel
theorem d_G_find_7 : decode c_G_find 7 = .ok (.if_icmp .le 5, 3) := by decide +kernel
theorem d_G_find_10 : decode c_G_find 10 = .ok (.iconst (-1), 1) := by decide +kernel
theorem d_G_find_11 : decode c_G_find 11 = .ok (.ireturn, 1) := by decide +kernel
theorem d_G_find_12 : decode c_G_find 12 = .ok (.aload_n 0, 1) := by decide +kernel
theorem d_G_find_13 : decode c_G_find 13 = .ok (.iconst 0, 1) := by decide +kernel
theorem d_G_find_14 : decode c_G_find 14 = .ok (.putfield 29, 3) := by decide +kernel
theorem d_G_find_17 : decode c_G_find 17 = .ok (.aload_n 0, 1) := by decide +kernel
theorem d_G_find_18 : decode c_G_find 18 = .ok (.iconst 0, 1) := by decide +kernel
theorem d_G_find_19 : decode c_G_find 19 = .ok (.putfield 33, 3) := by decide +kernel
theorem d_G_find_22 : decode c_G_find 22 = .ok (.aload_n 0, 1) := by decide +kernel
theorem d_G_find_23 : decode c_G_find 23 = .ok (.aload_n 0, 1) := by decide +kernel
theorem d_G_find_24 : decode c_G_find 24 = .ok (.getfield 25, 3) := by decide +kernel
theorem d_G_find_27 : decode c_G_find 27 = .ok (.invokevirtual 36, 3) := by decide +kernel
theorem d_G_find_30 : decode c_G_find 30 = .ok (.putfield 42, 3) := by decide +kernel
theorem d_G_find_33 : decode c_G_find 33 = .ok (.aload_n 1, 1) := by decide +kernel
theorem d_G_find_34 : decode c_G_find 34 = .ok (.invokestatic 45, 3) := by decide +kernel
theorem d_G_find_37 : decode c_G_find 37 = .ok (.lstore_n 3, 1) := by decide +kernel
theorem d_G_find_38 : decode c_G_find 38 = .ok (.aload_n 0, 1) := by decide +kernel
theorem d_G_find_39 : decode c_G_find 39 = .ok (.aload_n 1, 1) := by decide +kernel
theorem d_G_find_40 : decode c_G_find 40 = .ok (.lload_n 3, 1) := by decide +kernel
theorem d_G_find_41 : decode c_G_find 41 = .ok (.invokevirtual 49, 3) := by decide +kernel
theorem d_G_find_44 : decode c_G_find 44 = .ok (.aload_n 0, 1) := by decide +kernel
theorem d_G_find_45 : decode c_G_find 45 = .ok (.iconst 0, 1) := by decide +kernel
theorem d_G_find_46 : decode c_G_find 46 = .ok (.iload_n 2, 1) := by decide +kernel
theorem d_G_find_47 : decode c_G_find 47 = .ok (.iconst 0, 1) := by decide +kernel
theorem d_G_find_48 : decode c_G_find 48 = .ok (.lload_n 3, 1) := by decide +kernel
theorem d_G_find_49 : decode c_G_find 49 = .ok (.invokevirtual 53, 3) := by decide +kernel
theorem d_G_find_52 : decode c_G_find 52 = .ok (.aload_n 0, 1) := by decide +kernel
theorem d_G_find_53 : decode c_G_find 53 = .ok (.getfield 33, 3) := by decide +kernel
theorem d_G_find_56 : decode c_G_find 56 = .ok (.ireturn, 1) := by decide +kernel
abbrev w_G_find : List Cond := mx_ws y_G_find c_G_find 5 (some .int)
abbrev rm_G_find : Room := { frames := 120, cells := 0, slots := 0, locals := 2400 }
def t_G_find  (P : Option mx_V → mx_F → Prop) : List (Nat × mx_O) := [
  (0, mx_iload 2 1),
  (1, mx_push (.inl (nI 1)) 2),
  (2, mx_ic_lt 10 5),
  (5, mx_iload 2 6),
  (6, mx_push (.inl (nI 4)) 7),
  (7, mx_ic_le 12 10),
  (10, mx_push (.inl (-1)) 11),
  (11, mx_iret P),
  (12, mx_aload 0 13),
  (13, mx_push (.inl (nI 0)) 14),
  (14, mx_puti 0 6 17),
  (17, mx_aload 0 18),
  (18, mx_push (.inl (nI 0)) 19),
  (19, mx_puti 0 7 22),
  (22, mx_aload 0 23),
  (23, mx_aload 0 24),
  (24, mx_get 0 0 27),
  (27, mx_cv0 5 sp_W_count 0 0 30),
  (30, mx_puti 0 8 33),
  (33, mx_aload 1 34),
  (34, mx_cs1 sp_G_heapOfRow 0 0 37),
  (37, mx_lstore 3 38),
  (38, mx_aload 0 39),
  (39, mx_aload 1 40),
  (40, mx_lload 3 41),
  (41, mx_cv2 0 sp_G_listFitting 0 0 44),
  (44, mx_aload 0 45),
  (45, mx_push (.inl (nI 0)) 46),
  (46, mx_iload 2 47),
  (47, mx_push (.inl (nI 0)) 48),
  (48, mx_lload 3 49),
  (49, mx_cv4 0 sp_G_choose0 0 0 52),
  (52, mx_aload 0 53),
  (53, mx_get 0 7 56),
  (56, mx_iret P)]
set_option maxRecDepth 20000 in
theorem a_G_find  {p : Program} {l : Launch} {e : Env} {s : State} {m : MethodId} {args : Array Value} {below : List Frame} {meth : Method} {c : Code} {D : va_G} {tc : Nat → ClassId} {tb : Nat → Nat} {sz : Nat} {a0 : Nat → Nat} {G : mx_F} {P : Option mx_V → mx_F → Prop}  (C : mx_C p s m args c c_G_find y_G_find.cls w_G_find D tc tb (mx_A a0 G sz) 5 (mx_Ok0 a0 G)) (hr : meth.sig.returnType = (some .int)) (hlk : meth.locks = false) : mx_all (mx_W p l e rm_G_find s m args below meth c (MQ below (mx_Q D tc tb a0 G sz P) args s 0 0 (mx_A a0 G sz)) D tc tb (mx_A a0 G sz) 5 (mx_Ok0 a0 G)) (t_G_find  P) :=
  ⟨mx_s_iload_n C d_G_find_0 rfl,
  mx_s_iconst C d_G_find_1 (by decide),
  mx_s_ic_lt C d_G_find_2 (by decide),
  mx_s_iload_n C d_G_find_5 rfl,
  mx_s_iconst C d_G_find_6 (by decide),
  mx_s_ic_le C d_G_find_7 (by decide),
  mx_s_iconst C d_G_find_10 (by decide),
  mx_s_iret C hr hlk d_G_find_11,
  mx_s_aload_n C d_G_find_12 rfl,
  mx_s_iconst C d_G_find_13 (by decide),
  mx_s_puti (T := T_G) (N := 9) (k := 6) C (fun w h => List.mem_cons_of_mem _ (in_G w h)) rfl ty_G ok_G nm_G (by decide) (List.mem_cons_of_mem _ fk_G_29) rfl rfl (ok_G 6 (by decide)) d_G_find_14,
  mx_s_aload_n C d_G_find_17 rfl,
  mx_s_iconst C d_G_find_18 (by decide),
  mx_s_puti (T := T_G) (N := 9) (k := 7) C (fun w h => List.mem_cons_of_mem _ (in_G w h)) rfl ty_G ok_G nm_G (by decide) (List.mem_cons_of_mem _ fk_G_33) rfl rfl (ok_G 7 (by decide)) d_G_find_19,
  mx_s_aload_n C d_G_find_22 rfl,
  mx_s_aload_n C d_G_find_23 rfl,
  mx_s_get (T := T_G) (N := 9) (k := 0) C (fun w h => List.mem_cons_of_mem _ (in_G w h)) rfl (by decide) (List.mem_cons_of_mem _ fk_G_25) rfl d_G_find_24,
  mx_s_cv0 C (m_W_count l) rfl (cwV 0 C.2.2.2.2.1 (mx_gV (fun w h => List.mem_cons_of_mem _ h) mk_G_36 im_W_count se_W_count ic_W co_W_count) rfl rfl rfl (by decide +kernel) ⟨by decide, by decide⟩) d_G_find_27 ⟨Nat.zero_le _, Nat.zero_le _⟩,
  mx_s_puti (T := T_G) (N := 9) (k := 8) C (fun w h => List.mem_cons_of_mem _ (in_G w h)) rfl ty_G ok_G nm_G (by decide) (List.mem_cons_of_mem _ fk_G_42) rfl rfl (ok_G 8 (by decide)) d_G_find_30,
  mx_s_aload_n C d_G_find_33 rfl,
  mx_s_cs1 C (m_G_heapOfRow l) (cwS 1 C.2.2.2.2.1 (mx_gS (fun w h => List.mem_cons_of_mem _ h) mk_G_45 sm_G_heapOfRow ic_G co_G_heapOfRow) rfl rfl rfl (by decide +kernel) ⟨by decide, by decide⟩) d_G_find_34 ⟨Nat.zero_le _, Nat.zero_le _⟩,
  mx_s_lstore_n C d_G_find_37 rfl (by decide),
  mx_s_aload_n C d_G_find_38 rfl,
  mx_s_aload_n C d_G_find_39 rfl,
  mx_s_lload_n C d_G_find_40 rfl,
  mx_s_cv2 C (m_G_listFitting l) rfl (cwV 2 C.2.2.2.2.1 (mx_gV (fun w h => List.mem_cons_of_mem _ h) mk_G_49 im_G_listFitting se_G_listFitting ic_G co_G_listFitting) rfl rfl rfl (by decide +kernel) ⟨by decide, by decide⟩) d_G_find_41 ⟨Nat.zero_le _, Nat.zero_le _⟩,
  mx_s_aload_n C d_G_find_44 rfl,
  mx_s_iconst C d_G_find_45 (by decide),
  mx_s_iload_n C d_G_find_46 rfl,
  mx_s_iconst C d_G_find_47 (by decide),
  mx_s_lload_n C d_G_find_48 rfl,
  mx_s_cv4 C (m_G_choose0 l) rfl (cwV 4 C.2.2.2.2.1 (mx_gV (fun w h => List.mem_cons_of_mem _ h) mk_G_53 im_G_choose se_G_choose ic_G co_G_choose) rfl rfl rfl (by decide +kernel) ⟨by decide, by decide⟩) d_G_find_49 ⟨Nat.zero_le _, Nat.zero_le _⟩,
  mx_s_aload_n C d_G_find_52 rfl,
  mx_s_get (T := T_G) (N := 9) (k := 7) C (fun w h => List.mem_cons_of_mem _ (in_G w h)) rfl (by decide) (List.mem_cons_of_mem _ fk_G_33) rfl d_G_find_53,
  mx_s_iret C hr hlk d_G_find_56,
  trivial⟩
set_option maxRecDepth 20000 in
set_option maxHeartbeats 2000000 in
theorem m_G_find (l : Launch) : mx_M l y_G_find w_G_find rm_G_find sp_G_find := by
  intro zD ztc ztb zad As F P sz0 h
  obtain ⟨n, N, ch, S, lt, st, rn, rl, fc, kc, tot, wt, ft, cs, ka, hp, x, rfl, h1, h2, hr, hvl, h3, h4, h5, hw, h10, h11, h12, h13, h14, hfc, hkc, hz, ho⟩ := h
  refine mx_run (cc := c_G_find) (maxL := 5) (ret := (some .int)) (tab := t_G_find  P) (by decide) rfl zD ztc ztb zad _ F P sz0 (Nat.le_of_ble_eq_true rfl) (fun p e s m args below meth c C hr hlk => a_G_find  C hr hlk) ?_
  intro Rr go
  have hF : F = mx_put (mx_put (mx_put (mx_put (mx_put (mx_put (mx_put (mx_put (mx_put (mx_put F 1 (e_R rn)) 2 (mx_ia 12 rl)) 3 (e_W n)) 4 (mx_ia 360 lt)) 5 (mx_ia 61 st)) 11 (mx_ia 60 ft)) 12 (mx_la 60 hp)) 13 (mx_ia 4 cs)) 14 (mx_ia 800 ka)) 10 (e_G (nI fc) (nI kc) tot wt) := by rw [mx_self h1, mx_self h2, mx_self h3, mx_self h4, mx_self h5, mx_self h11, mx_self h12, mx_self h13, mx_self h14, mx_self h10]
  have hX : (mx_put (mx_put (mx_put (mx_put (mx_put F 1 (e_R rn)) 2 (mx_ia 12 rl)) 3 (e_W n)) 4 (mx_ia 360 lt)) 5 (mx_ia 61 st)) = F := by rw [mx_self h1, mx_self h2, mx_self h3, mx_self h4, mx_self h5]
  rw [hF]
  have hn := hw.1.1
  have bad : (¬ ∃ mo : Nat, 1 ≤ mo ∧ mo ≤ 4 ∧ x = nI mo) → Rr 10 (mx_en [mx_r 10, mx_r 1, mx_i x] 5) [] F 0 0 := by
    intro h
    refine go rfl ?_
    refine go rfl ⟨_, rfl, rfl, rfl, ?_⟩
    exact hz h
  refine go rfl ⟨_, rfl, ?_⟩
  refine go rfl ?_
  refine go rfl ⟨_, _, _, rfl, fun c1 => ?_, fun c1 => ?_⟩
  · rw [← hF]
    refine bad ?_
    rintro ⟨mo, q1, q2, rfl⟩
    exact absurd ((nI_ltI (by omega) (by omega)).mp c1) (by omega)
  refine go rfl ⟨_, rfl, ?_⟩
  refine go rfl ?_
  refine go rfl ⟨_, _, _, rfl, fun c2 => ?_, fun c2 => ?_⟩
  rotate_left
  · rw [← hF]
    refine bad ?_
    rintro ⟨mo, q1, q2, rfl⟩
    exact c2 (nI_le q2 (by omega))
  have hx0 : ¬ x < 0 := by
    intro h
    refine c1 ?_
    rw [Int32.lt_iff_toInt_lt] at h ⊢
    rw [nI_toInt (by omega)]
    have : (0 : Int32).toInt = 0 := by decide
    omega
  obtain ⟨mo, hmo, rfl⟩ := nI_of hx0
  have hm1 : 1 ≤ mo := by
    rcases Nat.lt_or_ge mo 1 with q | q
    · exact absurd (nI_lt q (by omega)) c1
    · exact q
  have hm4 : mo ≤ 4 := (nI_leI (by omega) (by omega)).mp c2
  refine go rfl ⟨_, rfl, ?_⟩
  refine go rfl ?_
  refine go rfl ⟨_, _, _, _, rfl, rfl, (Nat.le_of_ble_eq_true rfl), ?_⟩
  refine go rfl ⟨_, rfl, ?_⟩
  refine go rfl ?_
  refine go rfl ⟨_, _, _, _, rfl, rfl, (Nat.le_of_ble_eq_true rfl), ?_⟩
  rw [mx_pp, mx_pp]
  refine go rfl ⟨_, rfl, ?_⟩
  refine go rfl ⟨_, rfl, ?_⟩
  refine go rfl ⟨_, _, _, _, rfl, rfl, rfl, ?_⟩
  refine go rfl ⟨_, _, _, rfl, rfl, rfl, rfl, rfl, ⟨n, rfl, rfl, ?_⟩⟩
  refine go rfl ⟨_, _, _, _, rfl, rfl, (Nat.le_of_ble_eq_true rfl), ?_⟩
  rw [mx_pp]
  refine go rfl ⟨_, rfl, ?_⟩
  refine go rfl ⟨_, _, rfl, rfl, rfl, rfl, ⟨rn, rl, rfl, rfl, rfl, hr, hvl, ?_⟩⟩
  have hsp : spl rl rn (fun u => wc rl u rn) := fun u hu h => wc_0 (fun i hi => h i hi)
  have hl16 : ∀ u, u < 26 → wc rl u rn < 16 := fun u _ => by have := wc_le rl u rn; omega
  refine go rfl ⟨_, _, rfl, ?_⟩
  refine go rfl ⟨_, rfl, ?_⟩
  refine go rfl ⟨_, rfl, ?_⟩
  refine go rfl ⟨_, rfl, ?_⟩
  refine go rfl ⟨_, _, _, _, _, rfl, rfl, rfl, rfl, rfl, ⟨n, N, ch, S, lt, st, rn, rl, _, _, _, _, ft, hp, _, rfl, rfl, rfl, hr, hvl, rfl, rfl, rfl, hw, rfl, rfl, rfl, hsp, hl16, fun fc' ft' hp' fl hfc' hfl => ?_⟩⟩
  rw [mx_pc _ _ _ (show (11 : Nat) ≠ 10 by decide), mx_pc _ _ _ (show (11 : Nat) ≠ 14 by decide), mx_pc _ _ _ (show (11 : Nat) ≠ 13 by decide), mx_pc _ _ _ (show (11 : Nat) ≠ 12 by decide), mx_pp, mx_pc _ _ _ (show (12 : Nat) ≠ 10 by decide), mx_pc _ _ _ (show (12 : Nat) ≠ 14 by decide), mx_pc _ _ _ (show (12 : Nat) ≠ 13 by decide), mx_pp, mx_pp]
  refine go rfl ⟨_, rfl, ?_⟩
  refine go rfl ?_
  refine go rfl ⟨_, rfl, ?_⟩
  refine go rfl ?_
  refine go rfl ⟨_, rfl, ?_⟩
  refine go rfl ⟨_, _, _, _, _, _, _, rfl, rfl, rfl, rfl, rfl, ⟨fc', 0, nI 0, nI n, ft', cs, ka, hp', n, N, ch, rl, rn, _, _, fl, [], [], mo, 0, rfl, rfl, rfl, rfl, rfl, rfl, hfc', hw.2.1, hr, hvl, hsp, hl16, fun u hu => Nat.le_refl _, hfl, ks_0, rfl, fun i hi => absurd hi (Nat.not_lt_zero i), hm4, Nat.zero_le _, fun kc2 tot2 cs2 ka2 q _ => ?_⟩⟩
  rw [mx_pc _ _ _ (show (13 : Nat) ≠ 10 by decide), mx_pc _ _ _ (show (13 : Nat) ≠ 14 by decide), mx_pp, mx_pc _ _ _ (show (14 : Nat) ≠ 10 by decide), mx_pp, mx_pp]
  refine go rfl ⟨_, rfl, ?_⟩
  refine go rfl ⟨_, _, _, _, rfl, rfl, rfl, ?_⟩
  refine go rfl ⟨_, rfl, rfl, rfl, ?_⟩
  rw [hX]
  refine ho mo fc' kc2 tot2 ft' hp' cs2 ka2 hm1 hm4 rfl hfc' ?_
  rw [show [] ++ (ge N ch (mo - 0) (pos n fc' fl 0) (n - pos n fc' fl 0) (fun u => wc rl u rn)).map ([] ++ ·) = ge N ch mo (pos n fc' fl 0) (n - pos n fc' fl 0) (fun u => wc rl u rn) by
    rw [List.nil_append, Nat.sub_zero]
    exact List.map_id' _, ← pos_skip0 hfl] at q
  exact q
-- LadderWords$Gatherings.wordAt(II)I
def sp_G_wordAt : mx_Sp := fun As F P => ∃ (n kn m : Nat) (fc tot : Int32) (ka : Nat → Int32) (x y : Int32), As = [mx_r 10, mx_i x, mx_i y] ∧ F 3 = some (e_W n) ∧ F 10 = some (e_G fc (nI kn) tot (nI m)) ∧ F 14 = some (mx_ia 800 ka) ∧ n ≤ 60 ∧ m ≤ n ∧ kn ≤ 200 ∧ (∀ k i, k < kn → i < 4 → m = n → x = nI k → y = nI i → P (some (mx_i (ka (4 * k + i)))) F) ∧ ((¬ ∃ k i, k < kn ∧ i < 4 ∧ m = n ∧ x = nI k ∧ y = nI i) → P (some (mx_i (-1))) F)
theorem d_G_wordAt_0 : decode c_G_wordAt 0 = .ok (.iload_n 1, 1) := by decide +kernel
theorem d_G_wordAt_1 : decode c_G_wordAt 1 = .ok (.ifCond .lt 38, 3) := by decide +kernel
theorem d_G_wordAt_4 : decode c_G_wordAt 4 = .ok (.iload_n 1, 1) := by decide +kernel
theorem d_G_wordAt_5 : decode c_G_wordAt 5 = .ok (.aload_n 0, 1) := by decide +kernel
theorem d_G_wordAt_6 : decode c_G_wordAt 6 = .ok (.getfield 29, 3) := by decide +kernel
theorem d_G_wordAt_9 : decode c_G_wordAt 9 = .ok (.if_icmp .ge 30, 3) := by decide +kernel
theorem d_G_wordAt_12 : decode c_G_wordAt 12 = .ok (.iload_n 2, 1) := by decide +kernel
theorem d_G_wordAt_13 : decode c_G_wordAt 13 = .ok (.ifCond .lt 26, 3) := by decide +kernel
theorem d_G_wordAt_16 : decode c_G_wordAt 16 = .ok (.iload_n 2, 1) := by decide +kernel
theorem d_G_wordAt_17 : decode c_G_wordAt 17 = .ok (.iconst 4, 1) := by decide +kernel
theorem d_G_wordAt_18 : decode c_G_wordAt 18 = .ok (.if_icmp .ge 21, 3) := by decide +kernel
theorem d_G_wordAt_21 : decode c_G_wordAt 21 = .ok (.aload_n 0, 1) := by decide +kernel
theorem d_G_wordAt_22 : decode c_G_wordAt 22 = .ok (.getfield 42, 3) := by decide +kernel
theorem d_G_wordAt_25 : decode c_G_wordAt 25 = .ok (.aload_n 0, 1) := by decide +kernel
theorem d_G_wordAt_26 : decode c_G_wordAt 26 = .ok (.getfield 25, 3) := by decide +kernel
theorem d_G_wordAt_29 : decode c_G_wordAt 29 = .ok (.invokevirtual 36, 3) := by decide +kernel
theorem d_G_wordAt_32 : decode c_G_wordAt 32 = .ok (.if_icmp .ne 7, 3) := by decide +kernel
theorem d_G_wordAt_35 : decode c_G_wordAt 35 = .ok (.iconst 1, 1) := by decide +kernel
theorem d_G_wordAt_36 : decode c_G_wordAt 36 = .ok (.goto 4, 3) := by decide +kernel
theorem d_G_wordAt_39 : decode c_G_wordAt 39 = .ok (.iconst 0, 1) := by decide +kernel
theorem d_G_wordAt_40 : decode c_G_wordAt 40 = .ok (.istore_n 3, 1) := by decide +kernel
theorem d_G_wordAt_41 : decode c_G_wordAt 41 = .ok (.iload_n 3, 1) := by decide +kernel
theorem d_G_wordAt_42 : decode c_G_wordAt 42 = .ok (.ifCond .eq 16, 3) := by decide +kernel
theorem d_G_wordAt_45 : decode c_G_wordAt 45 = .ok (.aload_n 0, 1) := by decide +kernel
theorem d_G_wordAt_46 : decode c_G_wordAt 46 = .ok (.getfield 22, 3) := by decide +kernel
theorem d_G_wordAt_49 : decode c_G_wordAt 49 = .ok (.iload_n 1, 1) := by decide +kernel
theorem d_G_wordAt_50 : decode c_G_wordAt 50 = .ok (.iconst 4, 1) := by decide +kernel
theorem d_G_wordAt_51 : decode c_G_wordAt 51 = .ok (.imul, 1) := by decide +kernel
theorem d_G_wordAt_52 : decode c_G_wordAt 52 = .ok (.iload_n 2, 1) := by decide +kernel
theorem d_G_wordAt_53 : decode c_G_wordAt 53 = .ok (.iadd, 1) := by decide +kernel
theorem d_G_wordAt_54 : decode c_G_wordAt 54 = .ok (.iaload, 1) := by decide +kernel
theorem d_G_wordAt_55 : decode c_G_wordAt 55 = .ok (.goto 4, 3) := by decide +kernel
theorem d_G_wordAt_58 : decode c_G_wordAt 58 = .ok (.iconst (-1), 1) := by decide +kernel
theorem d_G_wordAt_59 : decode c_G_wordAt 59 = .ok (.ireturn, 1) := by decide +kernel
abbrev w_G_wordAt : List Cond := mx_ws y_G_wordAt c_G_wordAt 4 (some .int)
abbrev rm_G_wordAt : Room := { frames := 20, cells := 0, slots := 0, locals := 400 }
def t_G_wordAt  (P : Option mx_V → mx_F → Prop) : List (Nat × mx_O) := [
  (0, mx_iload 1 1),
  (1, mx_if_lt 39 4),
  (4, mx_iload 1 5),
  (5, mx_aload 0 6),
  (6, mx_get 0 6 9),
  (9, mx_ic_ge 39 12),
  (12, mx_iload 2 13),
  (13, mx_if_lt 39 16),
  (16, mx_iload 2 17),
  (17, mx_push (.inl (nI 4)) 18),
  (18, mx_ic_ge 39 21),
  (21, mx_aload 0 22),
  (22, mx_get 0 8 25),
  (25, mx_aload 0 26),
  (26, mx_get 0 0 29),
  (29, mx_cv0 5 sp_W_count 0 0 32),
  (32, mx_ic_ne 39 35),
  (35, mx_push (.inl (nI 1)) 36),
  (36, mx_goto 40),
  (39, mx_push (.inl (nI 0)) 40),
  (40, mx_istore 3 41),
  (41, mx_iload 3 42),
  (42, mx_if_eq 58 45),
  (45, mx_aload 0 46),
  (46, mx_get 0 5 49),
  (49, mx_iload 1 50),
  (50, mx_push (.inl (nI 4)) 51),
  (51, mx_imul 52),
  (52, mx_iload 2 53),
  (53, mx_iadd 54),
  (54, mx_iald 55),
  (55, mx_goto 59),
  (58, mx_push (.inl (-1)) 59),
  (59, mx_iret P)]
set_option maxRecDepth 20000 in
theorem a_G_wordAt  {p : Program} {l : Launch} {e : Env} {s : State} {m : MethodId} {args : Array Value} {below : List Frame} {meth : Method} {c : Code} {D : va_G} {tc : Nat → ClassId} {tb : Nat → Nat} {sz : Nat} {a0 : Nat → Nat} {G : mx_F} {P : Option mx_V → mx_F → Prop}  (C : mx_C p s m args c c_G_wordAt y_G_wordAt.cls w_G_wordAt D tc tb (mx_A a0 G sz) 4 (mx_Ok0 a0 G)) (hr : meth.sig.returnType = (some .int)) (hlk : meth.locks = false) : mx_all (mx_W p l e rm_G_wordAt s m args below meth c (MQ below (mx_Q D tc tb a0 G sz P) args s 0 0 (mx_A a0 G sz)) D tc tb (mx_A a0 G sz) 4 (mx_Ok0 a0 G)) (t_G_wordAt  P) :=
  ⟨mx_s_iload_n C d_G_wordAt_0 rfl,
  mx_s_if_lt C d_G_wordAt_1 (by decide),
  mx_s_iload_n C d_G_wordAt_4 rfl,
  mx_s_aload_n C d_G_wordAt_5 rfl,
  mx_s_get (T := T_G) (N := 9) (k := 6) C (fun w h => List.mem_cons_of_mem _ (in_G w h)) rfl (by decide) (List.mem_cons_of_mem _ fk_G_29) rfl d_G_wordAt_6,
  mx_s_ic_ge C d_G_wordAt_9 (by decide),
  mx_s_iload_n C d_G_wordAt_12 rfl,
  mx_s_if_lt C d_G_wordAt_13 (by decide),
  mx_s_iload_n C d_G_wordAt_16 rfl,
  mx_s_iconst C d_G_wordAt_17 (by decide),
  mx_s_ic_ge C d_G_wordAt_18 (by decide),
  mx_s_aload_n C d_G_wordAt_21 rfl,
  mx_s_get (T := T_G) (N := 9) (k := 8) C (fun w h => List.mem_cons_of_mem _ (in_G w h)) rfl (by decide) (List.mem_cons_of_mem _ fk_G_42) rfl d_G_wordAt_22,
  mx_s_aload_n C d_G_wordAt_25 rfl,
  mx_s_get (T := T_G) (N := 9) (k := 0) C (fun w h => List.mem_cons_of_mem _ (in_G w h)) rfl (by decide) (List.mem_cons_of_mem _ fk_G_25) rfl d_G_wordAt_26,
  mx_s_cv0 C (m_W_count l) rfl (cwV 0 C.2.2.2.2.1 (mx_gV (fun w h => List.mem_cons_of_mem _ h) mk_G_36 im_W_count se_W_count ic_W co_W_count) rfl rfl rfl (by decide +kernel) ⟨by decide, by decide⟩) d_G_wordAt_29 ⟨Nat.zero_le _, Nat.zero_le _⟩,
  mx_s_ic_ne C d_G_wordAt_32 (by decide),
  mx_s_iconst C d_G_wordAt_35 (by decide),
  mx_s_goto C d_G_wordAt_36 (by decide),
  mx_s_iconst C d_G_wordAt_39 (by decide),
  mx_s_istore_n C d_G_wordAt_40 rfl (by decide),
  mx_s_iload_n C d_G_wordAt_41 rfl,
  mx_s_if_eq C d_G_wordAt_42 (by decide),
  mx_s_aload_n C d_G_wordAt_45 rfl,
  mx_s_get (T := T_G) (N := 9) (k := 5) C (fun w h => List.mem_cons_of_mem _ (in_G w h)) rfl (by decide) (List.mem_cons_of_mem _ fk_G_22) rfl d_G_wordAt_46,
  mx_s_iload_n C d_G_wordAt_49 rfl,
  mx_s_iconst C d_G_wordAt_50 (by decide),
  mx_s_imul C d_G_wordAt_51,
  mx_s_iload_n C d_G_wordAt_52 rfl,
  mx_s_iadd C d_G_wordAt_53,
  mx_s_iald C d_G_wordAt_54,
  mx_s_goto C d_G_wordAt_55 (by decide),
  mx_s_iconst C d_G_wordAt_58 (by decide),
  mx_s_iret C hr hlk d_G_wordAt_59,
  trivial⟩
set_option maxRecDepth 20000 in
set_option maxHeartbeats 2000000 in
theorem m_G_wordAt (l : Launch) : mx_M l y_G_wordAt w_G_wordAt rm_G_wordAt sp_G_wordAt := by
  intro zD ztc ztb zad As F P sz0 h
  obtain ⟨n, kn, m, fc, tot, ka, x, y, rfl, h3, h10, h14, hn, hm, hk, ho, hz⟩ := h
  refine mx_run (cc := c_G_wordAt) (maxL := 4) (ret := (some .int)) (tab := t_G_wordAt  P) (by decide) rfl zD ztc ztb zad _ F P sz0 (Nat.le_of_ble_eq_true rfl) (fun p e s m args below meth c C hr hlk => a_G_wordAt  C hr hlk) ?_
  intro Rr go
  have hF := mx_as3 h3 h10 h14
  rw [hF]
  have z : (¬ ∃ k i, k < kn ∧ i < 4 ∧ m = n ∧ x = nI k ∧ y = nI i) → Rr 39 (mx_en [mx_r 10, mx_i x, mx_i y] 4) [] (mx_put (mx_put (mx_put F 3 (e_W n)) 10 (e_G fc (nI kn) tot (nI m))) 14 (mx_ia 800 ka)) 0 0 := by
    intro h
    refine go rfl ?_
    refine go rfl ⟨_, _, rfl, ?_⟩
    refine go rfl ⟨_, rfl, ?_⟩
    refine go rfl ⟨_, _, rfl, fun e => ?_, fun e => ?_⟩
    · refine go rfl ?_
      refine go rfl ⟨_, rfl, rfl, rfl, ?_⟩
      rw [← hF]
      exact hz h
    · exact absurd rfl e
  refine go rfl ⟨_, rfl, ?_⟩
  refine go rfl ⟨_, _, rfl, fun c1 => ?_, fun c1 => ?_⟩
  · refine z ?_
    rintro ⟨k, i, q1, q2, q3, rfl, rfl⟩
    exact nI_pos (by omega) c1
  refine go rfl ⟨_, rfl, ?_⟩
  refine go rfl ⟨_, rfl, ?_⟩
  refine go rfl ⟨_, _, _, _, rfl, rfl, rfl, ?_⟩
  refine go rfl ⟨_, _, _, rfl, fun c2 => ?_, fun c2 => ?_⟩
  · refine z ?_
    rintro ⟨k, i, q1, q2, q3, rfl, rfl⟩
    exact absurd ((nI_leI (by omega) (by omega)).mp c2) (by omega)
  rcases pk_ix x (n := kn) (by omega) with q | q | ⟨k, hk2, rfl⟩
  · exact absurd q c1
  · exact absurd q c2
  refine go rfl ⟨_, rfl, ?_⟩
  refine go rfl ⟨_, _, rfl, fun c3 => ?_, fun c3 => ?_⟩
  · refine z ?_
    rintro ⟨k, i, q1, q2, q3, _, rfl⟩
    exact nI_pos (by omega) c3
  refine go rfl ⟨_, rfl, ?_⟩
  refine go rfl ?_
  refine go rfl ⟨_, _, _, rfl, fun c4 => ?_, fun c4 => ?_⟩
  · refine z ?_
    rintro ⟨k, i, q1, q2, q3, _, rfl⟩
    exact absurd ((nI_leI (by omega) (by omega)).mp c4) (by omega)
  rcases pk_ix y (n := 4) (by omega) with q | q | ⟨i, hi, rfl⟩
  · exact absurd q c3
  · exact absurd q c4
  refine go rfl ⟨_, rfl, ?_⟩
  refine go rfl ⟨_, _, _, _, rfl, rfl, rfl, ?_⟩
  refine go rfl ⟨_, rfl, ?_⟩
  refine go rfl ⟨_, _, _, _, rfl, rfl, rfl, ?_⟩
  refine go rfl ⟨_, _, _, rfl, rfl, rfl, rfl, rfl, ⟨n, rfl, rfl, ?_⟩⟩
  refine go rfl ⟨_, _, _, rfl, fun c5 => ?_, fun c5 => ?_⟩
  · refine z ?_
    rintro ⟨k, i, q1, q2, rfl, _, _⟩
    exact c5 rfl
  have c5 := (nI_eq (by omega) (by omega)).mp c5
  refine go rfl ?_
  refine go rfl ?_
  refine go rfl ⟨_, _, rfl, ?_⟩
  refine go rfl ⟨_, rfl, ?_⟩
  refine go rfl ⟨_, _, rfl, fun e => ?_, fun e => ?_⟩
  · exact absurd e (by decide)
  refine go rfl ⟨_, rfl, ?_⟩
  refine go rfl ⟨_, _, _, _, rfl, rfl, rfl, ?_⟩
  refine go rfl ⟨_, rfl, ?_⟩
  refine go rfl ?_
  refine go rfl ⟨_, _, _, rfl, ?_⟩
  rw [pk_mul]
  refine go rfl ⟨_, rfl, ?_⟩
  refine go rfl ⟨_, _, _, rfl, ?_⟩
  rw [nI_add]
  refine go rfl ⟨_, _, _, _, _, rfl, rfl, (vp_in_nI (show k * 4 + i < 800 by omega) (by omega)), ?_⟩
  rw [nI_clamp (by omega), show k * 4 + i = 4 * k + i by omega]
  refine go rfl ?_
  refine go rfl ⟨_, rfl, rfl, rfl, ?_⟩
  rw [← hF]
  exact ho k i hk2 hi c5 rfl rfl
-- LadderWords.gather(I)I
def sp_L_gather : mx_Sp := fun As F P => ∃ (n : Nat) (N : Nat → Nat) (ch : Nat → Nat → Int32) (S : Nat → Nat) (lt st : Nat → Int32) (rn : Nat) (rl : Nat → Int32) (fc kc : Nat) (tot wt : Int32) (ft cs ka : Nat → Int32) (hp : Nat → Int64) (x : Int32), As = [mx_r 0, mx_i x] ∧ F 0 = some e_L ∧ F 1 = some (e_R rn) ∧ F 2 = some (mx_ia 12 rl) ∧ rn ≤ 12 ∧ (∀ i, i < rn → vl (rl i)) ∧ F 3 = some (e_W n) ∧ F 4 = some (mx_ia 360 lt) ∧ F 5 = some (mx_ia 61 st) ∧ wst n N ch S lt st ∧ F 10 = some (e_G (nI fc) (nI kc) tot wt) ∧ F 11 = some (mx_ia 60 ft) ∧ F 12 = some (mx_la 60 hp) ∧ F 13 = some (mx_ia 4 cs) ∧ F 14 = some (mx_ia 800 ka) ∧ fc ≤ 60 ∧ kc ≤ 200 ∧ ((¬ ∃ mo : Nat, 1 ≤ mo ∧ mo ≤ 4 ∧ x = nI mo) → P (some (mx_i (-1))) F) ∧ (∀ mo : Nat, ∀ (fc' kc' : Nat) (tot' : Int32) ft' hp' cs' ka', 1 ≤ mo → mo ≤ 4 → x = nI mo → fc' ≤ 60 → ks (ge N ch mo 0 n (fun u => wc rl u rn)) kc' tot' ka' → P (some (mx_i tot')) (mx_put (mx_put (mx_put (mx_put (mx_put F 11 (mx_ia 60 ft')) 12 (mx_la 60 hp')) 13 (mx_ia 4 cs')) 14 (mx_ia 800 ka')) 10 (e_G (nI fc') (nI kc') tot' (nI n))))
theorem d_L_gather_0 : decode c_L_gather 0 = .ok (.aload_n 0, 1) := by decide +kernel
theorem d_L_gather_1 : decode c_L_gather 1 = .ok (.getfield 35, 3) := by decide +kernel
theorem d_L_gather_4 : decode c_L_gather 4 = .ok (.aload_n 0, 1) := by decide +kernel
theorem d_L_gather_5 : decode c_L_gather 5 = .ok (.getfield 10, 3) := by decide +kernel
theorem d_L_gather_8 : decode c_L_gather 8 = .ok (.iload_n 1, 1) := by decide +kernel
theorem d_L_gather_9 : decode c_L_gather 9 = .ok (.invokevirtual 80, 3) := by decide +kernel
theorem d_L_gather_12 : decode c_L_gather 12 = .ok (.ireturn, 1) := by decide +kernel
abbrev w_L_gather : List Cond := mx_ws y_L_gather c_L_gather 2 (some .int)
abbrev rm_L_gather : Room := { frames := 130, cells := 0, slots := 0, locals := 2600 }
def t_L_gather  (P : Option mx_V → mx_F → Prop) : List (Nat × mx_O) := [
  (0, mx_aload 0 1),
  (1, mx_get 6 3 4),
  (4, mx_aload 0 5),
  (5, mx_get 6 0 8),
  (8, mx_iload 1 9),
  (9, mx_cv2 0 sp_G_find 0 0 12),
  (12, mx_iret P)]
set_option maxRecDepth 20000 in
theorem a_L_gather  {p : Program} {l : Launch} {e : Env} {s : State} {m : MethodId} {args : Array Value} {below : List Frame} {meth : Method} {c : Code} {D : va_G} {tc : Nat → ClassId} {tb : Nat → Nat} {sz : Nat} {a0 : Nat → Nat} {G : mx_F} {P : Option mx_V → mx_F → Prop}  (C : mx_C p s m args c c_L_gather y_L_gather.cls w_L_gather D tc tb (mx_A a0 G sz) 2 (mx_Ok0 a0 G)) (hr : meth.sig.returnType = (some .int)) (hlk : meth.locks = false) : mx_all (mx_W p l e rm_L_gather s m args below meth c (MQ below (mx_Q D tc tb a0 G sz P) args s 0 0 (mx_A a0 G sz)) D tc tb (mx_A a0 G sz) 2 (mx_Ok0 a0 G)) (t_L_gather  P) :=
  ⟨mx_s_aload_n C d_L_gather_0 rfl,
  mx_s_get (T := T_L) (N := 6) (k := 3) C (fun w h => List.mem_cons_of_mem _ (in_L w h)) rfl (by decide) (List.mem_cons_of_mem _ fk_L_35) rfl d_L_gather_1,
  mx_s_aload_n C d_L_gather_4 rfl,
  mx_s_get (T := T_L) (N := 6) (k := 0) C (fun w h => List.mem_cons_of_mem _ (in_L w h)) rfl (by decide) (List.mem_cons_of_mem _ fk_L_10) rfl d_L_gather_5,
  mx_s_iload_n C d_L_gather_8 rfl,
  mx_s_cv2 C (m_G_find l) rfl (cwV 2 C.2.2.2.2.1 (mx_gV (fun w h => List.mem_cons_of_mem _ h) mk_L_80 im_G_find se_G_find ic_G co_G_find) rfl rfl rfl (by decide +kernel) ⟨by decide, by decide⟩) d_L_gather_9 ⟨Nat.zero_le _, Nat.zero_le _⟩,
  mx_s_iret C hr hlk d_L_gather_12,
  trivial⟩
set_option maxRecDepth 20000 in
set_option maxHeartbeats 2000000 in
theorem m_L_gather (l : Launch) : mx_M l y_L_gather w_L_gather rm_L_gather sp_L_gather := by
  intro zD ztc ztb zad As F P sz0 h
  obtain ⟨n, N, ch, S, lt, st, rn, rl, fc, kc, tot, wt, ft, cs, ka, hp, x, rfl, h0, h1, h2, hr, hvl, h3, h4, h5, hw, h10, h11, h12, h13, h14, hfc, hkc, hz, ho⟩ := h
  refine mx_run (cc := c_L_gather) (maxL := 2) (ret := (some .int)) (tab := t_L_gather  P) (by decide) rfl zD ztc ztb zad _ F P sz0 (Nat.le_of_ble_eq_true rfl) (fun p e s m args below meth c C hr hlk => a_L_gather  C hr hlk) ?_
  intro Rr go
  have hF : F = mx_put (mx_put (mx_put (mx_put (mx_put (mx_put (mx_put (mx_put (mx_put (mx_put (mx_put F 0 e_L) 1 (e_R rn)) 2 (mx_ia 12 rl)) 3 (e_W n)) 4 (mx_ia 360 lt)) 5 (mx_ia 61 st)) 11 (mx_ia 60 ft)) 12 (mx_la 60 hp)) 13 (mx_ia 4 cs)) 14 (mx_ia 800 ka)) 10 (e_G (nI fc) (nI kc) tot wt) := by rw [mx_self h0, mx_self h1, mx_self h2, mx_self h3, mx_self h4, mx_self h5, mx_self h11, mx_self h12, mx_self h13, mx_self h14, mx_self h10]
  rw [hF]
  refine go rfl ⟨_, rfl, ?_⟩
  refine go rfl ⟨_, _, _, _, rfl, rfl, rfl, ?_⟩
  refine go rfl ⟨_, rfl, ?_⟩
  refine go rfl ⟨_, _, _, _, rfl, rfl, rfl, ?_⟩
  refine go rfl ⟨_, rfl, ?_⟩
  refine go rfl ⟨_, _, _, _, _, rfl, rfl, rfl, rfl, rfl, ⟨n, N, ch, S, lt, st, rn, rl, fc, kc, tot, wt, ft, cs, ka, hp, x, rfl, rfl, rfl, hr, hvl, rfl, rfl, rfl, hw, rfl, rfl, rfl, rfl, rfl, hfc, hkc, fun c => ?_, fun mo fc' kc' tot' ft' hp' cs' ka' q1 q2 q3 q4 q5 => ?_⟩⟩
  · refine go rfl ⟨_, rfl, rfl, rfl, ?_⟩
    rw [← hF]
    exact hz c
  · refine go rfl ⟨_, rfl, rfl, rfl, ?_⟩
    rw [← hF]
    exact ho mo fc' kc' tot' ft' hp' cs' ka' q1 q2 q3 q4 q5
-- LadderWords.gathered(II)I
def sp_L_gathered : mx_Sp := fun As F P => ∃ (n kn m : Nat) (fc tot : Int32) (ka : Nat → Int32) (x y : Int32), As = [mx_r 0, mx_i x, mx_i y] ∧ F 0 = some e_L ∧ F 3 = some (e_W n) ∧ F 10 = some (e_G fc (nI kn) tot (nI m)) ∧ F 14 = some (mx_ia 800 ka) ∧ n ≤ 60 ∧ m ≤ n ∧ kn ≤ 200 ∧ (∀ k i, k < kn → i < 4 → m = n → x = nI k → y = nI i → P (some (mx_i (ka (4 * k + i)))) F) ∧ ((¬ ∃ k i, k < kn ∧ i < 4 ∧ m = n ∧ x = nI k ∧ y = nI i) → P (some (mx_i (-1))) F)
theorem d_L_gathered_0 : decode c_L_gathered 0 = .ok (.aload_n 0, 1) := by decide +kernel
theorem d_L_gathered_1 : decode c_L_gathered 1 = .ok (.getfield 35, 3) := by decide +kernel
theorem d_L_gathered_4 : decode c_L_gathered 4 = .ok (.iload_n 1, 1) := by decide +kernel
theorem d_L_gathered_5 : decode c_L_gathered 5 = .ok (.iload_n 2, 1) := by decide +kernel
theorem d_L_gathered_6 : decode c_L_gathered 6 = .ok (.invokevirtual 83, 3) := by decide +kernel
theorem d_L_gathered_9 : decode c_L_gathered 9 = .ok (.ireturn, 1) := by decide +kernel
abbrev w_L_gathered : List Cond := mx_ws y_L_gathered c_L_gathered 3 (some .int)
abbrev rm_L_gathered : Room := { frames := 30, cells := 0, slots := 0, locals := 600 }
def t_L_gathered  (P : Option mx_V → mx_F → Prop) : List (Nat × mx_O) := [
  (0, mx_aload 0 1),
  (1, mx_get 6 3 4),
  (4, mx_iload 1 5),
  (5, mx_iload 2 6),
  (6, mx_cv2 0 sp_G_wordAt 0 0 9),
  (9, mx_iret P)]
set_option maxRecDepth 20000 in
theorem a_L_gathered  {p : Program} {l : Launch} {e : Env} {s : State} {m : MethodId} {args : Array Value} {below : List Frame} {meth : Method} {c : Code} {D : va_G} {tc : Nat → ClassId} {tb : Nat → Nat} {sz : Nat} {a0 : Nat → Nat} {G : mx_F} {P : Option mx_V → mx_F → Prop}  (C : mx_C p s m args c c_L_gathered y_L_gathered.cls w_L_gathered D tc tb (mx_A a0 G sz) 3 (mx_Ok0 a0 G)) (hr : meth.sig.returnType = (some .int)) (hlk : meth.locks = false) : mx_all (mx_W p l e rm_L_gathered s m args below meth c (MQ below (mx_Q D tc tb a0 G sz P) args s 0 0 (mx_A a0 G sz)) D tc tb (mx_A a0 G sz) 3 (mx_Ok0 a0 G)) (t_L_gathered  P) :=
  ⟨mx_s_aload_n C d_L_gathered_0 rfl,
  mx_s_get (T := T_L) (N := 6) (k := 3) C (fun w h => List.mem_cons_of_mem _ (in_L w h)) rfl (by decide) (List.mem_cons_of_mem _ fk_L_35) rfl d_L_gathered_1,
  mx_s_iload_n C d_L_gathered_4 rfl,
  mx_s_iload_n C d_L_gathered_5 rfl,
  mx_s_cv2 C (m_G_wordAt l) rfl (cwV 2 C.2.2.2.2.1 (mx_gV (fun w h => List.mem_cons_of_mem _ h) mk_L_83 im_G_wordAt se_G_wordAt ic_G co_G_wordAt) rfl rfl rfl (by decide +kernel) ⟨by decide, by decide⟩) d_L_gathered_6 ⟨Nat.zero_le _, Nat.zero_le _⟩,
  mx_s_iret C hr hlk d_L_gathered_9,
  trivial⟩
set_option maxRecDepth 20000 in
set_option maxHeartbeats 2000000 in
theorem m_L_gathered (l : Launch) : mx_M l y_L_gathered w_L_gathered rm_L_gathered sp_L_gathered := by
  intro zD ztc ztb zad As F P sz0 h
  obtain ⟨n, kn, m, fc, tot, ka, x, y, rfl, h0, h3, h10, h14, hn, hm, hk, ho, hz⟩ := h
  refine mx_run (cc := c_L_gathered) (maxL := 3) (ret := (some .int)) (tab := t_L_gathered  P) (by decide) rfl zD ztc ztb zad _ F P sz0 (Nat.le_of_ble_eq_true rfl) (fun p e s m args below meth c C hr hlk => a_L_gathered  C hr hlk) ?_
  intro Rr go
  have hF := mx_as4 h0 h3 h10 h14
  rw [hF]
  refine go rfl ⟨_, rfl, ?_⟩
  refine go rfl ⟨_, _, _, _, rfl, rfl, rfl, ?_⟩
  refine go rfl ⟨_, rfl, ?_⟩
  refine go rfl ⟨_, rfl, ?_⟩
  refine go rfl ⟨_, _, _, _, _, rfl, rfl, rfl, rfl, rfl, ⟨n, kn, m, fc, tot, ka, x, y, rfl, rfl, rfl, rfl, hn, hm, hk, fun k i q1 q2 q3 q4 q5 => ?_, fun c => ?_⟩⟩
  · refine go rfl ⟨_, rfl, rfl, rfl, ?_⟩
    rw [← hF]
    exact ho k i q1 q2 q3 q4 q5
  · refine go rfl ⟨_, rfl, rfl, rfl, ?_⟩
    rw [← hF]
    exact hz c
