theorem mx_noI {k : Nat} {x : Nat × Nat × (Nat → Int32)} : mx_noE k (.inl x) := trivial
theorem mx_noL {k : Nat} {x : Nat × Nat × (Nat → Int64)} : mx_noE k (.inr (.inl x)) := trivial
theorem mx_noO {k ci : Nat} {fs : List mx_V} (h : fs.all (fun v => decide (v ≠ mx_r k)) = true) : mx_noE k (mx_ob ci fs) := fun v hv => of_decide_eq_true (List.all_eq_true.mp h v hv)
-- LadderWords$Row.<init>()V
def sp_R_init : mx_Sp := fun As F P => As = [mx_r 1] ∧ F 1 = some (mx_ob 3 [mx_null, mx_i 0]) ∧ F 2 = none ∧ mx_no 2 F ∧ P none (mx_put (mx_put F 2 (mx_ia 12 (fun _ => 0))) 1 (e_R 0))
theorem d_R_init_0 : decode c_R_init 0 = .ok (.aload_n 0, 1) := by decide +kernel
theorem d_R_init_1 : decode c_R_init 1 = .ok (.invokespecial 3, 3) := by decide +kernel
theorem d_R_init_4 : decode c_R_init 4 = .ok (.aload_n 0, 1) := by decide +kernel
theorem d_R_init_5 : decode c_R_init 5 = .ok (.bipush 12, 2) := by decide +kernel
theorem d_R_init_7 : decode c_R_init 7 = .ok (.newarray .int, 2) := by decide +kernel
theorem d_R_init_9 : decode c_R_init 9 = .ok (.putfield 9, 3) := by decide +kernel
theorem d_R_init_12 : decode c_R_init 12 = .ok (.return_, 1) := by decide +kernel
abbrev w_R_init : List Cond := mx_ws y_R_init c_R_init 1 none
abbrev rm_R_init : Room := { frames := 20, cells := 1, slots := 12, locals := 400 }
def t_R_init  (P : Option mx_V → mx_F → Prop) : List (Nat × mx_O) := [
  (0, mx_aload 0 1),
  (1, mx_oi 4),
  (4, mx_aload 0 5),
  (5, mx_push (.inl (nI 12)) 7),
  (7, mx_newi 2 1 12 9),
  (9, mx_putrF 3 0 12),
  (12, mx_ret1 P 1 12)]
set_option maxRecDepth 20000 in
theorem a_R_init  {p : Program} {l : Launch} {e : Env} {s : State} {m : MethodId} {args : Array Value} {below : List Frame} {meth : Method} {c : Code} {D : va_G} {tc : Nat → ClassId} {tb : Nat → Nat} {sz : Nat} {a0 : Nat → Nat} {G : mx_F} {P : Option mx_V → mx_F → Prop}  (C : mx_C p s m args c c_R_init y_R_init.cls w_R_init D tc tb (mx_A a0 G sz) 1 (mx_Ok1 a0 G)) (hr : meth.sig.returnType = none) (hlk : meth.locks = false) (hin2 : meth.name = "<init>") : mx_all (mx_W p l e rm_R_init s m args below meth c (MQ below (mx_Q1 D tc tb a0 G sz P) args s rm_R_init.cells rm_R_init.slots (mx_A a0 G sz)) D tc tb (mx_A a0 G sz) 1 (mx_Ok1 a0 G)) (t_R_init  P) :=
  ⟨mx_s_aload_n C d_R_init_0 rfl,
  mx_s_oi C (List.mem_cons_of_mem _ (mx_in0 (by decide +kernel) rfl)) (List.mem_cons_of_mem _ (mx_in0 (by decide +kernel) rfl)) (List.mem_cons_of_mem _ (mx_in0 (by decide +kernel) rfl)) d_R_init_1 ⟨by decide, by decide⟩,
  mx_s_aload_n C d_R_init_4 rfl,
  mx_s_bipush C d_R_init_5 (by decide),
  mx_s_newi C (fun ad F k q x h h0 => mx_Ok1_up h h0) (List.mem_cons_of_mem _ (mx_in0 (by decide +kernel) rfl)) d_R_init_7 ⟨Nat.le_refl _, Nat.le_refl _⟩,
  mx_s_putrF (T := T_R) (N := 2) (k := 0) C hin2 (fun w h => List.mem_cons_of_mem _ (in_R w h)) rfl ty_R ok_R nm_R (by decide) (List.mem_cons_of_mem _ fk_R_9) rfl rfl (ok_R 0 (by decide)) (fun _ => rfl) (fun _ => rfl) d_R_init_9,
  mx_s_ret1 C hr hlk d_R_init_12,
  trivial⟩
set_option maxRecDepth 20000 in
set_option maxHeartbeats 2000000 in
theorem m_R_init (l : Launch) : mx_M1 l y_R_init w_R_init rm_R_init sp_R_init := by
  intro zD ztc ztb zad As F P sz0 h
  obtain ⟨rfl, h1, h2, n2, hp⟩ := h
  refine mx_run1 (cc := c_R_init) (maxL := 1) (ret := none) (tab := t_R_init  P) (by decide) rfl zD ztc ztb zad _ F P sz0 (Nat.le_of_ble_eq_true rfl) (fun p e s m args below meth c C hr hlk hnm => a_R_init  C hr hlk (by rw [hnm]; rfl)) ?_
  intro Rr go
  have hF := mx_as1 h1
  rw [hF]
  refine go rfl ⟨_, rfl, ?_⟩
  refine go rfl ⟨_, _, rfl, rfl, ?_⟩
  refine go rfl ⟨_, rfl, ?_⟩
  refine go rfl ?_
  refine go rfl ⟨_, _, rfl, rfl, (h2), (mx_no_put n2 (mx_noO rfl)), rfl, rfl, rfl, rfl, ?_⟩
  refine go rfl ⟨_, _, _, _, rfl, rfl, (Nat.le_of_ble_eq_true rfl), ?_⟩
  refine go rfl ⟨rfl, rfl, rfl, ?_⟩
  rw [← hF]
  exact hp
-- LadderWords$Words.<init>()V
def sp_W_init : mx_Sp := fun As F P => As = [mx_r 3] ∧ F 3 = some (mx_ob 5 [mx_null, mx_null, mx_i 0]) ∧ F 4 = none ∧ mx_no 4 F ∧ F 5 = none ∧ mx_no 5 F ∧ P none (mx_put (mx_put (mx_put F 4 (mx_ia 360 (fun _ => 0))) 5 (mx_ia 61 (fun _ => 0))) 3 (e_W 0))
theorem d_W_init_0 : decode c_W_init 0 = .ok (.aload_n 0, 1) := by decide +kernel
theorem d_W_init_1 : decode c_W_init 1 = .ok (.invokespecial 3, 3) := by decide +kernel
theorem d_W_init_4 : decode c_W_init 4 = .ok (.aload_n 0, 1) := by decide +kernel
theorem d_W_init_5 : decode c_W_init 5 = .ok (.sipush 360, 3) := by decide +kernel
theorem d_W_init_8 : decode c_W_init 8 = .ok (.newarray .int, 2) := by decide +kernel
theorem d_W_init_10 : decode c_W_init 10 = .ok (.putfield 9, 3) := by decide +kernel
theorem d_W_init_13 : decode c_W_init 13 = .ok (.aload_n 0, 1) := by decide +kernel
theorem d_W_init_14 : decode c_W_init 14 = .ok (.bipush 61, 2) := by decide +kernel
theorem d_W_init_16 : decode c_W_init 16 = .ok (.newarray .int, 2) := by decide +kernel
theorem d_W_init_18 : decode c_W_init 18 = .ok (.putfield 15, 3) := by decide +kernel
theorem d_W_init_21 : decode c_W_init 21 = .ok (.return_, 1) := by decide +kernel
abbrev w_W_init : List Cond := mx_ws y_W_init c_W_init 1 none
abbrev rm_W_init : Room := { frames := 20, cells := 2, slots := 421, locals := 400 }
def t_W_init  (P : Option mx_V → mx_F → Prop) : List (Nat × mx_O) := [
  (0, mx_aload 0 1),
  (1, mx_oi 4),
  (4, mx_aload 0 5),
  (5, mx_push (.inl (nI 360)) 8),
  (8, mx_newi 4 2 421 10),
  (10, mx_putrF 5 0 13),
  (13, mx_aload 0 14),
  (14, mx_push (.inl (nI 61)) 16),
  (16, mx_newi 5 2 421 18),
  (18, mx_putrF 5 1 21),
  (21, mx_ret1 P 2 421)]
set_option maxRecDepth 20000 in
theorem a_W_init  {p : Program} {l : Launch} {e : Env} {s : State} {m : MethodId} {args : Array Value} {below : List Frame} {meth : Method} {c : Code} {D : va_G} {tc : Nat → ClassId} {tb : Nat → Nat} {sz : Nat} {a0 : Nat → Nat} {G : mx_F} {P : Option mx_V → mx_F → Prop}  (C : mx_C p s m args c c_W_init y_W_init.cls w_W_init D tc tb (mx_A a0 G sz) 1 (mx_Ok1 a0 G)) (hr : meth.sig.returnType = none) (hlk : meth.locks = false) (hin2 : meth.name = "<init>") : mx_all (mx_W p l e rm_W_init s m args below meth c (MQ below (mx_Q1 D tc tb a0 G sz P) args s rm_W_init.cells rm_W_init.slots (mx_A a0 G sz)) D tc tb (mx_A a0 G sz) 1 (mx_Ok1 a0 G)) (t_W_init  P) :=
  ⟨mx_s_aload_n C d_W_init_0 rfl,
  mx_s_oi C (List.mem_cons_of_mem _ (mx_in0 (by decide +kernel) rfl)) (List.mem_cons_of_mem _ (mx_in0 (by decide +kernel) rfl)) (List.mem_cons_of_mem _ (mx_in0 (by decide +kernel) rfl)) d_W_init_1 ⟨by decide, by decide⟩,
  mx_s_aload_n C d_W_init_4 rfl,
  mx_s_sipush C d_W_init_5 (by decide),
  mx_s_newi C (fun ad F k q x h h0 => mx_Ok1_up h h0) (List.mem_cons_of_mem _ (mx_in0 (by decide +kernel) rfl)) d_W_init_8 ⟨Nat.le_refl _, Nat.le_refl _⟩,
  mx_s_putrF (T := T_W) (N := 3) (k := 0) C hin2 (fun w h => List.mem_cons_of_mem _ (in_W w h)) rfl ty_W ok_W nm_W (by decide) (List.mem_cons_of_mem _ fk_W_9) rfl rfl (ok_W 0 (by decide)) (fun _ => rfl) (fun _ => rfl) d_W_init_10,
  mx_s_aload_n C d_W_init_13 rfl,
  mx_s_bipush C d_W_init_14 (by decide),
  mx_s_newi C (fun ad F k q x h h0 => mx_Ok1_up h h0) (List.mem_cons_of_mem _ (mx_in0 (by decide +kernel) rfl)) d_W_init_16 ⟨Nat.le_refl _, Nat.le_refl _⟩,
  mx_s_putrF (T := T_W) (N := 3) (k := 1) C hin2 (fun w h => List.mem_cons_of_mem _ (in_W w h)) rfl ty_W ok_W nm_W (by decide) (List.mem_cons_of_mem _ fk_W_15) rfl rfl (ok_W 1 (by decide)) (fun _ => rfl) (fun _ => rfl) d_W_init_18,
  mx_s_ret1 C hr hlk d_W_init_21,
  trivial⟩
set_option maxRecDepth 20000 in
set_option maxHeartbeats 2000000 in
theorem m_W_init (l : Launch) : mx_M1 l y_W_init w_W_init rm_W_init sp_W_init := by
  intro zD ztc ztb zad As F P sz0 h
  obtain ⟨rfl, h1, h4, n4, h5, n5, hp⟩ := h
  refine mx_run1 (cc := c_W_init) (maxL := 1) (ret := none) (tab := t_W_init  P) (by decide) rfl zD ztc ztb zad _ F P sz0 (Nat.le_of_ble_eq_true rfl) (fun p e s m args below meth c C hr hlk hnm => a_W_init  C hr hlk (by rw [hnm]; rfl)) ?_
  intro Rr go
  have hF := mx_as1 h1
  rw [hF]
  refine go rfl ⟨_, rfl, ?_⟩
  refine go rfl ⟨_, _, rfl, rfl, ?_⟩
  refine go rfl ⟨_, rfl, ?_⟩
  refine go rfl ?_
  refine go rfl ⟨_, _, rfl, rfl, (h4), (mx_no_put n4 (mx_noO rfl)), rfl, rfl, rfl, rfl, ?_⟩
  refine go rfl ⟨_, _, _, _, rfl, rfl, (Nat.le_of_ble_eq_true rfl), ?_⟩
  refine go rfl ⟨_, rfl, ?_⟩
  refine go rfl ?_
  refine go rfl ⟨_, _, rfl, rfl, (h5), (mx_no_put (mx_no_put (mx_no_put n5 (mx_noO rfl)) mx_noI) (mx_noO rfl)), rfl, rfl, rfl, rfl, ?_⟩
  refine go rfl ⟨_, _, _, _, rfl, rfl, (Nat.le_of_ble_eq_true rfl), ?_⟩
  refine go rfl ⟨rfl, rfl, rfl, ?_⟩
  rw [← hF]
  rw [mx_pc _ _ _ (show (5 : Nat) ≠ 3 by decide), mx_pp]
  exact hp
-- LadderWords$Ladders.<init>(LLadderWords$Words;)V
def sp_D_init : mx_Sp := fun As F P => As = [mx_r 6, mx_r 3] ∧ F 6 = some (mx_ob 2 [mx_null, mx_null, mx_null, mx_null, mx_i 0, mx_l 0, mx_i 0]) ∧ F 7 = none ∧ mx_no 7 F ∧ F 8 = none ∧ mx_no 8 F ∧ F 9 = none ∧ mx_no 9 F ∧ P none (mx_put (mx_put (mx_put (mx_put F 7 (mx_ia 60 (fun _ => 0))) 8 (mx_la 60 (fun _ => 0))) 9 (mx_ia 60 (fun _ => 0))) 6 (e_D 0 0 0))
theorem d_D_init_0 : decode c_D_init 0 = .ok (.aload_n 0, 1) := by decide +kernel
theorem d_D_init_1 : decode c_D_init 1 = .ok (.invokespecial 3, 3) := by decide +kernel
theorem d_D_init_4 : decode c_D_init 4 = .ok (.aload_n 0, 1) := by decide +kernel
theorem d_D_init_5 : decode c_D_init 5 = .ok (.bipush 60, 2) := by decide +kernel
theorem d_D_init_7 : decode c_D_init 7 = .ok (.newarray .int, 2) := by decide +kernel
theorem d_D_init_9 : decode c_D_init 9 = .ok (.putfield 9, 3) := by decide +kernel
theorem d_D_init_12 : decode c_D_init 12 = .ok (.aload_n 0, 1) := by decide +kernel
theorem d_D_init_13 : decode c_D_init 13 = .ok (.bipush 60, 2) := by decide +kernel
theorem d_D_init_15 : decode c_D_init 15 = .ok (.newarray .long, 2) := by decide +kernel
theorem d_D_init_17 : decode c_D_init 17 = .ok (.putfield 15, 3) := by decide +kernel
theorem d_D_init_20 : decode c_D_init 20 = .ok (.aload_n 0, 1) := by decide +kernel
theorem d_D_init_21 : decode c_D_init 21 = .ok (.bipush 60, 2) := by decide +kernel
theorem d_D_init_23 : decode c_D_init 23 = .ok (.newarray .int, 2) := by decide +kernel
theorem d_D_init_25 : decode c_D_init 25 = .ok (.putfield 19, 3) := by decide +kernel
theorem d_D_init_28 : decode c_D_init 28 = .ok (.aload_n 0, 1) := by decide +kernel
theorem d_D_init_29 : decode c_D_init 29 = .ok (.aload_n 1, 1) := by decide +kernel
theorem d_D_init_30 : decode c_D_init 30 = .ok (.putfield 22, 3) := by decide +kernel
theorem d_D_init_33 : decode c_D_init 33 = .ok (.return_, 1) := by decide +kernel
abbrev w_D_init : List Cond := mx_ws y_D_init c_D_init 2 none
abbrev rm_D_init : Room := { frames := 20, cells := 3, slots := 180, locals := 400 }
def t_D_init  (P : Option mx_V → mx_F → Prop) : List (Nat × mx_O) := [
  (0, mx_aload 0 1),
  (1, mx_oi 4),
  (4, mx_aload 0 5),
  (5, mx_push (.inl (nI 60)) 7),
  (7, mx_newi 7 3 180 9),
  (9, mx_putrF 2 1 12),
  (12, mx_aload 0 13),
  (13, mx_push (.inl (nI 60)) 15),
  (15, mx_newl 8 3 180 17),
  (17, mx_putrF 2 2 20),
  (20, mx_aload 0 21),
  (21, mx_push (.inl (nI 60)) 23),
  (23, mx_newi 9 3 180 25),
  (25, mx_putrF 2 3 28),
  (28, mx_aload 0 29),
  (29, mx_aload 1 30),
  (30, mx_putrF 2 0 33),
  (33, mx_ret1 P 3 180)]
set_option maxRecDepth 20000 in
theorem a_D_init  {p : Program} {l : Launch} {e : Env} {s : State} {m : MethodId} {args : Array Value} {below : List Frame} {meth : Method} {c : Code} {D : va_G} {tc : Nat → ClassId} {tb : Nat → Nat} {sz : Nat} {a0 : Nat → Nat} {G : mx_F} {P : Option mx_V → mx_F → Prop}  (C : mx_C p s m args c c_D_init y_D_init.cls w_D_init D tc tb (mx_A a0 G sz) 2 (mx_Ok1 a0 G)) (hr : meth.sig.returnType = none) (hlk : meth.locks = false) (hin2 : meth.name = "<init>") : mx_all (mx_W p l e rm_D_init s m args below meth c (MQ below (mx_Q1 D tc tb a0 G sz P) args s rm_D_init.cells rm_D_init.slots (mx_A a0 G sz)) D tc tb (mx_A a0 G sz) 2 (mx_Ok1 a0 G)) (t_D_init  P) :=
  ⟨mx_s_aload_n C d_D_init_0 rfl,
  mx_s_oi C (List.mem_cons_of_mem _ (mx_in0 (by decide +kernel) rfl)) (List.mem_cons_of_mem _ (mx_in0 (by decide +kernel) rfl)) (List.mem_cons_of_mem _ (mx_in0 (by decide +kernel) rfl)) d_D_init_1 ⟨by decide, by decide⟩,
  mx_s_aload_n C d_D_init_4 rfl,
  mx_s_bipush C d_D_init_5 (by decide),
  mx_s_newi C (fun ad F k q x h h0 => mx_Ok1_up h h0) (List.mem_cons_of_mem _ (mx_in0 (by decide +kernel) rfl)) d_D_init_7 ⟨Nat.le_refl _, Nat.le_refl _⟩,
  mx_s_putrF (T := T_D) (N := 7) (k := 1) C hin2 (fun w h => List.mem_cons_of_mem _ (in_D w h)) rfl ty_D ok_D nm_D (by decide) (List.mem_cons_of_mem _ fk_D_9) rfl rfl (ok_D 1 (by decide)) (fun _ => rfl) (fun _ => rfl) d_D_init_9,
  mx_s_aload_n C d_D_init_12 rfl,
  mx_s_bipush C d_D_init_13 (by decide),
  mx_s_newl C (fun ad F k q x h h0 => mx_Ok1_up h h0) (List.mem_cons_of_mem _ (mx_in0 (by decide +kernel) rfl)) d_D_init_15 ⟨Nat.le_refl _, Nat.le_refl _⟩,
  mx_s_putrF (T := T_D) (N := 7) (k := 2) C hin2 (fun w h => List.mem_cons_of_mem _ (in_D w h)) rfl ty_D ok_D nm_D (by decide) (List.mem_cons_of_mem _ fk_D_15) rfl rfl (ok_D 2 (by decide)) (fun _ => rfl) (fun _ => rfl) d_D_init_17,
  mx_s_aload_n C d_D_init_20 rfl,
  mx_s_bipush C d_D_init_21 (by decide),
  mx_s_newi C (fun ad F k q x h h0 => mx_Ok1_up h h0) (List.mem_cons_of_mem _ (mx_in0 (by decide +kernel) rfl)) d_D_init_23 ⟨Nat.le_refl _, Nat.le_refl _⟩,
  mx_s_putrF (T := T_D) (N := 7) (k := 3) C hin2 (fun w h => List.mem_cons_of_mem _ (in_D w h)) rfl ty_D ok_D nm_D (by decide) (List.mem_cons_of_mem _ fk_D_19) rfl rfl (ok_D 3 (by decide)) (fun _ => rfl) (fun _ => rfl) d_D_init_25,
  mx_s_aload_n C d_D_init_28 rfl,
  mx_s_aload_n C d_D_init_29 rfl,
  mx_s_putrF (T := T_D) (N := 7) (k := 0) C hin2 (fun w h => List.mem_cons_of_mem _ (in_D w h)) rfl ty_D ok_D nm_D (by decide) (List.mem_cons_of_mem _ fk_D_22) rfl rfl (ok_D 0 (by decide)) (fun _ => rfl) (fun _ => rfl) d_D_init_30,
  mx_s_ret1 C hr hlk d_D_init_33,
  trivial⟩
set_option maxRecDepth 20000 in
set_option maxHeartbeats 2000000 in
theorem m_D_init (l : Launch) : mx_M1 l y_D_init w_D_init rm_D_init sp_D_init := by
  intro zD ztc ztb zad As F P sz0 h
  obtain ⟨rfl, h1, h7, n7, h8, n8, h9, n9, hp⟩ := h
  refine mx_run1 (cc := c_D_init) (maxL := 2) (ret := none) (tab := t_D_init  P) (by decide) rfl zD ztc ztb zad _ F P sz0 (Nat.le_of_ble_eq_true rfl) (fun p e s m args below meth c C hr hlk hnm => a_D_init  C hr hlk (by rw [hnm]; rfl)) ?_
  intro Rr go
  rw [mx_as1 h1]
  refine go rfl ⟨_, rfl, ?_⟩
  refine go rfl ⟨_, _, rfl, rfl, ?_⟩
  refine go rfl ⟨_, rfl, ?_⟩
  refine go rfl ?_
  refine go rfl ⟨_, _, rfl, rfl, (h7), (mx_no_put (n7) (mx_noO rfl)), rfl, rfl, rfl, rfl, ?_⟩
  refine go rfl ⟨_, _, _, _, rfl, rfl, (Nat.le_of_ble_eq_true rfl), ?_⟩
  rw [mx_pc _ _ _ (show (7 : Nat) ≠ 6 by decide), mx_pp]
  refine go rfl ⟨_, rfl, ?_⟩
  refine go rfl ?_
  refine go rfl ⟨_, _, rfl, rfl, (h8), (mx_no_put (mx_no_put (n8) mx_noI) (mx_noO rfl)), rfl, rfl, rfl, rfl, ?_⟩
  refine go rfl ⟨_, _, _, _, rfl, rfl, (Nat.le_of_ble_eq_true rfl), ?_⟩
  rw [mx_pc _ _ _ (show (8 : Nat) ≠ 6 by decide), mx_pp]
  refine go rfl ⟨_, rfl, ?_⟩
  refine go rfl ?_
  refine go rfl ⟨_, _, rfl, rfl, (h9), (mx_no_put (mx_no_put (mx_no_put (n9) mx_noI) mx_noL) (mx_noO rfl)), rfl, rfl, rfl, rfl, ?_⟩
  refine go rfl ⟨_, _, _, _, rfl, rfl, (Nat.le_of_ble_eq_true rfl), ?_⟩
  rw [mx_pc _ _ _ (show (9 : Nat) ≠ 6 by decide), mx_pp]
  refine go rfl ⟨_, rfl, ?_⟩
  refine go rfl ⟨_, rfl, ?_⟩
  refine go rfl ⟨_, _, _, _, rfl, rfl, (Nat.le_of_ble_eq_true rfl), ?_⟩
  rw [mx_pp]
  refine go rfl ⟨rfl, rfl, rfl, ?_⟩
  exact hp
-- LadderWords$Gatherings.<init>(LLadderWords$Words;)V
def sp_G_init : mx_Sp := fun As F P => As = [mx_r 10, mx_r 3] ∧ F 10 = some (mx_ob 0 [mx_null, mx_null, mx_null, mx_i 0, mx_null, mx_null, mx_i 0, mx_i 0, mx_i 0]) ∧ F 11 = none ∧ mx_no 11 F ∧ F 12 = none ∧ mx_no 12 F ∧ F 13 = none ∧ mx_no 13 F ∧ F 14 = none ∧ mx_no 14 F ∧ P none (mx_put (mx_put (mx_put (mx_put (mx_put F 11 (mx_ia 60 (fun _ => 0))) 12 (mx_la 60 (fun _ => 0))) 13 (mx_ia 4 (fun _ => 0))) 14 (mx_ia 800 (fun _ => 0))) 10 (e_G 0 0 0 0))
theorem d_G_init_0 : decode c_G_init 0 = .ok (.aload_n 0, 1) := by decide +kernel
theorem d_G_init_1 : decode c_G_init 1 = .ok (.invokespecial 3, 3) := by decide +kernel
theorem d_G_init_4 : decode c_G_init 4 = .ok (.aload_n 0, 1) := by decide +kernel
theorem d_G_init_5 : decode c_G_init 5 = .ok (.bipush 60, 2) := by decide +kernel
theorem d_G_init_7 : decode c_G_init 7 = .ok (.newarray .int, 2) := by decide +kernel
theorem d_G_init_9 : decode c_G_init 9 = .ok (.putfield 9, 3) := by decide +kernel
theorem d_G_init_12 : decode c_G_init 12 = .ok (.aload_n 0, 1) := by decide +kernel
theorem d_G_init_13 : decode c_G_init 13 = .ok (.bipush 60, 2) := by decide +kernel
theorem d_G_init_15 : decode c_G_init 15 = .ok (.newarray .long, 2) := by decide +kernel
theorem d_G_init_17 : decode c_G_init 17 = .ok (.putfield 15, 3) := by decide +kernel
theorem d_G_init_20 : decode c_G_init 20 = .ok (.aload_n 0, 1) := by decide +kernel
theorem d_G_init_21 : decode c_G_init 21 = .ok (.iconst 4, 1) := by decide +kernel
theorem d_G_init_22 : decode c_G_init 22 = .ok (.newarray .int, 2) := by decide +kernel
theorem d_G_init_24 : decode c_G_init 24 = .ok (.putfield 19, 3) := by decide +kernel
theorem d_G_init_27 : decode c_G_init 27 = .ok (.aload_n 0, 1) := by decide +kernel
theorem d_G_init_28 : decode c_G_init 28 = .ok (.sipush 800, 3) := by decide +kernel
theorem d_G_init_31 : decode c_G_init 31 = .ok (.newarray .int, 2) := by decide +kernel
theorem d_G_init_33 : decode c_G_init 33 = .ok (.putfield 22, 3) := by decide +kernel
theorem d_G_init_36 : decode c_G_init 36 = .ok (.aload_n 0, 1) := by decide +kernel
theorem d_G_init_37 : decode c_G_init 37 = .ok (.aload_n 1, 1) := by decide +kernel
theorem d_G_init_38 : decode c_G_init 38 = .ok (.putfield 25, 3) := by decide +kernel
theorem d_G_init_41 : decode c_G_init 41 = .ok (.return_, 1) := by decide +kernel
abbrev w_G_init : List Cond := mx_ws y_G_init c_G_init 2 none
abbrev rm_G_init : Room := { frames := 20, cells := 4, slots := 924, locals := 400 }
def t_G_init  (P : Option mx_V → mx_F → Prop) : List (Nat × mx_O) := [
  (0, mx_aload 0 1),
  (1, mx_oi 4),
  (4, mx_aload 0 5),
  (5, mx_push (.inl (nI 60)) 7),
  (7, mx_newi 11 4 924 9),
  (9, mx_putrF 0 1 12),
  (12, mx_aload 0 13),
  (13, mx_push (.inl (nI 60)) 15),
  (15, mx_newl 12 4 924 17),
  (17, mx_putrF 0 2 20),
  (20, mx_aload 0 21),
  (21, mx_push (.inl (nI 4)) 22),
  (22, mx_newi 13 4 924 24),
  (24, mx_putrF 0 4 27),
  (27, mx_aload 0 28),
  (28, mx_push (.inl (nI 800)) 31),
  (31, mx_newi 14 4 924 33),
  (33, mx_putrF 0 5 36),
  (36, mx_aload 0 37),
  (37, mx_aload 1 38),
  (38, mx_putrF 0 0 41),
  (41, mx_ret1 P 4 924)]
set_option maxRecDepth 20000 in
theorem a_G_init  {p : Program} {l : Launch} {e : Env} {s : State} {m : MethodId} {args : Array Value} {below : List Frame} {meth : Method} {c : Code} {D : va_G} {tc : Nat → ClassId} {tb : Nat → Nat} {sz : Nat} {a0 : Nat → Nat} {G : mx_F} {P : Option mx_V → mx_F → Prop}  (C : mx_C p s m args c c_G_init y_G_init.cls w_G_init D tc tb (mx_A a0 G sz) 2 (mx_Ok1 a0 G)) (hr : meth.sig.returnType = none) (hlk : meth.locks = false) (hin2 : meth.name = "<init>") : mx_all (mx_W p l e rm_G_init s m args below meth c (MQ below (mx_Q1 D tc tb a0 G sz P) args s rm_G_init.cells rm_G_init.slots (mx_A a0 G sz)) D tc tb (mx_A a0 G sz) 2 (mx_Ok1 a0 G)) (t_G_init  P) :=
  ⟨mx_s_aload_n C d_G_init_0 rfl,
  mx_s_oi C (List.mem_cons_of_mem _ (mx_in0 (by decide +kernel) rfl)) (List.mem_cons_of_mem _ (mx_in0 (by decide +kernel) rfl)) (List.mem_cons_of_mem _ (mx_in0 (by decide +kernel) rfl)) d_G_init_1 ⟨by decide, by decide⟩,
  mx_s_aload_n C d_G_init_4 rfl,
  mx_s_bipush C d_G_init_5 (by decide),
  mx_s_newi C (fun ad F k q x h h0 => mx_Ok1_up h h0) (List.mem_cons_of_mem _ (mx_in0 (by decide +kernel) rfl)) d_G_init_7 ⟨Nat.le_refl _, Nat.le_refl _⟩,
  mx_s_putrF (T := T_G) (N := 9) (k := 1) C hin2 (fun w h => List.mem_cons_of_mem _ (in_G w h)) rfl ty_G ok_G nm_G (by decide) (List.mem_cons_of_mem _ fk_G_9) rfl rfl (ok_G 1 (by decide)) (fun _ => rfl) (fun _ => rfl) d_G_init_9,
  mx_s_aload_n C d_G_init_12 rfl,
  mx_s_bipush C d_G_init_13 (by decide),
  mx_s_newl C (fun ad F k q x h h0 => mx_Ok1_up h h0) (List.mem_cons_of_mem _ (mx_in0 (by decide +kernel) rfl)) d_G_init_15 ⟨Nat.le_refl _, Nat.le_refl _⟩,
  mx_s_putrF (T := T_G) (N := 9) (k := 2) C hin2 (fun w h => List.mem_cons_of_mem _ (in_G w h)) rfl ty_G ok_G nm_G (by decide) (List.mem_cons_of_mem _ fk_G_15) rfl rfl (ok_G 2 (by decide)) (fun _ => rfl) (fun _ => rfl) d_G_init_17,
  mx_s_aload_n C d_G_init_20 rfl,
  mx_s_iconst C d_G_init_21 (by decide),
  mx_s_newi C (fun ad F k q x h h0 => mx_Ok1_up h h0) (List.mem_cons_of_mem _ (mx_in0 (by decide +kernel) rfl)) d_G_init_22 ⟨Nat.le_refl _, Nat.le_refl _⟩,
  mx_s_putrF (T := T_G) (N := 9) (k := 4) C hin2 (fun w h => List.mem_cons_of_mem _ (in_G w h)) rfl ty_G ok_G nm_G (by decide) (List.mem_cons_of_mem _ fk_G_19) rfl rfl (ok_G 4 (by decide)) (fun _ => rfl) (fun _ => rfl) d_G_init_24,
  mx_s_aload_n C d_G_init_27 rfl,
  mx_s_sipush C d_G_init_28 (by decide),
  mx_s_newi C (fun ad F k q x h h0 => mx_Ok1_up h h0) (List.mem_cons_of_mem _ (mx_in0 (by decide +kernel) rfl)) d_G_init_31 ⟨Nat.le_refl _, Nat.le_refl _⟩,
  mx_s_putrF (T := T_G) (N := 9) (k := 5) C hin2 (fun w h => List.mem_cons_of_mem _ (in_G w h)) rfl ty_G ok_G nm_G (by decide) (List.mem_cons_of_mem _ fk_G_22) rfl rfl (ok_G 5 (by decide)) (fun _ => rfl) (fun _ => rfl) d_G_init_33,
  mx_s_aload_n C d_G_init_36 rfl,
  mx_s_aload_n C d_G_init_37 rfl,
  mx_s_putrF (T := T_G) (N := 9) (k := 0) C hin2 (fun w h => List.mem_cons_of_mem _ (in_G w h)) rfl ty_G ok_G nm_G (by decide) (List.mem_cons_of_mem _ fk_G_25) rfl rfl (ok_G 0 (by decide)) (fun _ => rfl) (fun _ => rfl) d_G_init_38,
  mx_s_ret1 C hr hlk d_G_init_41,
  trivial⟩
set_option maxRecDepth 20000 in
set_option maxHeartbeats 2000000 in
theorem m_G_init (l : Launch) : mx_M1 l y_G_init w_G_init rm_G_init sp_G_init := by
  intro zD ztc ztb zad As F P sz0 h
  obtain ⟨rfl, h1, h11, n11, h12, n12, h13, n13, h14, n14, hp⟩ := h
  refine mx_run1 (cc := c_G_init) (maxL := 2) (ret := none) (tab := t_G_init  P) (by decide) rfl zD ztc ztb zad _ F P sz0 (Nat.le_of_ble_eq_true rfl) (fun p e s m args below meth c C hr hlk hnm => a_G_init  C hr hlk (by rw [hnm]; rfl)) ?_
  intro Rr go
  rw [mx_as1 h1]
  refine go rfl ⟨_, rfl, ?_⟩
  refine go rfl ⟨_, _, rfl, rfl, ?_⟩
  refine go rfl ⟨_, rfl, ?_⟩
  refine go rfl ?_
  refine go rfl ⟨_, _, rfl, rfl, (h11), (mx_no_put (n11) (mx_noO rfl)), rfl, rfl, rfl, rfl, ?_⟩
  refine go rfl ⟨_, _, _, _, rfl, rfl, (Nat.le_of_ble_eq_true rfl), ?_⟩
  rw [mx_pc _ _ _ (show (11 : Nat) ≠ 10 by decide), mx_pp]
  refine go rfl ⟨_, rfl, ?_⟩
  refine go rfl ?_
  refine go rfl ⟨_, _, rfl, rfl, (h12), (mx_no_put (mx_no_put (n12) mx_noI) (mx_noO rfl)), rfl, rfl, rfl, rfl, ?_⟩
  refine go rfl ⟨_, _, _, _, rfl, rfl, (Nat.le_of_ble_eq_true rfl), ?_⟩
  rw [mx_pc _ _ _ (show (12 : Nat) ≠ 10 by decide), mx_pp]
  refine go rfl ⟨_, rfl, ?_⟩
  refine go rfl ?_
  refine go rfl ⟨_, _, rfl, rfl, (h13), (mx_no_put (mx_no_put (mx_no_put (n13) mx_noI) mx_noL) (mx_noO rfl)), rfl, rfl, rfl, rfl, ?_⟩
  refine go rfl ⟨_, _, _, _, rfl, rfl, (Nat.le_of_ble_eq_true rfl), ?_⟩
  rw [mx_pc _ _ _ (show (13 : Nat) ≠ 10 by decide), mx_pp]
  refine go rfl ⟨_, rfl, ?_⟩
  refine go rfl ?_
  refine go rfl ⟨_, _, rfl, rfl, (h14), (mx_no_put (mx_no_put (mx_no_put (mx_no_put (n14) mx_noI) mx_noL) mx_noI) (mx_noO rfl)), rfl, rfl, rfl, rfl, ?_⟩
  refine go rfl ⟨_, _, _, _, rfl, rfl, (Nat.le_of_ble_eq_true rfl), ?_⟩
  rw [mx_pc _ _ _ (show (14 : Nat) ≠ 10 by decide), mx_pp]
  refine go rfl ⟨_, rfl, ?_⟩
  refine go rfl ⟨_, rfl, ?_⟩
  refine go rfl ⟨_, _, _, _, rfl, rfl, (Nat.le_of_ble_eq_true rfl), ?_⟩
  rw [mx_pp]
  refine go rfl ⟨rfl, rfl, rfl, ?_⟩
  exact hp
-- LadderWords$Grid.<init>(LLadderWords$Words;)V
def sp_C_init : mx_Sp := fun As F P => As = [mx_r 29, mx_r 3] ∧ F 29 = some (mx_ob 1 [mx_null, mx_null]) ∧ F 30 = none ∧ mx_no 30 F ∧ P none (mx_put (mx_put F 30 (mx_ia 64 (fun _ => 0))) 29 (e_C))
theorem d_C_init_0 : decode c_C_init 0 = .ok (.aload_n 0, 1) := by decide +kernel
theorem d_C_init_1 : decode c_C_init 1 = .ok (.invokespecial 5, 3) := by decide +kernel
theorem d_C_init_4 : decode c_C_init 4 = .ok (.aload_n 0, 1) := by decide +kernel
theorem d_C_init_5 : decode c_C_init 5 = .ok (.bipush 64, 2) := by decide +kernel
theorem d_C_init_7 : decode c_C_init 7 = .ok (.newarray .int, 2) := by decide +kernel
theorem d_C_init_9 : decode c_C_init 9 = .ok (.putfield 11, 3) := by decide +kernel
theorem d_C_init_12 : decode c_C_init 12 = .ok (.aload_n 0, 1) := by decide +kernel
theorem d_C_init_13 : decode c_C_init 13 = .ok (.aload_n 1, 1) := by decide +kernel
theorem d_C_init_14 : decode c_C_init 14 = .ok (.putfield 15, 3) := by decide +kernel
theorem d_C_init_17 : decode c_C_init 17 = .ok (.return_, 1) := by decide +kernel
abbrev w_C_init : List Cond := mx_ws y_C_init c_C_init 2 none
abbrev rm_C_init : Room := { frames := 20, cells := 1, slots := 64, locals := 400 }
def t_C_init  (P : Option mx_V → mx_F → Prop) : List (Nat × mx_O) := [
  (0, mx_aload 0 1),
  (1, mx_oi 4),
  (4, mx_aload 0 5),
  (5, mx_push (.inl (nI 64)) 7),
  (7, mx_newi 30 1 64 9),
  (9, mx_putrF 1 1 12),
  (12, mx_aload 0 13),
  (13, mx_aload 1 14),
  (14, mx_putrF 1 0 17),
  (17, mx_ret1 P 1 64)]
set_option maxRecDepth 20000 in
theorem a_C_init  {p : Program} {l : Launch} {e : Env} {s : State} {m : MethodId} {args : Array Value} {below : List Frame} {meth : Method} {c : Code} {D : va_G} {tc : Nat → ClassId} {tb : Nat → Nat} {sz : Nat} {a0 : Nat → Nat} {G : mx_F} {P : Option mx_V → mx_F → Prop}  (C : mx_C p s m args c c_C_init y_C_init.cls w_C_init D tc tb (mx_A a0 G sz) 2 (mx_Ok1 a0 G)) (hr : meth.sig.returnType = none) (hlk : meth.locks = false) (hin2 : meth.name = "<init>") : mx_all (mx_W p l e rm_C_init s m args below meth c (MQ below (mx_Q1 D tc tb a0 G sz P) args s rm_C_init.cells rm_C_init.slots (mx_A a0 G sz)) D tc tb (mx_A a0 G sz) 2 (mx_Ok1 a0 G)) (t_C_init  P) :=
  ⟨mx_s_aload_n C d_C_init_0 rfl,
  mx_s_oi C (List.mem_cons_of_mem _ (mx_in0 (by decide +kernel) rfl)) (List.mem_cons_of_mem _ (mx_in0 (by decide +kernel) rfl)) (List.mem_cons_of_mem _ (mx_in0 (by decide +kernel) rfl)) d_C_init_1 ⟨by decide, by decide⟩,
  mx_s_aload_n C d_C_init_4 rfl,
  mx_s_bipush C d_C_init_5 (by decide),
  mx_s_newi C (fun ad F k q x h h0 => mx_Ok1_up h h0) (List.mem_cons_of_mem _ (mx_in0 (by decide +kernel) rfl)) d_C_init_7 ⟨Nat.le_refl _, Nat.le_refl _⟩,
  mx_s_putrF (T := T_C) (N := 2) (k := 1) C hin2 (fun w h => List.mem_cons_of_mem _ (in_C w h)) rfl ty_C ok_C nm_C (by decide) (List.mem_cons_of_mem _ fk_C_11) rfl rfl (ok_C 1 (by decide)) (fun _ => rfl) (fun _ => rfl) d_C_init_9,
  mx_s_aload_n C d_C_init_12 rfl,
  mx_s_aload_n C d_C_init_13 rfl,
  mx_s_putrF (T := T_C) (N := 2) (k := 0) C hin2 (fun w h => List.mem_cons_of_mem _ (in_C w h)) rfl ty_C ok_C nm_C (by decide) (List.mem_cons_of_mem _ fk_C_15) rfl rfl (ok_C 0 (by decide)) (fun _ => rfl) (fun _ => rfl) d_C_init_14,
  mx_s_ret1 C hr hlk d_C_init_17,
  trivial⟩
set_option maxRecDepth 20000 in
set_option maxHeartbeats 2000000 in
theorem m_C_init (l : Launch) : mx_M1 l y_C_init w_C_init rm_C_init sp_C_init := by
  intro zD ztc ztb zad As F P sz0 h
  obtain ⟨rfl, h1, h30, n30, hp⟩ := h
  refine mx_run1 (cc := c_C_init) (maxL := 2) (ret := none) (tab := t_C_init  P) (by decide) rfl zD ztc ztb zad _ F P sz0 (Nat.le_of_ble_eq_true rfl) (fun p e s m args below meth c C hr hlk hnm => a_C_init  C hr hlk (by rw [hnm]; rfl)) ?_
  intro Rr go
  rw [mx_as1 h1]
  refine go rfl ⟨_, rfl, ?_⟩
  refine go rfl ⟨_, _, rfl, rfl, ?_⟩
  refine go rfl ⟨_, rfl, ?_⟩
  refine go rfl ?_
  refine go rfl ⟨_, _, rfl, rfl, (h30), (mx_no_put (n30) (mx_noO rfl)), rfl, rfl, rfl, rfl, ?_⟩
  refine go rfl ⟨_, _, _, _, rfl, rfl, (Nat.le_of_ble_eq_true rfl), ?_⟩
  rw [mx_pc _ _ _ (show (30 : Nat) ≠ 29 by decide), mx_pp]
  refine go rfl ⟨_, rfl, ?_⟩
  refine go rfl ⟨_, rfl, ?_⟩
  refine go rfl ⟨_, _, _, _, rfl, rfl, (Nat.le_of_ble_eq_true rfl), ?_⟩
  rw [mx_pp]
  refine go rfl ⟨rfl, rfl, rfl, ?_⟩
  exact hp
-- LadderWordsModel.<init>()V
def sp_M_init : mx_Sp := fun As F P => As = [mx_r 40] ∧ F 40 = some (mx_ob 7 [mx_i 0, mx_i 0, mx_null, mx_i 0, mx_null, mx_null, mx_i 0, mx_null, mx_l 0, mx_null, mx_null, mx_i 0, mx_null, mx_null, mx_null, mx_i 0, mx_null, mx_null]) ∧ F 41 = none ∧ mx_no 41 F ∧ F 42 = none ∧ mx_no 42 F ∧ F 43 = none ∧ mx_no 43 F ∧ F 44 = none ∧ mx_no 44 F ∧ F 45 = none ∧ mx_no 45 F ∧ F 46 = none ∧ mx_no 46 F ∧ F 47 = none ∧ mx_no 47 F ∧ F 48 = none ∧ mx_no 48 F ∧ F 49 = none ∧ mx_no 49 F ∧ F 50 = none ∧ mx_no 50 F ∧ F 51 = none ∧ mx_no 51 F ∧ P none (mx_put (mx_put (mx_put (mx_put (mx_put (mx_put (mx_put (mx_put (mx_put (mx_put (mx_put (mx_put F 41 (mx_ia 12 (fun _ => 0))) 42 (mx_ia 360 (fun _ => 0))) 43 (mx_ia 60 (fun _ => 0))) 44 (mx_ia 60 (fun _ => 0))) 45 (mx_ia 60 (fun _ => 0))) 46 (mx_la 60 (fun _ => 0))) 47 (mx_ia 800 (fun _ => 0))) 48 (mx_ia 5 (fun _ => 0))) 49 (mx_ia 26 (fun _ => 0))) 50 (mx_ia 6 (fun _ => 0))) 51 (mx_ia 64 (fun _ => 0))) 40 (e_M 0 0 0 (-1) 0 0 0))
theorem d_M_init_0 : decode c_M_init 0 = .ok (.aload_n 0, 1) := by decide +kernel
theorem d_M_init_1 : decode c_M_init 1 = .ok (.invokespecial 1, 3) := by decide +kernel
theorem d_M_init_4 : decode c_M_init 4 = .ok (.aload_n 0, 1) := by decide +kernel
theorem d_M_init_5 : decode c_M_init 5 = .ok (.bipush 12, 2) := by decide +kernel
theorem d_M_init_7 : decode c_M_init 7 = .ok (.newarray .int, 2) := by decide +kernel
theorem d_M_init_9 : decode c_M_init 9 = .ok (.putfield 7, 3) := by decide +kernel
theorem d_M_init_12 : decode c_M_init 12 = .ok (.aload_n 0, 1) := by decide +kernel
theorem d_M_init_13 : decode c_M_init 13 = .ok (.sipush 360, 3) := by decide +kernel
theorem d_M_init_16 : decode c_M_init 16 = .ok (.newarray .int, 2) := by decide +kernel
theorem d_M_init_18 : decode c_M_init 18 = .ok (.putfield 13, 3) := by decide +kernel
theorem d_M_init_21 : decode c_M_init 21 = .ok (.aload_n 0, 1) := by decide +kernel
theorem d_M_init_22 : decode c_M_init 22 = .ok (.bipush 60, 2) := by decide +kernel
theorem d_M_init_24 : decode c_M_init 24 = .ok (.newarray .int, 2) := by decide +kernel
theorem d_M_init_26 : decode c_M_init 26 = .ok (.putfield 16, 3) := by decide +kernel
theorem d_M_init_29 : decode c_M_init 29 = .ok (.aload_n 0, 1) := by decide +kernel
theorem d_M_init_30 : decode c_M_init 30 = .ok (.iconst (-1), 1) := by decide +kernel
theorem d_M_init_31 : decode c_M_init 31 = .ok (.putfield 19, 3) := by decide +kernel
theorem d_M_init_34 : decode c_M_init 34 = .ok (.aload_n 0, 1) := by decide +kernel
theorem d_M_init_35 : decode c_M_init 35 = .ok (.bipush 60, 2) := by decide +kernel
theorem d_M_init_37 : decode c_M_init 37 = .ok (.newarray .int, 2) := by decide +kernel
theorem d_M_init_39 : decode c_M_init 39 = .ok (.putfield 23, 3) := by decide +kernel
theorem d_M_init_42 : decode c_M_init 42 = .ok (.aload_n 0, 1) := by decide +kernel
theorem d_M_init_43 : decode c_M_init 43 = .ok (.bipush 60, 2) := by decide +kernel
theorem d_M_init_45 : decode c_M_init 45 = .ok (.newarray .int, 2) := by decide +kernel
theorem d_M_init_47 : decode c_M_init 47 = .ok (.putfield 26, 3) := by decide +kernel
theorem d_M_init_50 : decode c_M_init 50 = .ok (.aload_n 0, 1) := by decide +kernel
theorem d_M_init_51 : decode c_M_init 51 = .ok (.bipush 60, 2) := by decide +kernel
theorem d_M_init_53 : decode c_M_init 53 = .ok (.newarray .long, 2) := by decide +kernel
theorem d_M_init_55 : decode c_M_init 55 = .ok (.putfield 29, 3) := by decide +kernel
theorem d_M_init_58 : decode c_M_init 58 = .ok (.aload_n 0, 1) := by decide +kernel
theorem d_M_init_59 : decode c_M_init 59 = .ok (.sipush 800, 3) := by decide +kernel
theorem d_M_init_62 : decode c_M_init 62 = .ok (.newarray .int, 2) := by decide +kernel
theorem d_M_init_64 : decode c_M_init 64 = .ok (.putfield 33, 3) := by decide +kernel
theorem d_M_init_67 : decode c_M_init 67 = .ok (.aload_n 0, 1) := by decide +kernel
theorem d_M_init_68 : decode c_M_init 68 = .ok (.iconst 5, 1) := by decide +kernel
theorem d_M_init_69 : decode c_M_init 69 = .ok (.newarray .int, 2) := by decide +kernel
theorem d_M_init_71 : decode c_M_init 71 = .ok (.putfield 36, 3) := by decide +kernel
theorem d_M_init_74 : decode c_M_init 74 = .ok (.aload_n 0, 1) := by decide +kernel
theorem d_M_init_75 : decode c_M_init 75 = .ok (.bipush 26, 2) := by decide +kernel
theorem d_M_init_77 : decode c_M_init 77 = .ok (.newarray .int, 2) := by decide +kernel
theorem d_M_init_79 : decode c_M_init 79 = .ok (.putfield 39, 3) := by decide +kernel
theorem d_M_init_82 : decode c_M_init 82 = .ok (.aload_n 0, 1) := by decide +kernel
theorem d_M_init_83 : decode c_M_init 83 = .ok (.bipush 6, 2) := by decide +kernel
theorem d_M_init_85 : decode c_M_init 85 = .ok (.newarray .int, 2) := by decide +kernel
theorem d_M_init_87 : decode c_M_init 87 = .ok (.putfield 42, 3) := by decide +kernel
theorem d_M_init_90 : decode c_M_init 90 = .ok (.aload_n 0, 1) := by decide +kernel
theorem d_M_init_91 : decode c_M_init 91 = .ok (.bipush 64, 2) := by decide +kernel
theorem d_M_init_93 : decode c_M_init 93 = .ok (.newarray .int, 2) := by decide +kernel
theorem d_M_init_95 : decode c_M_init 95 = .ok (.putfield 45, 3) := by decide +kernel
theorem d_M_init_98 : decode c_M_init 98 = .ok (.return_, 1) := by decide +kernel
abbrev w_M_init : List Cond := mx_ws y_M_init c_M_init 1 none
abbrev rm_M_init : Room := { frames := 20, cells := 11, slots := 1513, locals := 400 }
def t_M_init  (P : Option mx_V → mx_F → Prop) : List (Nat × mx_O) := [
  (0, mx_aload 0 1),
  (1, mx_oi 4),
  (4, mx_aload 0 5),
  (5, mx_push (.inl (nI 12)) 7),
  (7, mx_newi 41 11 1513 9),
  (9, mx_putrF 7 2 12),
  (12, mx_aload 0 13),
  (13, mx_push (.inl (nI 360)) 16),
  (16, mx_newi 42 11 1513 18),
  (18, mx_putrF 7 4 21),
  (21, mx_aload 0 22),
  (22, mx_push (.inl (nI 60)) 24),
  (24, mx_newi 43 11 1513 26),
  (26, mx_putrF 7 5 29),
  (29, mx_aload 0 30),
  (30, mx_push (.inl (-1)) 31),
  (31, mx_puti 7 6 34),
  (34, mx_aload 0 35),
  (35, mx_push (.inl (nI 60)) 37),
  (37, mx_newi 44 11 1513 39),
  (39, mx_putrF 7 7 42),
  (42, mx_aload 0 43),
  (43, mx_push (.inl (nI 60)) 45),
  (45, mx_newi 45 11 1513 47),
  (47, mx_putrF 7 9 50),
  (50, mx_aload 0 51),
  (51, mx_push (.inl (nI 60)) 53),
  (53, mx_newl 46 11 1513 55),
  (55, mx_putrF 7 10 58),
  (58, mx_aload 0 59),
  (59, mx_push (.inl (nI 800)) 62),
  (62, mx_newi 47 11 1513 64),
  (64, mx_putrF 7 12 67),
  (67, mx_aload 0 68),
  (68, mx_push (.inl (nI 5)) 69),
  (69, mx_newi 48 11 1513 71),
  (71, mx_putrF 7 13 74),
  (74, mx_aload 0 75),
  (75, mx_push (.inl (nI 26)) 77),
  (77, mx_newi 49 11 1513 79),
  (79, mx_putrF 7 14 82),
  (82, mx_aload 0 83),
  (83, mx_push (.inl (nI 6)) 85),
  (85, mx_newi 50 11 1513 87),
  (87, mx_putrF 7 16 90),
  (90, mx_aload 0 91),
  (91, mx_push (.inl (nI 64)) 93),
  (93, mx_newi 51 11 1513 95),
  (95, mx_putrF 7 17 98),
  (98, mx_ret1 P 11 1513)]
set_option maxRecDepth 20000 in
theorem a_M_init  {p : Program} {l : Launch} {e : Env} {s : State} {m : MethodId} {args : Array Value} {below : List Frame} {meth : Method} {c : Code} {D : va_G} {tc : Nat → ClassId} {tb : Nat → Nat} {sz : Nat} {a0 : Nat → Nat} {G : mx_F} {P : Option mx_V → mx_F → Prop}  (C : mx_C p s m args c c_M_init y_M_init.cls w_M_init D tc tb (mx_A a0 G sz) 1 (mx_Ok1 a0 G)) (hr : meth.sig.returnType = none) (hlk : meth.locks = false) (hin2 : meth.name = "<init>") : mx_all (mx_W p l e rm_M_init s m args below meth c (MQ below (mx_Q1 D tc tb a0 G sz P) args s rm_M_init.cells rm_M_init.slots (mx_A a0 G sz)) D tc tb (mx_A a0 G sz) 1 (mx_Ok1 a0 G)) (t_M_init  P) :=
  ⟨mx_s_aload_n C d_M_init_0 rfl,
  mx_s_oi C (List.mem_cons_of_mem _ (mx_in0 (by decide +kernel) rfl)) (List.mem_cons_of_mem _ (mx_in0 (by decide +kernel) rfl)) (List.mem_cons_of_mem _ (mx_in0 (by decide +kernel) rfl)) d_M_init_1 ⟨by decide, by decide⟩,
  mx_s_aload_n C d_M_init_4 rfl,
  mx_s_bipush C d_M_init_5 (by decide),
  mx_s_newi C (fun ad F k q x h h0 => mx_Ok1_up h h0) (List.mem_cons_of_mem _ (mx_in0 (by decide +kernel) rfl)) d_M_init_7 ⟨Nat.le_refl _, Nat.le_refl _⟩,
  mx_s_putrF (T := T_M) (N := 18) (k := 2) C hin2 (fun w h => List.mem_cons_of_mem _ (in_M w h)) rfl ty_M ok_M nm_M (by decide) (List.mem_cons_of_mem _ fk_M_7) rfl rfl (ok_M 2 (by decide)) (fun _ => rfl) (fun _ => rfl) d_M_init_9,
  mx_s_aload_n C d_M_init_12 rfl,
  mx_s_sipush C d_M_init_13 (by decide),
  mx_s_newi C (fun ad F k q x h h0 => mx_Ok1_up h h0) (List.mem_cons_of_mem _ (mx_in0 (by decide +kernel) rfl)) d_M_init_16 ⟨Nat.le_refl _, Nat.le_refl _⟩,
  mx_s_putrF (T := T_M) (N := 18) (k := 4) C hin2 (fun w h => List.mem_cons_of_mem _ (in_M w h)) rfl ty_M ok_M nm_M (by decide) (List.mem_cons_of_mem _ fk_M_13) rfl rfl (ok_M 4 (by decide)) (fun _ => rfl) (fun _ => rfl) d_M_init_18,
  mx_s_aload_n C d_M_init_21 rfl,
  mx_s_bipush C d_M_init_22 (by decide),
  mx_s_newi C (fun ad F k q x h h0 => mx_Ok1_up h h0) (List.mem_cons_of_mem _ (mx_in0 (by decide +kernel) rfl)) d_M_init_24 ⟨Nat.le_refl _, Nat.le_refl _⟩,
  mx_s_putrF (T := T_M) (N := 18) (k := 5) C hin2 (fun w h => List.mem_cons_of_mem _ (in_M w h)) rfl ty_M ok_M nm_M (by decide) (List.mem_cons_of_mem _ fk_M_16) rfl rfl (ok_M 5 (by decide)) (fun _ => rfl) (fun _ => rfl) d_M_init_26,
  mx_s_aload_n C d_M_init_29 rfl,
  mx_s_iconst C d_M_init_30 (by decide),
  mx_s_puti (T := T_M) (N := 18) (k := 6) C (fun w h => List.mem_cons_of_mem _ (in_M w h)) rfl ty_M ok_M nm_M (by decide) (List.mem_cons_of_mem _ fk_M_19) rfl rfl (ok_M 6 (by decide)) d_M_init_31,
  mx_s_aload_n C d_M_init_34 rfl,
  mx_s_bipush C d_M_init_35 (by decide),
  mx_s_newi C (fun ad F k q x h h0 => mx_Ok1_up h h0) (List.mem_cons_of_mem _ (mx_in0 (by decide +kernel) rfl)) d_M_init_37 ⟨Nat.le_refl _, Nat.le_refl _⟩,
  mx_s_putrF (T := T_M) (N := 18) (k := 7) C hin2 (fun w h => List.mem_cons_of_mem _ (in_M w h)) rfl ty_M ok_M nm_M (by decide) (List.mem_cons_of_mem _ fk_M_23) rfl rfl (ok_M 7 (by decide)) (fun _ => rfl) (fun _ => rfl) d_M_init_39,
  mx_s_aload_n C d_M_init_42 rfl,
  mx_s_bipush C d_M_init_43 (by decide),
  mx_s_newi C (fun ad F k q x h h0 => mx_Ok1_up h h0) (List.mem_cons_of_mem _ (mx_in0 (by decide +kernel) rfl)) d_M_init_45 ⟨Nat.le_refl _, Nat.le_refl _⟩,
  mx_s_putrF (T := T_M) (N := 18) (k := 9) C hin2 (fun w h => List.mem_cons_of_mem _ (in_M w h)) rfl ty_M ok_M nm_M (by decide) (List.mem_cons_of_mem _ fk_M_26) rfl rfl (ok_M 9 (by decide)) (fun _ => rfl) (fun _ => rfl) d_M_init_47,
  mx_s_aload_n C d_M_init_50 rfl,
  mx_s_bipush C d_M_init_51 (by decide),
  mx_s_newl C (fun ad F k q x h h0 => mx_Ok1_up h h0) (List.mem_cons_of_mem _ (mx_in0 (by decide +kernel) rfl)) d_M_init_53 ⟨Nat.le_refl _, Nat.le_refl _⟩,
  mx_s_putrF (T := T_M) (N := 18) (k := 10) C hin2 (fun w h => List.mem_cons_of_mem _ (in_M w h)) rfl ty_M ok_M nm_M (by decide) (List.mem_cons_of_mem _ fk_M_29) rfl rfl (ok_M 10 (by decide)) (fun _ => rfl) (fun _ => rfl) d_M_init_55,
  mx_s_aload_n C d_M_init_58 rfl,
  mx_s_sipush C d_M_init_59 (by decide),
  mx_s_newi C (fun ad F k q x h h0 => mx_Ok1_up h h0) (List.mem_cons_of_mem _ (mx_in0 (by decide +kernel) rfl)) d_M_init_62 ⟨Nat.le_refl _, Nat.le_refl _⟩,
  mx_s_putrF (T := T_M) (N := 18) (k := 12) C hin2 (fun w h => List.mem_cons_of_mem _ (in_M w h)) rfl ty_M ok_M nm_M (by decide) (List.mem_cons_of_mem _ fk_M_33) rfl rfl (ok_M 12 (by decide)) (fun _ => rfl) (fun _ => rfl) d_M_init_64,
  mx_s_aload_n C d_M_init_67 rfl,
  mx_s_iconst C d_M_init_68 (by decide),
  mx_s_newi C (fun ad F k q x h h0 => mx_Ok1_up h h0) (List.mem_cons_of_mem _ (mx_in0 (by decide +kernel) rfl)) d_M_init_69 ⟨Nat.le_refl _, Nat.le_refl _⟩,
  mx_s_putrF (T := T_M) (N := 18) (k := 13) C hin2 (fun w h => List.mem_cons_of_mem _ (in_M w h)) rfl ty_M ok_M nm_M (by decide) (List.mem_cons_of_mem _ fk_M_36) rfl rfl (ok_M 13 (by decide)) (fun _ => rfl) (fun _ => rfl) d_M_init_71,
  mx_s_aload_n C d_M_init_74 rfl,
  mx_s_bipush C d_M_init_75 (by decide),
  mx_s_newi C (fun ad F k q x h h0 => mx_Ok1_up h h0) (List.mem_cons_of_mem _ (mx_in0 (by decide +kernel) rfl)) d_M_init_77 ⟨Nat.le_refl _, Nat.le_refl _⟩,
  mx_s_putrF (T := T_M) (N := 18) (k := 14) C hin2 (fun w h => List.mem_cons_of_mem _ (in_M w h)) rfl ty_M ok_M nm_M (by decide) (List.mem_cons_of_mem _ fk_M_39) rfl rfl (ok_M 14 (by decide)) (fun _ => rfl) (fun _ => rfl) d_M_init_79,
  mx_s_aload_n C d_M_init_82 rfl,
  mx_s_bipush C d_M_init_83 (by decide),
  mx_s_newi C (fun ad F k q x h h0 => mx_Ok1_up h h0) (List.mem_cons_of_mem _ (mx_in0 (by decide +kernel) rfl)) d_M_init_85 ⟨Nat.le_refl _, Nat.le_refl _⟩,
  mx_s_putrF (T := T_M) (N := 18) (k := 16) C hin2 (fun w h => List.mem_cons_of_mem _ (in_M w h)) rfl ty_M ok_M nm_M (by decide) (List.mem_cons_of_mem _ fk_M_42) rfl rfl (ok_M 16 (by decide)) (fun _ => rfl) (fun _ => rfl) d_M_init_87,
  mx_s_aload_n C d_M_init_90 rfl,
  mx_s_bipush C d_M_init_91 (by decide),
  mx_s_newi C (fun ad F k q x h h0 => mx_Ok1_up h h0) (List.mem_cons_of_mem _ (mx_in0 (by decide +kernel) rfl)) d_M_init_93 ⟨Nat.le_refl _, Nat.le_refl _⟩,
  mx_s_putrF (T := T_M) (N := 18) (k := 17) C hin2 (fun w h => List.mem_cons_of_mem _ (in_M w h)) rfl ty_M ok_M nm_M (by decide) (List.mem_cons_of_mem _ fk_M_45) rfl rfl (ok_M 17 (by decide)) (fun _ => rfl) (fun _ => rfl) d_M_init_95,
  mx_s_ret1 C hr hlk d_M_init_98,
  trivial⟩
set_option maxRecDepth 20000 in
set_option maxHeartbeats 2000000 in
theorem m_M_init (l : Launch) : mx_M1 l y_M_init w_M_init rm_M_init sp_M_init := by
  intro zD ztc ztb zad As F P sz0 h
  obtain ⟨rfl, h1, h41, n41, h42, n42, h43, n43, h44, n44, h45, n45, h46, n46, h47, n47, h48, n48, h49, n49, h50, n50, h51, n51, hp⟩ := h
  refine mx_run1 (cc := c_M_init) (maxL := 1) (ret := none) (tab := t_M_init  P) (by decide) rfl zD ztc ztb zad _ F P sz0 (Nat.le_of_ble_eq_true rfl) (fun p e s m args below meth c C hr hlk hnm => a_M_init  C hr hlk (by rw [hnm]; rfl)) ?_
  intro Rr go
  rw [mx_as1 h1]
  refine go rfl ⟨_, rfl, ?_⟩
  refine go rfl ⟨_, _, rfl, rfl, ?_⟩
  refine go rfl ⟨_, rfl, ?_⟩
  refine go rfl ?_
  refine go rfl ⟨_, _, rfl, rfl, (h41), (mx_no_put (n41) (mx_noO rfl)), rfl, rfl, rfl, rfl, ?_⟩
  refine go rfl ⟨_, _, _, _, rfl, rfl, (Nat.le_of_ble_eq_true rfl), ?_⟩
  rw [mx_pc _ _ _ (show (41 : Nat) ≠ 40 by decide), mx_pp]
  refine go rfl ⟨_, rfl, ?_⟩
  refine go rfl ?_
  refine go rfl ⟨_, _, rfl, rfl, (h42), (mx_no_put (mx_no_put (n42) mx_noI) (mx_noO rfl)), rfl, rfl, rfl, rfl, ?_⟩
  refine go rfl ⟨_, _, _, _, rfl, rfl, (Nat.le_of_ble_eq_true rfl), ?_⟩
  rw [mx_pc _ _ _ (show (42 : Nat) ≠ 40 by decide), mx_pp]
  refine go rfl ⟨_, rfl, ?_⟩
  refine go rfl ?_
  refine go rfl ⟨_, _, rfl, rfl, (h43), (mx_no_put (mx_no_put (mx_no_put (n43) mx_noI) mx_noI) (mx_noO rfl)), rfl, rfl, rfl, rfl, ?_⟩
  refine go rfl ⟨_, _, _, _, rfl, rfl, (Nat.le_of_ble_eq_true rfl), ?_⟩
  rw [mx_pc _ _ _ (show (43 : Nat) ≠ 40 by decide), mx_pp]
  refine go rfl ⟨_, rfl, ?_⟩
  refine go rfl ?_
  refine go rfl ⟨_, _, _, _, rfl, rfl, (Nat.le_of_ble_eq_true rfl), ?_⟩
  rw [mx_pp]
  refine go rfl ⟨_, rfl, ?_⟩
  refine go rfl ?_
  refine go rfl ⟨_, _, rfl, rfl, (h44), (mx_no_put (mx_no_put (mx_no_put (mx_no_put (n44) mx_noI) mx_noI) mx_noI) (mx_noO rfl)), rfl, rfl, rfl, rfl, ?_⟩
  refine go rfl ⟨_, _, _, _, rfl, rfl, (Nat.le_of_ble_eq_true rfl), ?_⟩
  rw [mx_pc _ _ _ (show (44 : Nat) ≠ 40 by decide), mx_pp]
  refine go rfl ⟨_, rfl, ?_⟩
  refine go rfl ?_
  refine go rfl ⟨_, _, rfl, rfl, (h45), (mx_no_put (mx_no_put (mx_no_put (mx_no_put (mx_no_put (n45) mx_noI) mx_noI) mx_noI) mx_noI) (mx_noO rfl)), rfl, rfl, rfl, rfl, ?_⟩
  refine go rfl ⟨_, _, _, _, rfl, rfl, (Nat.le_of_ble_eq_true rfl), ?_⟩
  rw [mx_pc _ _ _ (show (45 : Nat) ≠ 40 by decide), mx_pp]
  refine go rfl ⟨_, rfl, ?_⟩
  refine go rfl ?_
  refine go rfl ⟨_, _, rfl, rfl, (h46), (mx_no_put (mx_no_put (mx_no_put (mx_no_put (mx_no_put (mx_no_put (n46) mx_noI) mx_noI) mx_noI) mx_noI) mx_noI) (mx_noO rfl)), rfl, rfl, rfl, rfl, ?_⟩
  refine go rfl ⟨_, _, _, _, rfl, rfl, (Nat.le_of_ble_eq_true rfl), ?_⟩
  rw [mx_pc _ _ _ (show (46 : Nat) ≠ 40 by decide), mx_pp]
  refine go rfl ⟨_, rfl, ?_⟩
  refine go rfl ?_
  refine go rfl ⟨_, _, rfl, rfl, (h47), (mx_no_put (mx_no_put (mx_no_put (mx_no_put (mx_no_put (mx_no_put (mx_no_put (n47) mx_noI) mx_noI) mx_noI) mx_noI) mx_noI) mx_noL) (mx_noO rfl)), rfl, rfl, rfl, rfl, ?_⟩
  refine go rfl ⟨_, _, _, _, rfl, rfl, (Nat.le_of_ble_eq_true rfl), ?_⟩
  rw [mx_pc _ _ _ (show (47 : Nat) ≠ 40 by decide), mx_pp]
  refine go rfl ⟨_, rfl, ?_⟩
  refine go rfl ?_
  refine go rfl ⟨_, _, rfl, rfl, (h48), (mx_no_put (mx_no_put (mx_no_put (mx_no_put (mx_no_put (mx_no_put (mx_no_put (mx_no_put (n48) mx_noI) mx_noI) mx_noI) mx_noI) mx_noI) mx_noL) mx_noI) (mx_noO rfl)), rfl, rfl, rfl, rfl, ?_⟩
  refine go rfl ⟨_, _, _, _, rfl, rfl, (Nat.le_of_ble_eq_true rfl), ?_⟩
  rw [mx_pc _ _ _ (show (48 : Nat) ≠ 40 by decide), mx_pp]
  refine go rfl ⟨_, rfl, ?_⟩
  refine go rfl ?_
  refine go rfl ⟨_, _, rfl, rfl, (h49), (mx_no_put (mx_no_put (mx_no_put (mx_no_put (mx_no_put (mx_no_put (mx_no_put (mx_no_put (mx_no_put (n49) mx_noI) mx_noI) mx_noI) mx_noI) mx_noI) mx_noL) mx_noI) mx_noI) (mx_noO rfl)), rfl, rfl, rfl, rfl, ?_⟩
  refine go rfl ⟨_, _, _, _, rfl, rfl, (Nat.le_of_ble_eq_true rfl), ?_⟩
  rw [mx_pc _ _ _ (show (49 : Nat) ≠ 40 by decide), mx_pp]
  refine go rfl ⟨_, rfl, ?_⟩
  refine go rfl ?_
  refine go rfl ⟨_, _, rfl, rfl, (h50), (mx_no_put (mx_no_put (mx_no_put (mx_no_put (mx_no_put (mx_no_put (mx_no_put (mx_no_put (mx_no_put (mx_no_put (n50) mx_noI) mx_noI) mx_noI) mx_noI) mx_noI) mx_noL) mx_noI) mx_noI) mx_noI) (mx_noO rfl)), rfl, rfl, rfl, rfl, ?_⟩
  refine go rfl ⟨_, _, _, _, rfl, rfl, (Nat.le_of_ble_eq_true rfl), ?_⟩
  rw [mx_pc _ _ _ (show (50 : Nat) ≠ 40 by decide), mx_pp]
  refine go rfl ⟨_, rfl, ?_⟩
  refine go rfl ?_
  refine go rfl ⟨_, _, rfl, rfl, (h51), (mx_no_put (mx_no_put (mx_no_put (mx_no_put (mx_no_put (mx_no_put (mx_no_put (mx_no_put (mx_no_put (mx_no_put (mx_no_put (n51) mx_noI) mx_noI) mx_noI) mx_noI) mx_noI) mx_noL) mx_noI) mx_noI) mx_noI) mx_noI) (mx_noO rfl)), rfl, rfl, rfl, rfl, ?_⟩
  refine go rfl ⟨_, _, _, _, rfl, rfl, (Nat.le_of_ble_eq_true rfl), ?_⟩
  rw [mx_pc _ _ _ (show (51 : Nat) ≠ 40 by decide), mx_pp]
  refine go rfl ⟨rfl, rfl, rfl, ?_⟩
  exact hp
