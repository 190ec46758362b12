theorem mx_out {F : mx_F} {k j : Nat} {e : mx_E} (h : F k = none ∧ mx_no k F) (hk : k ≠ j) (he : mx_noE k e) : mx_put F j e k = none ∧ mx_no k (mx_put F j e) := ⟨by rw [mx_put_ne hk]; exact h.1, mx_no_put h.2 he⟩
/-- what a cell points to lies below n -/
def mx_lo (n : Nat) : mx_V → Bool
  | .inr (.inr (.inl (some q))) => Nat.blt q n
  | _ => true
theorem mx_noB {k ci n : Nat} {fs : List mx_V} (hk : n ≤ k) (h : fs.all (mx_lo n) = true) : mx_noE k (mx_ob ci fs) := by
  intro v hv z
  have h1 := List.all_eq_true.mp h v hv
  rw [z] at h1
  have h2 : k < n := Nat.le_of_ble_eq_true h1
  omega
theorem mx_noQ {k t n : Nat} {f : Nat → Option Nat} (h : ∀ i, f i ≠ some k) : mx_noE k (mx_qa t n f) := h
theorem g5_in {a i q : Nat} (h : mx_g5 a i = some q) : a ≤ q ∧ q < a + 5 := by
  unfold mx_g5 at h
  split at h
  · cases h
    omega
  · cases h
theorem qh_lt {i q : Nat} (h : qh i = some q) : q < 29 := by
  have := g5_in h
  omega
theorem qo_lt {i q : Nat} (h : qo i = some q) : q < 29 := by
  have := g5_in h
  omega
theorem mx_sw15 {F : mx_F} {a b : mx_E} {j : Nat} (h : j ≠ 15) : mx_put (mx_put F 15 a) j b = mx_put (mx_put F j b) 15 a := mx_pc F a b h
theorem mx_out_rows {F : mx_F} {k a n : Nat} (h : F k = none ∧ mx_no k F) (hk : k < a ∨ a + 5 ≤ k) : mx_rows F a n k = none ∧ mx_no k (mx_rows F a n) := by
  unfold mx_rows
  exact mx_out (mx_out (mx_out (mx_out (mx_out h (by omega) mx_noL) (by omega) mx_noL) (by omega) mx_noL) (by omega) mx_noL) (by omega) mx_noL
abbrev qw (F : mx_F) : mx_F := (mx_put (mx_put (mx_put (mx_put (mx_put (mx_put (mx_put (mx_put (mx_put (mx_put (mx_put (mx_put (mx_put (mx_put F 19 (mx_la 26 (fun _ => 0))) 20 (mx_la 26 (fun _ => 0))) 21 (mx_la 26 (fun _ => 0))) 22 (mx_la 26 (fun _ => 0))) 23 (mx_la 26 (fun _ => 0))) 16 (mx_qa 2 5 qh)) 24 (mx_la 5 (fun _ => 0))) 25 (mx_la 5 (fun _ => 0))) 26 (mx_la 5 (fun _ => 0))) 27 (mx_la 5 (fun _ => 0))) 28 (mx_la 5 (fun _ => 0))) 17 (mx_qa 2 5 qo)) 18 (mx_ia 5 (fun _ => 0))) 15 (e_Q 0 0))
-- LadderWords$Squares.<init>(LLadderWords$Words;)V
def sp_Q_init : mx_Sp := fun As F P => As = [mx_r 15, mx_r 3] ∧ F 15 = some (mx_ob 4 [mx_null, mx_null, mx_null, mx_null, mx_i 0, mx_i 0]) ∧ (∀ k, 16 ≤ k → F k = none ∧ mx_no k F) ∧ P none (qw F)
theorem d_Q_init_0 : decode c_Q_init 0 = .ok (.aload_n 0, 1) := by decide +kernel
theorem d_Q_init_1 : decode c_Q_init 1 = .ok (.invokespecial 3, 3) := by decide +kernel
theorem d_Q_init_4 : decode c_Q_init 4 = .ok (.aload_n 0, 1) := by decide +kernel
theorem d_Q_init_5 : decode c_Q_init 5 = .ok (.iconst 5, 1) := by decide +kernel
theorem d_Q_init_6 : decode c_Q_init 6 = .ok (.bipush 26, 2) := by decide +kernel
theorem d_Q_init_8 : decode c_Q_init 8 = .ok (.multianewarray 11 2, 4) := by decide +kernel
theorem d_Q_init_12 : decode c_Q_init 12 = .ok (.putfield 13, 3) := by decide +kernel
theorem d_Q_init_15 : decode c_Q_init 15 = .ok (.aload_n 0, 1) := by decide +kernel
theorem d_Q_init_16 : decode c_Q_init 16 = .ok (.iconst 5, 1) := by decide +kernel
theorem d_Q_init_17 : decode c_Q_init 17 = .ok (.iconst 5, 1) := by decide +kernel
theorem d_Q_init_18 : decode c_Q_init 18 = .ok (.multianewarray 11 2, 4) := by decide +kernel
theorem d_Q_init_22 : decode c_Q_init 22 = .ok (.putfield 16, 3) := by decide +kernel
theorem d_Q_init_25 : decode c_Q_init 25 = .ok (.aload_n 0, 1) := by decide +kernel
theorem d_Q_init_26 : decode c_Q_init 26 = .ok (.iconst 5, 1) := by decide +kernel
theorem d_Q_init_27 : decode c_Q_init 27 = .ok (.newarray .int, 2) := by decide +kernel
theorem d_Q_init_29 : decode c_Q_init 29 = .ok (.putfield 19, 3) := by decide +kernel
theorem d_Q_init_32 : decode c_Q_init 32 = .ok (.aload_n 0, 1) := by decide +kernel
theorem d_Q_init_33 : decode c_Q_init 33 = .ok (.aload_n 1, 1) := by decide +kernel
theorem d_Q_init_34 : decode c_Q_init 34 = .ok (.putfield 23, 3) := by decide +kernel
theorem d_Q_init_37 : decode c_Q_init 37 = .ok (.return_, 1) := by decide +kernel
abbrev w_Q_init : List Cond := mx_ws y_Q_init c_Q_init 2 none
abbrev rm_Q_init : Room := { frames := 20, cells := 13, slots := 170, locals := 400 }
def t_Q_init  (P : Option mx_V → mx_F → Prop) : List (Nat × mx_O) := [
  (0, mx_aload 0 1),
  (1, mx_oi 4),
  (4, mx_aload 0 5),
  (5, mx_push (.inl (nI 5)) 6),
  (6, mx_push (.inl (nI 26)) 8),
  (8, mx_newg 16 19 13 170 12),
  (12, mx_putrF 4 1 15),
  (15, mx_aload 0 16),
  (16, mx_push (.inl (nI 5)) 17),
  (17, mx_push (.inl (nI 5)) 18),
  (18, mx_newg 17 24 13 170 22),
  (22, mx_putrF 4 2 25),
  (25, mx_aload 0 26),
  (26, mx_push (.inl (nI 5)) 27),
  (27, mx_newi 18 13 170 29),
  (29, mx_putrF 4 3 32),
  (32, mx_aload 0 33),
  (33, mx_aload 1 34),
  (34, mx_putrF 4 0 37),
  (37, mx_ret1 P 13 170)]
set_option maxRecDepth 20000 in
theorem a_Q_init  {p : Program} {l : Launch} {e : Env} {s : State} {m : MethodId} {args : Array Value} {below : List Frame} {meth : Method} {c : Code} {D : va_G} {tc : Nat → ClassId} {tb : Nat → Nat} {sz : Nat} {a0 : Nat → Nat} {G : mx_F} {P : Option mx_V → mx_F → Prop}  (C : mx_C p s m args c c_Q_init y_Q_init.cls w_Q_init D tc tb (mx_A a0 G sz) 2 (mx_Ok1 a0 G)) (hr : meth.sig.returnType = none) (hlk : meth.locks = false) (hin2 : meth.name = "<init>") : mx_all (mx_W p l e rm_Q_init s m args below meth c (MQ below (mx_Q1 D tc tb a0 G sz P) args s rm_Q_init.cells rm_Q_init.slots (mx_A a0 G sz)) D tc tb (mx_A a0 G sz) 2 (mx_Ok1 a0 G)) (t_Q_init  P) :=
  ⟨mx_s_aload_n C d_Q_init_0 rfl,
  mx_s_oi C (List.mem_cons_of_mem _ (mx_in0 (by decide +kernel) rfl)) (List.mem_cons_of_mem _ (mx_in0 (by decide +kernel) rfl)) (List.mem_cons_of_mem _ (mx_in0 (by decide +kernel) rfl)) d_Q_init_1 ⟨by decide, by decide⟩,
  mx_s_aload_n C d_Q_init_4 rfl,
  mx_s_iconst C d_Q_init_5 (by decide),
  mx_s_bipush C d_Q_init_6 (by decide),
  mx_s_newg C (fun ad ad' F F' h h0 => mx_Ok1_tr h h0) (List.mem_cons_of_mem _ (mx_in0 (by decide +kernel) rfl)) d_Q_init_8 ⟨Nat.le_refl _, Nat.le_refl _⟩,
  mx_s_putrF (T := T_Q) (N := 6) (k := 1) C hin2 (fun w h => List.mem_cons_of_mem _ (in_Q w h)) rfl ty_Q ok_Q nm_Q (by decide) (List.mem_cons_of_mem _ fk_Q_13) rfl rfl (ok_Q 1 (by decide)) (fun _ => rfl) (fun _ => rfl) d_Q_init_12,
  mx_s_aload_n C d_Q_init_15 rfl,
  mx_s_iconst C d_Q_init_16 (by decide),
  mx_s_iconst C d_Q_init_17 (by decide),
  mx_s_newg C (fun ad ad' F F' h h0 => mx_Ok1_tr h h0) (List.mem_cons_of_mem _ (mx_in0 (by decide +kernel) rfl)) d_Q_init_18 ⟨Nat.le_refl _, Nat.le_refl _⟩,
  mx_s_putrF (T := T_Q) (N := 6) (k := 2) C hin2 (fun w h => List.mem_cons_of_mem _ (in_Q w h)) rfl ty_Q ok_Q nm_Q (by decide) (List.mem_cons_of_mem _ fk_Q_16) rfl rfl (ok_Q 2 (by decide)) (fun _ => rfl) (fun _ => rfl) d_Q_init_22,
  mx_s_aload_n C d_Q_init_25 rfl,
  mx_s_iconst C d_Q_init_26 (by decide),
  mx_s_newi C (fun ad F k q x h h0 => mx_Ok1_up h h0) (List.mem_cons_of_mem _ (mx_in0 (by decide +kernel) rfl)) d_Q_init_27 ⟨Nat.le_refl _, Nat.le_refl _⟩,
  mx_s_putrF (T := T_Q) (N := 6) (k := 3) C hin2 (fun w h => List.mem_cons_of_mem _ (in_Q w h)) rfl ty_Q ok_Q nm_Q (by decide) (List.mem_cons_of_mem _ fk_Q_19) rfl rfl (ok_Q 3 (by decide)) (fun _ => rfl) (fun _ => rfl) d_Q_init_29,
  mx_s_aload_n C d_Q_init_32 rfl,
  mx_s_aload_n C d_Q_init_33 rfl,
  mx_s_putrF (T := T_Q) (N := 6) (k := 0) C hin2 (fun w h => List.mem_cons_of_mem _ (in_Q w h)) rfl ty_Q ok_Q nm_Q (by decide) (List.mem_cons_of_mem _ fk_Q_23) rfl rfl (ok_Q 0 (by decide)) (fun _ => rfl) (fun _ => rfl) d_Q_init_34,
  mx_s_ret1 C hr hlk d_Q_init_37,
  trivial⟩
set_option maxRecDepth 20000 in
set_option maxHeartbeats 2000000 in
theorem m_Q_init (l : Launch) : mx_M1 l y_Q_init w_Q_init rm_Q_init sp_Q_init := by
  intro zD ztc ztb zad As F P sz0 h
  obtain ⟨rfl, h15, hf, hp⟩ := h
  refine mx_run1 (cc := c_Q_init) (maxL := 2) (ret := none) (tab := t_Q_init  P) (by decide) rfl zD ztc ztb zad _ F P sz0 (Nat.le_of_ble_eq_true rfl) (fun p e s m args below meth c C hr hlk hnm => a_Q_init  C hr hlk (by rw [hnm]; rfl)) ?_
  intro Rr go
  rw [mx_as1 h15]
  have o0 : ∀ q, 16 ≤ q → (mx_put F 15 (mx_ob 4 [mx_null, mx_null, mx_null, mx_null, mx_i 0, mx_i 0])) q = none ∧ mx_no q (mx_put F 15 (mx_ob 4 [mx_null, mx_null, mx_null, mx_null, mx_i 0, mx_i 0])) := fun q hq => mx_out (hf q hq) (by omega) (mx_noB (n := 16) hq rfl)
  have f0 : ∀ q, (q = 16 ∨ (19 ≤ q ∧ q < 19 + 5)) → (mx_put F 15 (mx_ob 4 [mx_null, mx_null, mx_null, mx_null, mx_i 0, mx_i 0])) q = none ∧ mx_no q (mx_put F 15 (mx_ob 4 [mx_null, mx_null, mx_null, mx_null, mx_i 0, mx_i 0])) ∧ mx_nrL q (mx_en [mx_r 15, mx_r 3] 2) = true ∧ mx_nrS q [mx_r 15] = true := by
    intro q hq
    have o := o0 q (by omega)
    refine ⟨o.1, o.2, ?_⟩
    rcases (show q = 16 ∨ q = 19 ∨ q = 20 ∨ q = 21 ∨ q = 22 ∨ q = 23 by omega) with rfl | rfl | rfl | rfl | rfl | rfl <;> exact ⟨rfl, rfl⟩
  refine go rfl ⟨_, rfl, ?_⟩
  refine go rfl ⟨_, _, rfl, rfl, ?_⟩
  refine go rfl ⟨_, rfl, ?_⟩
  refine go rfl ?_
  refine go rfl ?_
  refine go rfl ⟨_, _, rfl, rfl, (f0), (by decide), rfl, rfl, ?_⟩
  refine go rfl ⟨_, _, _, _, rfl, rfl, (Nat.le_of_ble_eq_true rfl), ?_⟩
  show Rr 15 _ _ (mx_put (mx_put (mx_rows (mx_put F 15 (mx_ob 4 [mx_null, mx_null, mx_null, mx_null, mx_i 0, mx_i 0])) 19 26) 16 (mx_qa 2 5 (mx_g5 19))) 15 (mx_ob 4 [mx_null, mx_r 16, mx_null, mx_null, mx_i 0, mx_i 0])) _ _
  have o2 : ∀ q, (q = 17 ∨ q = 18 ∨ 24 ≤ q) → (mx_put (mx_put (mx_rows (mx_put F 15 (mx_ob 4 [mx_null, mx_null, mx_null, mx_null, mx_i 0, mx_i 0])) 19 26) 16 (mx_qa 2 5 (mx_g5 19))) 15 (mx_ob 4 [mx_null, mx_r 16, mx_null, mx_null, mx_i 0, mx_i 0])) q = none ∧ mx_no q (mx_put (mx_put (mx_rows (mx_put F 15 (mx_ob 4 [mx_null, mx_null, mx_null, mx_null, mx_i 0, mx_i 0])) 19 26) 16 (mx_qa 2 5 (mx_g5 19))) 15 (mx_ob 4 [mx_null, mx_r 16, mx_null, mx_null, mx_i 0, mx_i 0])) := fun q hq => mx_out (mx_out (mx_out_rows (o0 q (by omega)) (by omega)) (by omega) (mx_noQ (fun i z => by have := g5_in z; omega))) (by omega) (mx_noB (n := 17) (by omega) rfl)
  have f2 : ∀ q, (q = 17 ∨ (24 ≤ q ∧ q < 24 + 5)) → (mx_put (mx_put (mx_rows (mx_put F 15 (mx_ob 4 [mx_null, mx_null, mx_null, mx_null, mx_i 0, mx_i 0])) 19 26) 16 (mx_qa 2 5 (mx_g5 19))) 15 (mx_ob 4 [mx_null, mx_r 16, mx_null, mx_null, mx_i 0, mx_i 0])) q = none ∧ mx_no q (mx_put (mx_put (mx_rows (mx_put F 15 (mx_ob 4 [mx_null, mx_null, mx_null, mx_null, mx_i 0, mx_i 0])) 19 26) 16 (mx_qa 2 5 (mx_g5 19))) 15 (mx_ob 4 [mx_null, mx_r 16, mx_null, mx_null, mx_i 0, mx_i 0])) ∧ mx_nrL q (mx_en [mx_r 15, mx_r 3] 2) = true ∧ mx_nrS q [mx_r 15] = true := by
    intro q hq
    have o := o2 q (by omega)
    refine ⟨o.1, o.2, ?_⟩
    rcases (show q = 17 ∨ q = 24 ∨ q = 25 ∨ q = 26 ∨ q = 27 ∨ q = 28 by omega) with rfl | rfl | rfl | rfl | rfl | rfl <;> exact ⟨rfl, rfl⟩
  refine go rfl ⟨_, rfl, ?_⟩
  refine go rfl ?_
  refine go rfl ?_
  refine go rfl ⟨_, _, rfl, rfl, (f2), (by decide), rfl, rfl, ?_⟩
  refine go rfl ⟨_, _, _, _, rfl, rfl, (Nat.le_of_ble_eq_true rfl), ?_⟩
  show Rr 25 _ _ (mx_put (mx_put (mx_rows (mx_put (mx_put (mx_rows (mx_put F 15 (mx_ob 4 [mx_null, mx_null, mx_null, mx_null, mx_i 0, mx_i 0])) 19 26) 16 (mx_qa 2 5 (mx_g5 19))) 15 (mx_ob 4 [mx_null, mx_r 16, mx_null, mx_null, mx_i 0, mx_i 0])) 24 5) 17 (mx_qa 2 5 (mx_g5 24))) 15 (mx_ob 4 [mx_null, mx_r 16, mx_r 17, mx_null, mx_i 0, mx_i 0])) _ _
  have o4 : (mx_put (mx_put (mx_rows (mx_put (mx_put (mx_rows (mx_put F 15 (mx_ob 4 [mx_null, mx_null, mx_null, mx_null, mx_i 0, mx_i 0])) 19 26) 16 (mx_qa 2 5 (mx_g5 19))) 15 (mx_ob 4 [mx_null, mx_r 16, mx_null, mx_null, mx_i 0, mx_i 0])) 24 5) 17 (mx_qa 2 5 (mx_g5 24))) 15 (mx_ob 4 [mx_null, mx_r 16, mx_r 17, mx_null, mx_i 0, mx_i 0])) 18 = none ∧ mx_no 18 (mx_put (mx_put (mx_rows (mx_put (mx_put (mx_rows (mx_put F 15 (mx_ob 4 [mx_null, mx_null, mx_null, mx_null, mx_i 0, mx_i 0])) 19 26) 16 (mx_qa 2 5 (mx_g5 19))) 15 (mx_ob 4 [mx_null, mx_r 16, mx_null, mx_null, mx_i 0, mx_i 0])) 24 5) 17 (mx_qa 2 5 (mx_g5 24))) 15 (mx_ob 4 [mx_null, mx_r 16, mx_r 17, mx_null, mx_i 0, mx_i 0])) := mx_out (mx_out (mx_out_rows (o2 18 (by decide)) (by decide)) (by decide) (mx_noQ (fun i z => by have := g5_in z; omega))) (by decide) (mx_noB (n := 18) (by decide) rfl)
  refine go rfl ⟨_, rfl, ?_⟩
  refine go rfl ?_
  refine go rfl ⟨_, _, rfl, rfl, (o4.1), (o4.2), rfl, rfl, rfl, rfl, ?_⟩
  refine go rfl ⟨_, _, _, _, rfl, rfl, (Nat.le_of_ble_eq_true rfl), ?_⟩
  refine go rfl ⟨_, rfl, ?_⟩
  refine go rfl ⟨_, rfl, ?_⟩
  refine go rfl ⟨_, _, _, _, rfl, rfl, (Nat.le_of_ble_eq_true rfl), ?_⟩
  refine go rfl ⟨rfl, rfl, rfl, ?_⟩
  have e1 : P none (qw F) := hp
  unfold mx_rows
  simp only [Nat.reduceAdd]
  simp (decide := true) only [mx_pp, mx_sw15]
  exact hp
/-- a new object's cells -/
def fr_L (F : mx_F) : Prop := F 0 = some e_L ∧ F 1 = some (e_R 0) ∧ F 2 = some (mx_ia 12 (fun _ => 0)) ∧ F 3 = some (e_W 0) ∧ F 4 = some (mx_ia 360 (fun _ => 0)) ∧ F 5 = some (mx_ia 61 (fun _ => 0)) ∧ F 6 = some (e_D 0 0 0) ∧ F 7 = some (mx_ia 60 (fun _ => 0)) ∧ F 8 = some (mx_la 60 (fun _ => 0)) ∧ F 9 = some (mx_ia 60 (fun _ => 0)) ∧ F 10 = some (e_G 0 0 0 0) ∧ F 11 = some (mx_ia 60 (fun _ => 0)) ∧ F 12 = some (mx_la 60 (fun _ => 0)) ∧ F 13 = some (mx_ia 4 (fun _ => 0)) ∧ F 14 = some (mx_ia 800 (fun _ => 0)) ∧ F 15 = some (e_Q 0 0) ∧ F 16 = some (mx_qa 2 5 qh) ∧ F 17 = some (mx_qa 2 5 qo) ∧ F 18 = some (mx_ia 5 (fun _ => 0)) ∧ F 19 = some (mx_la 26 (fun _ => 0)) ∧ F 20 = some (mx_la 26 (fun _ => 0)) ∧ F 21 = some (mx_la 26 (fun _ => 0)) ∧ F 22 = some (mx_la 26 (fun _ => 0)) ∧ F 23 = some (mx_la 26 (fun _ => 0)) ∧ F 24 = some (mx_la 5 (fun _ => 0)) ∧ F 25 = some (mx_la 5 (fun _ => 0)) ∧ F 26 = some (mx_la 5 (fun _ => 0)) ∧ F 27 = some (mx_la 5 (fun _ => 0)) ∧ F 28 = some (mx_la 5 (fun _ => 0)) ∧ F 29 = some e_C ∧ F 30 = some (mx_ia 64 (fun _ => 0))
-- LadderWords.<init>()V
def sp_L_init : mx_Sp := fun As F P => As = [mx_r 0] ∧ F 0 = some (mx_ob 6 [mx_null, mx_null, mx_null, mx_null, mx_null, mx_null]) ∧ (∀ k, 1 ≤ k → F k = none ∧ mx_no k F) ∧ ∀ F', fr_L F' → (∀ k, 31 ≤ k → F' k = none ∧ mx_no k F') → P none F'
theorem d_L_init_0 : decode c_L_init 0 = .ok (.aload_n 0, 1) := by decide +kernel
theorem d_L_init_1 : decode c_L_init 1 = .ok (.invokespecial 1, 3) := by decide +kernel
theorem d_L_init_4 : decode c_L_init 4 = .ok (.aload_n 0, 1) := by decide +kernel
theorem d_L_init_5 : decode c_L_init 5 = .ok (.new 7, 3) := by decide +kernel
theorem d_L_init_8 : decode c_L_init 8 = .ok (.dup, 1) := by decide +kernel
theorem d_L_init_9 : decode c_L_init 9 = .ok (.invokespecial 9, 3) := by decide +kernel
theorem d_L_init_12 : decode c_L_init 12 = .ok (.putfield 10, 3) := by decide +kernel
theorem d_L_init_15 : decode c_L_init 15 = .ok (.aload_n 0, 1) := by decide +kernel
theorem d_L_init_16 : decode c_L_init 16 = .ok (.new 16, 3) := by decide +kernel
theorem d_L_init_19 : decode c_L_init 19 = .ok (.dup, 1) := by decide +kernel
theorem d_L_init_20 : decode c_L_init 20 = .ok (.invokespecial 18, 3) := by decide +kernel
theorem d_L_init_23 : decode c_L_init 23 = .ok (.putfield 19, 3) := by decide +kernel
theorem d_L_init_26 : decode c_L_init 26 = .ok (.aload_n 0, 1) := by decide +kernel
theorem d_L_init_27 : decode c_L_init 27 = .ok (.new 23, 3) := by decide +kernel
theorem d_L_init_30 : decode c_L_init 30 = .ok (.dup, 1) := by decide +kernel
theorem d_L_init_31 : decode c_L_init 31 = .ok (.aload_n 0, 1) := by decide +kernel
theorem d_L_init_32 : decode c_L_init 32 = .ok (.getfield 19, 3) := by decide +kernel
theorem d_L_init_35 : decode c_L_init 35 = .ok (.invokespecial 25, 3) := by decide +kernel
theorem d_L_init_38 : decode c_L_init 38 = .ok (.putfield 28, 3) := by decide +kernel
theorem d_L_init_41 : decode c_L_init 41 = .ok (.aload_n 0, 1) := by decide +kernel
theorem d_L_init_42 : decode c_L_init 42 = .ok (.new 32, 3) := by decide +kernel
theorem d_L_init_45 : decode c_L_init 45 = .ok (.dup, 1) := by decide +kernel
theorem d_L_init_46 : decode c_L_init 46 = .ok (.aload_n 0, 1) := by decide +kernel
theorem d_L_init_47 : decode c_L_init 47 = .ok (.getfield 19, 3) := by decide +kernel
theorem d_L_init_50 : decode c_L_init 50 = .ok (.invokespecial 34, 3) := by decide +kernel
theorem d_L_init_53 : decode c_L_init 53 = .ok (.putfield 35, 3) := by decide +kernel
theorem d_L_init_56 : decode c_L_init 56 = .ok (.aload_n 0, 1) := by decide +kernel
theorem d_L_init_57 : decode c_L_init 57 = .ok (.new 39, 3) := by decide +kernel
theorem d_L_init_60 : decode c_L_init 60 = .ok (.dup, 1) := by decide +kernel
theorem d_L_init_61 : decode c_L_init 61 = .ok (.aload_n 0, 1) := by decide +kernel
theorem d_L_init_62 : decode c_L_init 62 = .ok (.getfield 19, 3) := by decide +kernel
theorem d_L_init_65 : decode c_L_init 65 = .ok (.invokespecial 41, 3) := by decide +kernel
theorem d_L_init_68 : decode c_L_init 68 = .ok (.putfield 42, 3) := by decide +kernel
theorem d_L_init_71 : decode c_L_init 71 = .ok (.aload_n 0, 1) := by decide +kernel
theorem d_L_init_72 : decode c_L_init 72 = .ok (.new 46, 3) := by decide +kernel
theorem d_L_init_75 : decode c_L_init 75 = .ok (.dup, 1) := by decide +kernel
theorem d_L_init_76 : decode c_L_init 76 = .ok (.aload_n 0, 1) := by decide +kernel
theorem d_L_init_77 : decode c_L_init 77 = .ok (.getfield 19, 3) := by decide +kernel
theorem d_L_init_80 : decode c_L_init 80 = .ok (.invokespecial 48, 3) := by decide +kernel
theorem d_L_init_83 : decode c_L_init 83 = .ok (.putfield 49, 3) := by decide +kernel
theorem d_L_init_86 : decode c_L_init 86 = .ok (.return_, 1) := by decide +kernel
abbrev w_L_init : List Cond := mx_ws y_L_init c_L_init 1 none
abbrev rm_L_init : Room := { frames := 30, cells := 30, slots := 1800, locals := 600 }
def t_L_init  (P : Option mx_V → mx_F → Prop) : List (Nat × mx_O) := [
  (0, mx_aload 0 1),
  (1, mx_oi 4),
  (4, mx_aload 0 5),
  (5, mx_new 3 1 2 [mx_null, mx_i 0] 30 1800 8),
  (8, mx_dup 9),
  (9, mx_ci0 sp_R_init 1 12 30 1800 12),
  (12, mx_putrF 6 0 15),
  (15, mx_aload 0 16),
  (16, mx_new 5 3 3 [mx_null, mx_null, mx_i 0] 30 1800 19),
  (19, mx_dup 20),
  (20, mx_ci0 sp_W_init 2 421 30 1800 23),
  (23, mx_putrF 6 1 26),
  (26, mx_aload 0 27),
  (27, mx_new 2 6 7 [mx_null, mx_null, mx_null, mx_null, mx_i 0, mx_l 0, mx_i 0] 30 1800 30),
  (30, mx_dup 31),
  (31, mx_aload 0 32),
  (32, mx_get 6 1 35),
  (35, mx_ci1 sp_D_init 3 180 30 1800 38),
  (38, mx_putrF 6 2 41),
  (41, mx_aload 0 42),
  (42, mx_new 0 10 9 [mx_null, mx_null, mx_null, mx_i 0, mx_null, mx_null, mx_i 0, mx_i 0, mx_i 0] 30 1800 45),
  (45, mx_dup 46),
  (46, mx_aload 0 47),
  (47, mx_get 6 1 50),
  (50, mx_ci1 sp_G_init 4 924 30 1800 53),
  (53, mx_putrF 6 3 56),
  (56, mx_aload 0 57),
  (57, mx_new 4 15 6 [mx_null, mx_null, mx_null, mx_null, mx_i 0, mx_i 0] 30 1800 60),
  (60, mx_dup 61),
  (61, mx_aload 0 62),
  (62, mx_get 6 1 65),
  (65, mx_ci1 sp_Q_init 13 170 30 1800 68),
  (68, mx_putrF 6 4 71),
  (71, mx_aload 0 72),
  (72, mx_new 1 29 2 [mx_null, mx_null] 30 1800 75),
  (75, mx_dup 76),
  (76, mx_aload 0 77),
  (77, mx_get 6 1 80),
  (80, mx_ci1 sp_C_init 1 64 30 1800 83),
  (83, mx_putrF 6 5 86),
  (86, mx_ret1 P 30 1800)]
set_option maxRecDepth 20000 in
theorem a_L_init  {p : Program} {l : Launch} {e : Env} {s : State} {m : MethodId} {args : Array Value} {below : List Frame} {meth : Method} {c : Code} {D : va_G} {tc : Nat → ClassId} {tb : Nat → Nat} {sz : Nat} {a0 : Nat → Nat} {G : mx_F} {P : Option mx_V → mx_F → Prop}  (C : mx_C p s m args c c_L_init y_L_init.cls w_L_init D tc tb (mx_A a0 G sz) 1 (mx_Ok1 a0 G)) (hr : meth.sig.returnType = none) (hlk : meth.locks = false) (hin2 : meth.name = "<init>") : mx_all (mx_W p l e rm_L_init s m args below meth c (MQ below (mx_Q1 D tc tb a0 G sz P) args s rm_L_init.cells rm_L_init.slots (mx_A a0 G sz)) D tc tb (mx_A a0 G sz) 1 (mx_Ok1 a0 G)) (t_L_init  P) :=
  ⟨mx_s_aload_n C d_L_init_0 rfl,
  mx_s_oi C (List.mem_cons_of_mem _ (mx_in0 (by decide +kernel) rfl)) (List.mem_cons_of_mem _ (mx_in0 (by decide +kernel) rfl)) (List.mem_cons_of_mem _ (mx_in0 (by decide +kernel) rfl)) d_L_init_1 ⟨by decide, by decide⟩,
  mx_s_aload_n C d_L_init_4 rfl,
  mx_s_new C (fun ad F k q x h h0 => mx_Ok1_up h h0) (fun w h => List.mem_cons_of_mem _ (in_R w h)) ty_R ok_R rfl (List.mem_cons_of_mem _ (mx_in0 (by decide +kernel) rfl)) (List.mem_cons_of_mem _ (mx_in0 (by decide +kernel) rfl)) (List.mem_cons_of_mem _ (mx_in0 (by decide +kernel) rfl)) (fun ad j hj => by rcases (show j = 0 ∨ j = 1 by omega) with rfl | rfl <;> rfl) (by decide) d_L_init_5 ⟨Nat.le_refl _, Nat.le_refl _⟩,
  mx_s_dup C d_L_init_8,
  mx_s_ciN0 C (fun ad ad' F F' h h0 => mx_Ok1_tr h h0) (m_R_init l) rfl rfl ⟨va_cnB 0 C.2.2.2.2.1 (mx_gI (fun w h => List.mem_cons_of_mem _ h) (mx_in0 (by decide +kernel) rfl)) rfl rfl rfl (C.2.2.2.2.2.2.2.1.2.2.1 (Jvm.Cond.methodLinkNest R_L 9 y_R_init "LadderWords") (by decide +kernel)) (C.2.2.2.2.1 (Jvm.Cond.initialized R_R) (List.mem_cons_of_mem _ (mx_in0 (by decide +kernel) rfl))) (by decide +kernel) ⟨by decide, by decide⟩, rfl, C.2.2.2.2.1 (Jvm.Cond.instanceMethod y_R_init) (List.mem_cons_of_mem _ (mx_in0 (by decide +kernel) rfl))⟩ d_L_init_9 ⟨Nat.le_refl _, Nat.le_refl _⟩,
  mx_s_putrF (T := T_L) (N := 6) (k := 0) C hin2 (fun w h => List.mem_cons_of_mem _ (in_L w h)) rfl ty_L ok_L nm_L (by decide) (List.mem_cons_of_mem _ fk_L_10) rfl rfl (ok_L 0 (by decide)) (fun _ => rfl) (fun _ => rfl) d_L_init_12,
  mx_s_aload_n C d_L_init_15 rfl,
  mx_s_new C (fun ad F k q x h h0 => mx_Ok1_up h h0) (fun w h => List.mem_cons_of_mem _ (in_W w h)) ty_W ok_W rfl (List.mem_cons_of_mem _ (mx_in0 (by decide +kernel) rfl)) (List.mem_cons_of_mem _ (mx_in0 (by decide +kernel) rfl)) (List.mem_cons_of_mem _ (mx_in0 (by decide +kernel) rfl)) (fun ad j hj => by rcases (show j = 0 ∨ j = 1 ∨ j = 2 by omega) with rfl | rfl | rfl <;> rfl) (by decide) d_L_init_16 ⟨Nat.le_refl _, Nat.le_refl _⟩,
  mx_s_dup C d_L_init_19,
  mx_s_ciN0 C (fun ad ad' F F' h h0 => mx_Ok1_tr h h0) (m_W_init l) rfl rfl ⟨va_cnB 0 C.2.2.2.2.1 (mx_gI (fun w h => List.mem_cons_of_mem _ h) (mx_in0 (by decide +kernel) rfl)) rfl rfl rfl (C.2.2.2.2.2.2.2.1.2.2.1 (Jvm.Cond.methodLinkNest R_L 18 y_W_init "LadderWords") (by decide +kernel)) (C.2.2.2.2.1 (Jvm.Cond.initialized R_W) (List.mem_cons_of_mem _ (mx_in0 (by decide +kernel) rfl))) (by decide +kernel) ⟨by decide, by decide⟩, rfl, C.2.2.2.2.1 (Jvm.Cond.instanceMethod y_W_init) (List.mem_cons_of_mem _ (mx_in0 (by decide +kernel) rfl))⟩ d_L_init_20 ⟨Nat.le_refl _, Nat.le_refl _⟩,
  mx_s_putrF (T := T_L) (N := 6) (k := 1) C hin2 (fun w h => List.mem_cons_of_mem _ (in_L w h)) rfl ty_L ok_L nm_L (by decide) (List.mem_cons_of_mem _ fk_L_19) rfl rfl (ok_L 1 (by decide)) (fun _ => rfl) (fun _ => rfl) d_L_init_23,
  mx_s_aload_n C d_L_init_26 rfl,
  mx_s_new C (fun ad F k q x h h0 => mx_Ok1_up h h0) (fun w h => List.mem_cons_of_mem _ (in_D w h)) ty_D ok_D rfl (List.mem_cons_of_mem _ (mx_in0 (by decide +kernel) rfl)) (List.mem_cons_of_mem _ (mx_in0 (by decide +kernel) rfl)) (List.mem_cons_of_mem _ (mx_in0 (by decide +kernel) rfl)) (fun ad j hj => by rcases (show j = 0 ∨ j = 1 ∨ j = 2 ∨ j = 3 ∨ j = 4 ∨ j = 5 ∨ j = 6 by omega) with rfl | rfl | rfl | rfl | rfl | rfl | rfl <;> rfl) (by decide) d_L_init_27 ⟨Nat.le_refl _, Nat.le_refl _⟩,
  mx_s_dup C d_L_init_30,
  mx_s_aload_n C d_L_init_31 rfl,
  mx_s_get (T := T_L) (N := 6) (k := 1) C (fun w h => List.mem_cons_of_mem _ (in_L w h)) rfl (by decide) (List.mem_cons_of_mem _ fk_L_19) rfl d_L_init_32,
  mx_s_ci1 C (fun ad ad' F F' h h0 => mx_Ok1_tr h h0) (m_D_init l) rfl rfl (cwI 1 C.2.2.2.2.1 (mx_gI (fun w h => List.mem_cons_of_mem _ h) (mx_in0 (by decide +kernel) rfl)) rfl rfl rfl (C.2.2.2.2.1 (Jvm.Cond.initialized R_D) (List.mem_cons_of_mem _ (mx_in0 (by decide +kernel) rfl))) (C.2.2.2.2.1 (Jvm.Cond.methodLink R_L 25 y_D_init) (List.mem_cons_of_mem _ (mx_in0 (by decide +kernel) rfl))) (C.2.2.2.2.1 (Jvm.Cond.instanceMethod y_D_init) (List.mem_cons_of_mem _ (mx_in0 (by decide +kernel) rfl))) rfl (by decide +kernel) ⟨by decide, by decide⟩) d_L_init_35 ⟨Nat.le_refl _, Nat.le_refl _⟩,
  mx_s_putrF (T := T_L) (N := 6) (k := 2) C hin2 (fun w h => List.mem_cons_of_mem _ (in_L w h)) rfl ty_L ok_L nm_L (by decide) (List.mem_cons_of_mem _ fk_L_28) rfl rfl (ok_L 2 (by decide)) (fun _ => rfl) (fun _ => rfl) d_L_init_38,
  mx_s_aload_n C d_L_init_41 rfl,
  mx_s_new C (fun ad F k q x h h0 => mx_Ok1_up h h0) (fun w h => List.mem_cons_of_mem _ (in_G w h)) ty_G ok_G rfl (List.mem_cons_of_mem _ (mx_in0 (by decide +kernel) rfl)) (List.mem_cons_of_mem _ (mx_in0 (by decide +kernel) rfl)) (List.mem_cons_of_mem _ (mx_in0 (by decide +kernel) rfl)) (fun ad j hj => by rcases (show j = 0 ∨ j = 1 ∨ j = 2 ∨ j = 3 ∨ j = 4 ∨ j = 5 ∨ j = 6 ∨ j = 7 ∨ j = 8 by omega) with rfl | rfl | rfl | rfl | rfl | rfl | rfl | rfl | rfl <;> rfl) (by decide) d_L_init_42 ⟨Nat.le_refl _, Nat.le_refl _⟩,
  mx_s_dup C d_L_init_45,
  mx_s_aload_n C d_L_init_46 rfl,
  mx_s_get (T := T_L) (N := 6) (k := 1) C (fun w h => List.mem_cons_of_mem _ (in_L w h)) rfl (by decide) (List.mem_cons_of_mem _ fk_L_19) rfl d_L_init_47,
  mx_s_ci1 C (fun ad ad' F F' h h0 => mx_Ok1_tr h h0) (m_G_init l) rfl rfl (cwI 1 C.2.2.2.2.1 (mx_gI (fun w h => List.mem_cons_of_mem _ h) (mx_in0 (by decide +kernel) rfl)) rfl rfl rfl (C.2.2.2.2.1 (Jvm.Cond.initialized R_G) (List.mem_cons_of_mem _ (mx_in0 (by decide +kernel) rfl))) (C.2.2.2.2.1 (Jvm.Cond.methodLink R_L 34 y_G_init) (List.mem_cons_of_mem _ (mx_in0 (by decide +kernel) rfl))) (C.2.2.2.2.1 (Jvm.Cond.instanceMethod y_G_init) (List.mem_cons_of_mem _ (mx_in0 (by decide +kernel) rfl))) rfl (by decide +kernel) ⟨by decide, by decide⟩) d_L_init_50 ⟨Nat.le_refl _, Nat.le_refl _⟩,
  mx_s_putrF (T := T_L) (N := 6) (k := 3) C hin2 (fun w h => List.mem_cons_of_mem _ (in_L w h)) rfl ty_L ok_L nm_L (by decide) (List.mem_cons_of_mem _ fk_L_35) rfl rfl (ok_L 3 (by decide)) (fun _ => rfl) (fun _ => rfl) d_L_init_53,
  mx_s_aload_n C d_L_init_56 rfl,
  mx_s_new C (fun ad F k q x h h0 => mx_Ok1_up h h0) (fun w h => List.mem_cons_of_mem _ (in_Q w h)) ty_Q ok_Q rfl (List.mem_cons_of_mem _ (mx_in0 (by decide +kernel) rfl)) (List.mem_cons_of_mem _ (mx_in0 (by decide +kernel) rfl)) (List.mem_cons_of_mem _ (mx_in0 (by decide +kernel) rfl)) (fun ad j hj => by rcases (show j = 0 ∨ j = 1 ∨ j = 2 ∨ j = 3 ∨ j = 4 ∨ j = 5 by omega) with rfl | rfl | rfl | rfl | rfl | rfl <;> rfl) (by decide) d_L_init_57 ⟨Nat.le_refl _, Nat.le_refl _⟩,
  mx_s_dup C d_L_init_60,
  mx_s_aload_n C d_L_init_61 rfl,
  mx_s_get (T := T_L) (N := 6) (k := 1) C (fun w h => List.mem_cons_of_mem _ (in_L w h)) rfl (by decide) (List.mem_cons_of_mem _ fk_L_19) rfl d_L_init_62,
  mx_s_ci1 C (fun ad ad' F F' h h0 => mx_Ok1_tr h h0) (m_Q_init l) rfl rfl (cwI 1 C.2.2.2.2.1 (mx_gI (fun w h => List.mem_cons_of_mem _ h) (mx_in0 (by decide +kernel) rfl)) rfl rfl rfl (C.2.2.2.2.1 (Jvm.Cond.initialized R_Q) (List.mem_cons_of_mem _ (mx_in0 (by decide +kernel) rfl))) (C.2.2.2.2.1 (Jvm.Cond.methodLink R_L 41 y_Q_init) (List.mem_cons_of_mem _ (mx_in0 (by decide +kernel) rfl))) (C.2.2.2.2.1 (Jvm.Cond.instanceMethod y_Q_init) (List.mem_cons_of_mem _ (mx_in0 (by decide +kernel) rfl))) rfl (by decide +kernel) ⟨by decide, by decide⟩) d_L_init_65 ⟨Nat.le_refl _, Nat.le_refl _⟩,
  mx_s_putrF (T := T_L) (N := 6) (k := 4) C hin2 (fun w h => List.mem_cons_of_mem _ (in_L w h)) rfl ty_L ok_L nm_L (by decide) (List.mem_cons_of_mem _ fk_L_42) rfl rfl (ok_L 4 (by decide)) (fun _ => rfl) (fun _ => rfl) d_L_init_68,
  mx_s_aload_n C d_L_init_71 rfl,
  mx_s_new C (fun ad F k q x h h0 => mx_Ok1_up h h0) (fun w h => List.mem_cons_of_mem _ (in_C w h)) ty_C ok_C rfl (List.mem_cons_of_mem _ (mx_in0 (by decide +kernel) rfl)) (List.mem_cons_of_mem _ (mx_in0 (by decide +kernel) rfl)) (List.mem_cons_of_mem _ (mx_in0 (by decide +kernel) rfl)) (fun ad j hj => by rcases (show j = 0 ∨ j = 1 by omega) with rfl | rfl <;> rfl) (by decide) d_L_init_72 ⟨Nat.le_refl _, Nat.le_refl _⟩,
  mx_s_dup C d_L_init_75,
  mx_s_aload_n C d_L_init_76 rfl,
  mx_s_get (T := T_L) (N := 6) (k := 1) C (fun w h => List.mem_cons_of_mem _ (in_L w h)) rfl (by decide) (List.mem_cons_of_mem _ fk_L_19) rfl d_L_init_77,
  mx_s_ci1 C (fun ad ad' F F' h h0 => mx_Ok1_tr h h0) (m_C_init l) rfl rfl (cwI 1 C.2.2.2.2.1 (mx_gI (fun w h => List.mem_cons_of_mem _ h) (mx_in0 (by decide +kernel) rfl)) rfl rfl rfl (C.2.2.2.2.1 (Jvm.Cond.initialized R_C) (List.mem_cons_of_mem _ (mx_in0 (by decide +kernel) rfl))) (C.2.2.2.2.1 (Jvm.Cond.methodLink R_L 48 y_C_init) (List.mem_cons_of_mem _ (mx_in0 (by decide +kernel) rfl))) (C.2.2.2.2.1 (Jvm.Cond.instanceMethod y_C_init) (List.mem_cons_of_mem _ (mx_in0 (by decide +kernel) rfl))) rfl (by decide +kernel) ⟨by decide, by decide⟩) d_L_init_80 ⟨Nat.le_refl _, Nat.le_refl _⟩,
  mx_s_putrF (T := T_L) (N := 6) (k := 5) C hin2 (fun w h => List.mem_cons_of_mem _ (in_L w h)) rfl ty_L ok_L nm_L (by decide) (List.mem_cons_of_mem _ fk_L_49) rfl rfl (ok_L 5 (by decide)) (fun _ => rfl) (fun _ => rfl) d_L_init_83,
  mx_s_ret1 C hr hlk d_L_init_86,
  trivial⟩
set_option maxRecDepth 20000 in
set_option maxHeartbeats 2000000 in
theorem m_L_init (l : Launch) : mx_M1 l y_L_init w_L_init rm_L_init sp_L_init := by
  intro zD ztc ztb zad As F P sz0 h
  obtain ⟨rfl, h0, hf, hp⟩ := h
  refine mx_run1 (cc := c_L_init) (maxL := 1) (ret := none) (tab := t_L_init  P) (by decide) rfl zD ztc ztb zad _ F P sz0 (Nat.le_of_ble_eq_true rfl) (fun p e s m args below meth c C hr hlk hnm => a_L_init  C hr hlk (by rw [hnm]; rfl)) ?_
  intro Rr go
  rw [mx_as1 h0]
  have g0 : ∀ k, 1 ≤ k → (mx_put F 0 (mx_ob 6 [mx_null, mx_null, mx_null, mx_null, mx_null, mx_null])) k = none ∧ mx_no k (mx_put F 0 (mx_ob 6 [mx_null, mx_null, mx_null, mx_null, mx_null, mx_null])) := fun k hk => mx_out (hf k hk) (by omega) (mx_noB (n := 1) hk rfl)
  have r0 : (mx_put F 0 (mx_ob 6 [mx_null, mx_null, mx_null, mx_null, mx_null, mx_null])) 0 = some (mx_ob 6 [mx_null, mx_null, mx_null, mx_null, mx_null, mx_null]) := rfl
  generalize mx_put F 0 (mx_ob 6 [mx_null, mx_null, mx_null, mx_null, mx_null, mx_null]) = G0 at g0 r0
  rw [mx_as1 r0]
  refine go rfl ⟨_, rfl, ?_⟩
  refine go rfl ⟨_, _, rfl, rfl, ?_⟩
  refine go rfl ⟨_, rfl, ?_⟩
  refine go rfl ⟨((g0 1 (by decide)).1), (mx_no_put (g0 1 (by decide)).2 (mx_noO rfl)), rfl, rfl, rfl, rfl, ?_⟩
  refine go rfl ⟨_, _, rfl, rfl, ?_⟩
  refine go rfl ⟨_, _, rfl, rfl, rfl, rfl, rfl, rfl, ⟨rfl, rfl, (g0 2 (by decide)).1, mx_no_put (mx_no_put (g0 2 (by decide)).2 (mx_noO rfl)) (mx_noO rfl), ?_⟩⟩
  refine go rfl ⟨_, _, _, _, rfl, rfl, (Nat.le_of_ble_eq_true rfl), ?_⟩
  show Rr 15 _ _ (mx_put (mx_put (mx_put (mx_put (mx_put G0 0 (mx_ob 6 [mx_null, mx_null, mx_null, mx_null, mx_null, mx_null])) 1 (mx_ob 3 [mx_null, mx_i 0])) 2 (mx_ia 12 (fun _ => 0))) 1 (e_R 0)) 0 (mx_ob 6 [mx_r 1, mx_null, mx_null, mx_null, mx_null, mx_null])) _ _
  have g1 : ∀ k, 3 ≤ k → (mx_put (mx_put (mx_put (mx_put (mx_put G0 0 (mx_ob 6 [mx_null, mx_null, mx_null, mx_null, mx_null, mx_null])) 1 (mx_ob 3 [mx_null, mx_i 0])) 2 (mx_ia 12 (fun _ => 0))) 1 (e_R 0)) 0 (mx_ob 6 [mx_r 1, mx_null, mx_null, mx_null, mx_null, mx_null])) k = none ∧ mx_no k (mx_put (mx_put (mx_put (mx_put (mx_put G0 0 (mx_ob 6 [mx_null, mx_null, mx_null, mx_null, mx_null, mx_null])) 1 (mx_ob 3 [mx_null, mx_i 0])) 2 (mx_ia 12 (fun _ => 0))) 1 (e_R 0)) 0 (mx_ob 6 [mx_r 1, mx_null, mx_null, mx_null, mx_null, mx_null])) := by
    intro k hk
    repeat first
      | exact g0 k (by omega)
      | refine mx_out ?_ (by omega) (mx_noB (n := 3) hk rfl)
      | refine mx_out ?_ (by omega) mx_noI
      | refine mx_out ?_ (by omega) mx_noL
  have r0_1 : (mx_put (mx_put (mx_put (mx_put (mx_put G0 0 (mx_ob 6 [mx_null, mx_null, mx_null, mx_null, mx_null, mx_null])) 1 (mx_ob 3 [mx_null, mx_i 0])) 2 (mx_ia 12 (fun _ => 0))) 1 (e_R 0)) 0 (mx_ob 6 [mx_r 1, mx_null, mx_null, mx_null, mx_null, mx_null])) 0 = some (mx_ob 6 [mx_r 1, mx_null, mx_null, mx_null, mx_null, mx_null]) := rfl
  have r1_1 : (mx_put (mx_put (mx_put (mx_put (mx_put G0 0 (mx_ob 6 [mx_null, mx_null, mx_null, mx_null, mx_null, mx_null])) 1 (mx_ob 3 [mx_null, mx_i 0])) 2 (mx_ia 12 (fun _ => 0))) 1 (e_R 0)) 0 (mx_ob 6 [mx_r 1, mx_null, mx_null, mx_null, mx_null, mx_null])) 1 = some ((e_R 0)) := rfl
  have r2_1 : (mx_put (mx_put (mx_put (mx_put (mx_put G0 0 (mx_ob 6 [mx_null, mx_null, mx_null, mx_null, mx_null, mx_null])) 1 (mx_ob 3 [mx_null, mx_i 0])) 2 (mx_ia 12 (fun _ => 0))) 1 (e_R 0)) 0 (mx_ob 6 [mx_r 1, mx_null, mx_null, mx_null, mx_null, mx_null])) 2 = some ((mx_ia 12 (fun _ => 0))) := rfl
  generalize (mx_put (mx_put (mx_put (mx_put (mx_put G0 0 (mx_ob 6 [mx_null, mx_null, mx_null, mx_null, mx_null, mx_null])) 1 (mx_ob 3 [mx_null, mx_i 0])) 2 (mx_ia 12 (fun _ => 0))) 1 (e_R 0)) 0 (mx_ob 6 [mx_r 1, mx_null, mx_null, mx_null, mx_null, mx_null])) = G1 at g1 r0_1 r1_1 r2_1 ⊢
  have r0 := r0_1
  rw [mx_as1 r0]
  refine go rfl ⟨_, rfl, ?_⟩
  refine go rfl ⟨((g1 3 (by decide)).1), (mx_no_put (g1 3 (by decide)).2 (mx_noO rfl)), rfl, rfl, rfl, rfl, ?_⟩
  refine go rfl ⟨_, _, rfl, rfl, ?_⟩
  refine go rfl ⟨_, _, rfl, rfl, rfl, rfl, rfl, rfl, ⟨rfl, rfl, (g1 4 (by decide)).1, mx_no_put (mx_no_put (g1 4 (by decide)).2 (mx_noO rfl)) (mx_noO rfl), (g1 5 (by decide)).1, mx_no_put (mx_no_put (g1 5 (by decide)).2 (mx_noO rfl)) (mx_noO rfl), ?_⟩⟩
  refine go rfl ⟨_, _, _, _, rfl, rfl, (Nat.le_of_ble_eq_true rfl), ?_⟩
  show Rr 26 _ _ (mx_put (mx_put (mx_put (mx_put (mx_put (mx_put G1 0 (mx_ob 6 [mx_r 1, mx_null, mx_null, mx_null, mx_null, mx_null])) 3 (mx_ob 5 [mx_null, mx_null, mx_i 0])) 4 (mx_ia 360 (fun _ => 0))) 5 (mx_ia 61 (fun _ => 0))) 3 (e_W 0)) 0 (mx_ob 6 [mx_r 1, mx_r 3, mx_null, mx_null, mx_null, mx_null])) _ _
  have g2 : ∀ k, 6 ≤ k → (mx_put (mx_put (mx_put (mx_put (mx_put (mx_put G1 0 (mx_ob 6 [mx_r 1, mx_null, mx_null, mx_null, mx_null, mx_null])) 3 (mx_ob 5 [mx_null, mx_null, mx_i 0])) 4 (mx_ia 360 (fun _ => 0))) 5 (mx_ia 61 (fun _ => 0))) 3 (e_W 0)) 0 (mx_ob 6 [mx_r 1, mx_r 3, mx_null, mx_null, mx_null, mx_null])) k = none ∧ mx_no k (mx_put (mx_put (mx_put (mx_put (mx_put (mx_put G1 0 (mx_ob 6 [mx_r 1, mx_null, mx_null, mx_null, mx_null, mx_null])) 3 (mx_ob 5 [mx_null, mx_null, mx_i 0])) 4 (mx_ia 360 (fun _ => 0))) 5 (mx_ia 61 (fun _ => 0))) 3 (e_W 0)) 0 (mx_ob 6 [mx_r 1, mx_r 3, mx_null, mx_null, mx_null, mx_null])) := by
    intro k hk
    repeat first
      | exact g1 k (by omega)
      | refine mx_out ?_ (by omega) (mx_noB (n := 6) hk rfl)
      | refine mx_out ?_ (by omega) mx_noI
      | refine mx_out ?_ (by omega) mx_noL
  have r0_2 : (mx_put (mx_put (mx_put (mx_put (mx_put (mx_put G1 0 (mx_ob 6 [mx_r 1, mx_null, mx_null, mx_null, mx_null, mx_null])) 3 (mx_ob 5 [mx_null, mx_null, mx_i 0])) 4 (mx_ia 360 (fun _ => 0))) 5 (mx_ia 61 (fun _ => 0))) 3 (e_W 0)) 0 (mx_ob 6 [mx_r 1, mx_r 3, mx_null, mx_null, mx_null, mx_null])) 0 = some (mx_ob 6 [mx_r 1, mx_r 3, mx_null, mx_null, mx_null, mx_null]) := rfl
  have r3_2 : (mx_put (mx_put (mx_put (mx_put (mx_put (mx_put G1 0 (mx_ob 6 [mx_r 1, mx_null, mx_null, mx_null, mx_null, mx_null])) 3 (mx_ob 5 [mx_null, mx_null, mx_i 0])) 4 (mx_ia 360 (fun _ => 0))) 5 (mx_ia 61 (fun _ => 0))) 3 (e_W 0)) 0 (mx_ob 6 [mx_r 1, mx_r 3, mx_null, mx_null, mx_null, mx_null])) 3 = some ((e_W 0)) := rfl
  have r4_2 : (mx_put (mx_put (mx_put (mx_put (mx_put (mx_put G1 0 (mx_ob 6 [mx_r 1, mx_null, mx_null, mx_null, mx_null, mx_null])) 3 (mx_ob 5 [mx_null, mx_null, mx_i 0])) 4 (mx_ia 360 (fun _ => 0))) 5 (mx_ia 61 (fun _ => 0))) 3 (e_W 0)) 0 (mx_ob 6 [mx_r 1, mx_r 3, mx_null, mx_null, mx_null, mx_null])) 4 = some ((mx_ia 360 (fun _ => 0))) := rfl
  have r5_2 : (mx_put (mx_put (mx_put (mx_put (mx_put (mx_put G1 0 (mx_ob 6 [mx_r 1, mx_null, mx_null, mx_null, mx_null, mx_null])) 3 (mx_ob 5 [mx_null, mx_null, mx_i 0])) 4 (mx_ia 360 (fun _ => 0))) 5 (mx_ia 61 (fun _ => 0))) 3 (e_W 0)) 0 (mx_ob 6 [mx_r 1, mx_r 3, mx_null, mx_null, mx_null, mx_null])) 5 = some ((mx_ia 61 (fun _ => 0))) := rfl
  have r1_2 : (mx_put (mx_put (mx_put (mx_put (mx_put (mx_put G1 0 (mx_ob 6 [mx_r 1, mx_null, mx_null, mx_null, mx_null, mx_null])) 3 (mx_ob 5 [mx_null, mx_null, mx_i 0])) 4 (mx_ia 360 (fun _ => 0))) 5 (mx_ia 61 (fun _ => 0))) 3 (e_W 0)) 0 (mx_ob 6 [mx_r 1, mx_r 3, mx_null, mx_null, mx_null, mx_null])) 1 = some (e_R 0) := r1_1
  have r2_2 : (mx_put (mx_put (mx_put (mx_put (mx_put (mx_put G1 0 (mx_ob 6 [mx_r 1, mx_null, mx_null, mx_null, mx_null, mx_null])) 3 (mx_ob 5 [mx_null, mx_null, mx_i 0])) 4 (mx_ia 360 (fun _ => 0))) 5 (mx_ia 61 (fun _ => 0))) 3 (e_W 0)) 0 (mx_ob 6 [mx_r 1, mx_r 3, mx_null, mx_null, mx_null, mx_null])) 2 = some (mx_ia 12 (fun _ => 0)) := r2_1
  generalize (mx_put (mx_put (mx_put (mx_put (mx_put (mx_put G1 0 (mx_ob 6 [mx_r 1, mx_null, mx_null, mx_null, mx_null, mx_null])) 3 (mx_ob 5 [mx_null, mx_null, mx_i 0])) 4 (mx_ia 360 (fun _ => 0))) 5 (mx_ia 61 (fun _ => 0))) 3 (e_W 0)) 0 (mx_ob 6 [mx_r 1, mx_r 3, mx_null, mx_null, mx_null, mx_null])) = G2 at g2 r0_2 r1_2 r2_2 r3_2 r4_2 r5_2 ⊢
  have r0 := r0_2
  rw [mx_as1 r0]
  refine go rfl ⟨_, rfl, ?_⟩
  refine go rfl ⟨((g2 6 (by decide)).1), (mx_no_put (g2 6 (by decide)).2 (mx_noO rfl)), rfl, rfl, rfl, rfl, ?_⟩
  refine go rfl ⟨_, _, rfl, rfl, ?_⟩
  refine go rfl ⟨_, rfl, ?_⟩
  refine go rfl ⟨_, _, _, _, rfl, rfl, rfl, ?_⟩
  refine go rfl ⟨_, _, _, rfl, rfl, rfl, rfl, rfl, rfl, ⟨rfl, rfl, (g2 7 (by decide)).1, mx_no_put (mx_no_put (g2 7 (by decide)).2 (mx_noO rfl)) (mx_noO rfl), (g2 8 (by decide)).1, mx_no_put (mx_no_put (g2 8 (by decide)).2 (mx_noO rfl)) (mx_noO rfl), (g2 9 (by decide)).1, mx_no_put (mx_no_put (g2 9 (by decide)).2 (mx_noO rfl)) (mx_noO rfl), ?_⟩⟩
  refine go rfl ⟨_, _, _, _, rfl, rfl, (Nat.le_of_ble_eq_true rfl), ?_⟩
  show Rr 41 _ _ (mx_put (mx_put (mx_put (mx_put (mx_put (mx_put (mx_put G2 0 (mx_ob 6 [mx_r 1, mx_r 3, mx_null, mx_null, mx_null, mx_null])) 6 (mx_ob 2 [mx_null, mx_null, mx_null, mx_null, mx_i 0, mx_l 0, mx_i 0])) 7 (mx_ia 60 (fun _ => 0))) 8 (mx_la 60 (fun _ => 0))) 9 (mx_ia 60 (fun _ => 0))) 6 (e_D 0 0 0)) 0 (mx_ob 6 [mx_r 1, mx_r 3, mx_r 6, mx_null, mx_null, mx_null])) _ _
  have g3 : ∀ k, 10 ≤ k → (mx_put (mx_put (mx_put (mx_put (mx_put (mx_put (mx_put G2 0 (mx_ob 6 [mx_r 1, mx_r 3, mx_null, mx_null, mx_null, mx_null])) 6 (mx_ob 2 [mx_null, mx_null, mx_null, mx_null, mx_i 0, mx_l 0, mx_i 0])) 7 (mx_ia 60 (fun _ => 0))) 8 (mx_la 60 (fun _ => 0))) 9 (mx_ia 60 (fun _ => 0))) 6 (e_D 0 0 0)) 0 (mx_ob 6 [mx_r 1, mx_r 3, mx_r 6, mx_null, mx_null, mx_null])) k = none ∧ mx_no k (mx_put (mx_put (mx_put (mx_put (mx_put (mx_put (mx_put G2 0 (mx_ob 6 [mx_r 1, mx_r 3, mx_null, mx_null, mx_null, mx_null])) 6 (mx_ob 2 [mx_null, mx_null, mx_null, mx_null, mx_i 0, mx_l 0, mx_i 0])) 7 (mx_ia 60 (fun _ => 0))) 8 (mx_la 60 (fun _ => 0))) 9 (mx_ia 60 (fun _ => 0))) 6 (e_D 0 0 0)) 0 (mx_ob 6 [mx_r 1, mx_r 3, mx_r 6, mx_null, mx_null, mx_null])) := by
    intro k hk
    repeat first
      | exact g2 k (by omega)
      | refine mx_out ?_ (by omega) (mx_noB (n := 10) hk rfl)
      | refine mx_out ?_ (by omega) mx_noI
      | refine mx_out ?_ (by omega) mx_noL
  have r0_3 : (mx_put (mx_put (mx_put (mx_put (mx_put (mx_put (mx_put G2 0 (mx_ob 6 [mx_r 1, mx_r 3, mx_null, mx_null, mx_null, mx_null])) 6 (mx_ob 2 [mx_null, mx_null, mx_null, mx_null, mx_i 0, mx_l 0, mx_i 0])) 7 (mx_ia 60 (fun _ => 0))) 8 (mx_la 60 (fun _ => 0))) 9 (mx_ia 60 (fun _ => 0))) 6 (e_D 0 0 0)) 0 (mx_ob 6 [mx_r 1, mx_r 3, mx_r 6, mx_null, mx_null, mx_null])) 0 = some (mx_ob 6 [mx_r 1, mx_r 3, mx_r 6, mx_null, mx_null, mx_null]) := rfl
  have r6_3 : (mx_put (mx_put (mx_put (mx_put (mx_put (mx_put (mx_put G2 0 (mx_ob 6 [mx_r 1, mx_r 3, mx_null, mx_null, mx_null, mx_null])) 6 (mx_ob 2 [mx_null, mx_null, mx_null, mx_null, mx_i 0, mx_l 0, mx_i 0])) 7 (mx_ia 60 (fun _ => 0))) 8 (mx_la 60 (fun _ => 0))) 9 (mx_ia 60 (fun _ => 0))) 6 (e_D 0 0 0)) 0 (mx_ob 6 [mx_r 1, mx_r 3, mx_r 6, mx_null, mx_null, mx_null])) 6 = some ((e_D 0 0 0)) := rfl
  have r7_3 : (mx_put (mx_put (mx_put (mx_put (mx_put (mx_put (mx_put G2 0 (mx_ob 6 [mx_r 1, mx_r 3, mx_null, mx_null, mx_null, mx_null])) 6 (mx_ob 2 [mx_null, mx_null, mx_null, mx_null, mx_i 0, mx_l 0, mx_i 0])) 7 (mx_ia 60 (fun _ => 0))) 8 (mx_la 60 (fun _ => 0))) 9 (mx_ia 60 (fun _ => 0))) 6 (e_D 0 0 0)) 0 (mx_ob 6 [mx_r 1, mx_r 3, mx_r 6, mx_null, mx_null, mx_null])) 7 = some ((mx_ia 60 (fun _ => 0))) := rfl
  have r8_3 : (mx_put (mx_put (mx_put (mx_put (mx_put (mx_put (mx_put G2 0 (mx_ob 6 [mx_r 1, mx_r 3, mx_null, mx_null, mx_null, mx_null])) 6 (mx_ob 2 [mx_null, mx_null, mx_null, mx_null, mx_i 0, mx_l 0, mx_i 0])) 7 (mx_ia 60 (fun _ => 0))) 8 (mx_la 60 (fun _ => 0))) 9 (mx_ia 60 (fun _ => 0))) 6 (e_D 0 0 0)) 0 (mx_ob 6 [mx_r 1, mx_r 3, mx_r 6, mx_null, mx_null, mx_null])) 8 = some ((mx_la 60 (fun _ => 0))) := rfl
  have r9_3 : (mx_put (mx_put (mx_put (mx_put (mx_put (mx_put (mx_put G2 0 (mx_ob 6 [mx_r 1, mx_r 3, mx_null, mx_null, mx_null, mx_null])) 6 (mx_ob 2 [mx_null, mx_null, mx_null, mx_null, mx_i 0, mx_l 0, mx_i 0])) 7 (mx_ia 60 (fun _ => 0))) 8 (mx_la 60 (fun _ => 0))) 9 (mx_ia 60 (fun _ => 0))) 6 (e_D 0 0 0)) 0 (mx_ob 6 [mx_r 1, mx_r 3, mx_r 6, mx_null, mx_null, mx_null])) 9 = some ((mx_ia 60 (fun _ => 0))) := rfl
  have r1_3 : (mx_put (mx_put (mx_put (mx_put (mx_put (mx_put (mx_put G2 0 (mx_ob 6 [mx_r 1, mx_r 3, mx_null, mx_null, mx_null, mx_null])) 6 (mx_ob 2 [mx_null, mx_null, mx_null, mx_null, mx_i 0, mx_l 0, mx_i 0])) 7 (mx_ia 60 (fun _ => 0))) 8 (mx_la 60 (fun _ => 0))) 9 (mx_ia 60 (fun _ => 0))) 6 (e_D 0 0 0)) 0 (mx_ob 6 [mx_r 1, mx_r 3, mx_r 6, mx_null, mx_null, mx_null])) 1 = some (e_R 0) := r1_2
  have r2_3 : (mx_put (mx_put (mx_put (mx_put (mx_put (mx_put (mx_put G2 0 (mx_ob 6 [mx_r 1, mx_r 3, mx_null, mx_null, mx_null, mx_null])) 6 (mx_ob 2 [mx_null, mx_null, mx_null, mx_null, mx_i 0, mx_l 0, mx_i 0])) 7 (mx_ia 60 (fun _ => 0))) 8 (mx_la 60 (fun _ => 0))) 9 (mx_ia 60 (fun _ => 0))) 6 (e_D 0 0 0)) 0 (mx_ob 6 [mx_r 1, mx_r 3, mx_r 6, mx_null, mx_null, mx_null])) 2 = some (mx_ia 12 (fun _ => 0)) := r2_2
  have r3_3 : (mx_put (mx_put (mx_put (mx_put (mx_put (mx_put (mx_put G2 0 (mx_ob 6 [mx_r 1, mx_r 3, mx_null, mx_null, mx_null, mx_null])) 6 (mx_ob 2 [mx_null, mx_null, mx_null, mx_null, mx_i 0, mx_l 0, mx_i 0])) 7 (mx_ia 60 (fun _ => 0))) 8 (mx_la 60 (fun _ => 0))) 9 (mx_ia 60 (fun _ => 0))) 6 (e_D 0 0 0)) 0 (mx_ob 6 [mx_r 1, mx_r 3, mx_r 6, mx_null, mx_null, mx_null])) 3 = some (e_W 0) := r3_2
  have r4_3 : (mx_put (mx_put (mx_put (mx_put (mx_put (mx_put (mx_put G2 0 (mx_ob 6 [mx_r 1, mx_r 3, mx_null, mx_null, mx_null, mx_null])) 6 (mx_ob 2 [mx_null, mx_null, mx_null, mx_null, mx_i 0, mx_l 0, mx_i 0])) 7 (mx_ia 60 (fun _ => 0))) 8 (mx_la 60 (fun _ => 0))) 9 (mx_ia 60 (fun _ => 0))) 6 (e_D 0 0 0)) 0 (mx_ob 6 [mx_r 1, mx_r 3, mx_r 6, mx_null, mx_null, mx_null])) 4 = some (mx_ia 360 (fun _ => 0)) := r4_2
  have r5_3 : (mx_put (mx_put (mx_put (mx_put (mx_put (mx_put (mx_put G2 0 (mx_ob 6 [mx_r 1, mx_r 3, mx_null, mx_null, mx_null, mx_null])) 6 (mx_ob 2 [mx_null, mx_null, mx_null, mx_null, mx_i 0, mx_l 0, mx_i 0])) 7 (mx_ia 60 (fun _ => 0))) 8 (mx_la 60 (fun _ => 0))) 9 (mx_ia 60 (fun _ => 0))) 6 (e_D 0 0 0)) 0 (mx_ob 6 [mx_r 1, mx_r 3, mx_r 6, mx_null, mx_null, mx_null])) 5 = some (mx_ia 61 (fun _ => 0)) := r5_2
  generalize (mx_put (mx_put (mx_put (mx_put (mx_put (mx_put (mx_put G2 0 (mx_ob 6 [mx_r 1, mx_r 3, mx_null, mx_null, mx_null, mx_null])) 6 (mx_ob 2 [mx_null, mx_null, mx_null, mx_null, mx_i 0, mx_l 0, mx_i 0])) 7 (mx_ia 60 (fun _ => 0))) 8 (mx_la 60 (fun _ => 0))) 9 (mx_ia 60 (fun _ => 0))) 6 (e_D 0 0 0)) 0 (mx_ob 6 [mx_r 1, mx_r 3, mx_r 6, mx_null, mx_null, mx_null])) = G3 at g3 r0_3 r1_3 r2_3 r3_3 r4_3 r5_3 r6_3 r7_3 r8_3 r9_3 ⊢
  have r0 := r0_3
  rw [mx_as1 r0]
  refine go rfl ⟨_, rfl, ?_⟩
  refine go rfl ⟨((g3 10 (by decide)).1), (mx_no_put (g3 10 (by decide)).2 (mx_noO rfl)), rfl, rfl, rfl, rfl, ?_⟩
  refine go rfl ⟨_, _, rfl, rfl, ?_⟩
  refine go rfl ⟨_, rfl, ?_⟩
  refine go rfl ⟨_, _, _, _, rfl, rfl, rfl, ?_⟩
  refine go rfl ⟨_, _, _, rfl, rfl, rfl, rfl, rfl, rfl, ⟨rfl, rfl, (g3 11 (by decide)).1, mx_no_put (mx_no_put (g3 11 (by decide)).2 (mx_noO rfl)) (mx_noO rfl), (g3 12 (by decide)).1, mx_no_put (mx_no_put (g3 12 (by decide)).2 (mx_noO rfl)) (mx_noO rfl), (g3 13 (by decide)).1, mx_no_put (mx_no_put (g3 13 (by decide)).2 (mx_noO rfl)) (mx_noO rfl), (g3 14 (by decide)).1, mx_no_put (mx_no_put (g3 14 (by decide)).2 (mx_noO rfl)) (mx_noO rfl), ?_⟩⟩
  refine go rfl ⟨_, _, _, _, rfl, rfl, (Nat.le_of_ble_eq_true rfl), ?_⟩
  show Rr 56 _ _ (mx_put (mx_put (mx_put (mx_put (mx_put (mx_put (mx_put (mx_put G3 0 (mx_ob 6 [mx_r 1, mx_r 3, mx_r 6, mx_null, mx_null, mx_null])) 10 (mx_ob 0 [mx_null, mx_null, mx_null, mx_i 0, mx_null, mx_null, mx_i 0, mx_i 0, mx_i 0])) 11 (mx_ia 60 (fun _ => 0))) 12 (mx_la 60 (fun _ => 0))) 13 (mx_ia 4 (fun _ => 0))) 14 (mx_ia 800 (fun _ => 0))) 10 (e_G 0 0 0 0)) 0 (mx_ob 6 [mx_r 1, mx_r 3, mx_r 6, mx_r 10, mx_null, mx_null])) _ _
  have g4 : ∀ k, 15 ≤ k → (mx_put (mx_put (mx_put (mx_put (mx_put (mx_put (mx_put (mx_put G3 0 (mx_ob 6 [mx_r 1, mx_r 3, mx_r 6, mx_null, mx_null, mx_null])) 10 (mx_ob 0 [mx_null, mx_null, mx_null, mx_i 0, mx_null, mx_null, mx_i 0, mx_i 0, mx_i 0])) 11 (mx_ia 60 (fun _ => 0))) 12 (mx_la 60 (fun _ => 0))) 13 (mx_ia 4 (fun _ => 0))) 14 (mx_ia 800 (fun _ => 0))) 10 (e_G 0 0 0 0)) 0 (mx_ob 6 [mx_r 1, mx_r 3, mx_r 6, mx_r 10, mx_null, mx_null])) k = none ∧ mx_no k (mx_put (mx_put (mx_put (mx_put (mx_put (mx_put (mx_put (mx_put G3 0 (mx_ob 6 [mx_r 1, mx_r 3, mx_r 6, mx_null, mx_null, mx_null])) 10 (mx_ob 0 [mx_null, mx_null, mx_null, mx_i 0, mx_null, mx_null, mx_i 0, mx_i 0, mx_i 0])) 11 (mx_ia 60 (fun _ => 0))) 12 (mx_la 60 (fun _ => 0))) 13 (mx_ia 4 (fun _ => 0))) 14 (mx_ia 800 (fun _ => 0))) 10 (e_G 0 0 0 0)) 0 (mx_ob 6 [mx_r 1, mx_r 3, mx_r 6, mx_r 10, mx_null, mx_null])) := by
    intro k hk
    repeat first
      | exact g3 k (by omega)
      | refine mx_out ?_ (by omega) (mx_noB (n := 15) hk rfl)
      | refine mx_out ?_ (by omega) mx_noI
      | refine mx_out ?_ (by omega) mx_noL
  have r0_4 : (mx_put (mx_put (mx_put (mx_put (mx_put (mx_put (mx_put (mx_put G3 0 (mx_ob 6 [mx_r 1, mx_r 3, mx_r 6, mx_null, mx_null, mx_null])) 10 (mx_ob 0 [mx_null, mx_null, mx_null, mx_i 0, mx_null, mx_null, mx_i 0, mx_i 0, mx_i 0])) 11 (mx_ia 60 (fun _ => 0))) 12 (mx_la 60 (fun _ => 0))) 13 (mx_ia 4 (fun _ => 0))) 14 (mx_ia 800 (fun _ => 0))) 10 (e_G 0 0 0 0)) 0 (mx_ob 6 [mx_r 1, mx_r 3, mx_r 6, mx_r 10, mx_null, mx_null])) 0 = some (mx_ob 6 [mx_r 1, mx_r 3, mx_r 6, mx_r 10, mx_null, mx_null]) := rfl
  have r10_4 : (mx_put (mx_put (mx_put (mx_put (mx_put (mx_put (mx_put (mx_put G3 0 (mx_ob 6 [mx_r 1, mx_r 3, mx_r 6, mx_null, mx_null, mx_null])) 10 (mx_ob 0 [mx_null, mx_null, mx_null, mx_i 0, mx_null, mx_null, mx_i 0, mx_i 0, mx_i 0])) 11 (mx_ia 60 (fun _ => 0))) 12 (mx_la 60 (fun _ => 0))) 13 (mx_ia 4 (fun _ => 0))) 14 (mx_ia 800 (fun _ => 0))) 10 (e_G 0 0 0 0)) 0 (mx_ob 6 [mx_r 1, mx_r 3, mx_r 6, mx_r 10, mx_null, mx_null])) 10 = some ((e_G 0 0 0 0)) := rfl
  have r11_4 : (mx_put (mx_put (mx_put (mx_put (mx_put (mx_put (mx_put (mx_put G3 0 (mx_ob 6 [mx_r 1, mx_r 3, mx_r 6, mx_null, mx_null, mx_null])) 10 (mx_ob 0 [mx_null, mx_null, mx_null, mx_i 0, mx_null, mx_null, mx_i 0, mx_i 0, mx_i 0])) 11 (mx_ia 60 (fun _ => 0))) 12 (mx_la 60 (fun _ => 0))) 13 (mx_ia 4 (fun _ => 0))) 14 (mx_ia 800 (fun _ => 0))) 10 (e_G 0 0 0 0)) 0 (mx_ob 6 [mx_r 1, mx_r 3, mx_r 6, mx_r 10, mx_null, mx_null])) 11 = some ((mx_ia 60 (fun _ => 0))) := rfl
  have r12_4 : (mx_put (mx_put (mx_put (mx_put (mx_put (mx_put (mx_put (mx_put G3 0 (mx_ob 6 [mx_r 1, mx_r 3, mx_r 6, mx_null, mx_null, mx_null])) 10 (mx_ob 0 [mx_null, mx_null, mx_null, mx_i 0, mx_null, mx_null, mx_i 0, mx_i 0, mx_i 0])) 11 (mx_ia 60 (fun _ => 0))) 12 (mx_la 60 (fun _ => 0))) 13 (mx_ia 4 (fun _ => 0))) 14 (mx_ia 800 (fun _ => 0))) 10 (e_G 0 0 0 0)) 0 (mx_ob 6 [mx_r 1, mx_r 3, mx_r 6, mx_r 10, mx_null, mx_null])) 12 = some ((mx_la 60 (fun _ => 0))) := rfl
  have r13_4 : (mx_put (mx_put (mx_put (mx_put (mx_put (mx_put (mx_put (mx_put G3 0 (mx_ob 6 [mx_r 1, mx_r 3, mx_r 6, mx_null, mx_null, mx_null])) 10 (mx_ob 0 [mx_null, mx_null, mx_null, mx_i 0, mx_null, mx_null, mx_i 0, mx_i 0, mx_i 0])) 11 (mx_ia 60 (fun _ => 0))) 12 (mx_la 60 (fun _ => 0))) 13 (mx_ia 4 (fun _ => 0))) 14 (mx_ia 800 (fun _ => 0))) 10 (e_G 0 0 0 0)) 0 (mx_ob 6 [mx_r 1, mx_r 3, mx_r 6, mx_r 10, mx_null, mx_null])) 13 = some ((mx_ia 4 (fun _ => 0))) := rfl
  have r14_4 : (mx_put (mx_put (mx_put (mx_put (mx_put (mx_put (mx_put (mx_put G3 0 (mx_ob 6 [mx_r 1, mx_r 3, mx_r 6, mx_null, mx_null, mx_null])) 10 (mx_ob 0 [mx_null, mx_null, mx_null, mx_i 0, mx_null, mx_null, mx_i 0, mx_i 0, mx_i 0])) 11 (mx_ia 60 (fun _ => 0))) 12 (mx_la 60 (fun _ => 0))) 13 (mx_ia 4 (fun _ => 0))) 14 (mx_ia 800 (fun _ => 0))) 10 (e_G 0 0 0 0)) 0 (mx_ob 6 [mx_r 1, mx_r 3, mx_r 6, mx_r 10, mx_null, mx_null])) 14 = some ((mx_ia 800 (fun _ => 0))) := rfl
  have r1_4 : (mx_put (mx_put (mx_put (mx_put (mx_put (mx_put (mx_put (mx_put G3 0 (mx_ob 6 [mx_r 1, mx_r 3, mx_r 6, mx_null, mx_null, mx_null])) 10 (mx_ob 0 [mx_null, mx_null, mx_null, mx_i 0, mx_null, mx_null, mx_i 0, mx_i 0, mx_i 0])) 11 (mx_ia 60 (fun _ => 0))) 12 (mx_la 60 (fun _ => 0))) 13 (mx_ia 4 (fun _ => 0))) 14 (mx_ia 800 (fun _ => 0))) 10 (e_G 0 0 0 0)) 0 (mx_ob 6 [mx_r 1, mx_r 3, mx_r 6, mx_r 10, mx_null, mx_null])) 1 = some (e_R 0) := r1_3
  have r2_4 : (mx_put (mx_put (mx_put (mx_put (mx_put (mx_put (mx_put (mx_put G3 0 (mx_ob 6 [mx_r 1, mx_r 3, mx_r 6, mx_null, mx_null, mx_null])) 10 (mx_ob 0 [mx_null, mx_null, mx_null, mx_i 0, mx_null, mx_null, mx_i 0, mx_i 0, mx_i 0])) 11 (mx_ia 60 (fun _ => 0))) 12 (mx_la 60 (fun _ => 0))) 13 (mx_ia 4 (fun _ => 0))) 14 (mx_ia 800 (fun _ => 0))) 10 (e_G 0 0 0 0)) 0 (mx_ob 6 [mx_r 1, mx_r 3, mx_r 6, mx_r 10, mx_null, mx_null])) 2 = some (mx_ia 12 (fun _ => 0)) := r2_3
  have r3_4 : (mx_put (mx_put (mx_put (mx_put (mx_put (mx_put (mx_put (mx_put G3 0 (mx_ob 6 [mx_r 1, mx_r 3, mx_r 6, mx_null, mx_null, mx_null])) 10 (mx_ob 0 [mx_null, mx_null, mx_null, mx_i 0, mx_null, mx_null, mx_i 0, mx_i 0, mx_i 0])) 11 (mx_ia 60 (fun _ => 0))) 12 (mx_la 60 (fun _ => 0))) 13 (mx_ia 4 (fun _ => 0))) 14 (mx_ia 800 (fun _ => 0))) 10 (e_G 0 0 0 0)) 0 (mx_ob 6 [mx_r 1, mx_r 3, mx_r 6, mx_r 10, mx_null, mx_null])) 3 = some (e_W 0) := r3_3
  have r4_4 : (mx_put (mx_put (mx_put (mx_put (mx_put (mx_put (mx_put (mx_put G3 0 (mx_ob 6 [mx_r 1, mx_r 3, mx_r 6, mx_null, mx_null, mx_null])) 10 (mx_ob 0 [mx_null, mx_null, mx_null, mx_i 0, mx_null, mx_null, mx_i 0, mx_i 0, mx_i 0])) 11 (mx_ia 60 (fun _ => 0))) 12 (mx_la 60 (fun _ => 0))) 13 (mx_ia 4 (fun _ => 0))) 14 (mx_ia 800 (fun _ => 0))) 10 (e_G 0 0 0 0)) 0 (mx_ob 6 [mx_r 1, mx_r 3, mx_r 6, mx_r 10, mx_null, mx_null])) 4 = some (mx_ia 360 (fun _ => 0)) := r4_3
  have r5_4 : (mx_put (mx_put (mx_put (mx_put (mx_put (mx_put (mx_put (mx_put G3 0 (mx_ob 6 [mx_r 1, mx_r 3, mx_r 6, mx_null, mx_null, mx_null])) 10 (mx_ob 0 [mx_null, mx_null, mx_null, mx_i 0, mx_null, mx_null, mx_i 0, mx_i 0, mx_i 0])) 11 (mx_ia 60 (fun _ => 0))) 12 (mx_la 60 (fun _ => 0))) 13 (mx_ia 4 (fun _ => 0))) 14 (mx_ia 800 (fun _ => 0))) 10 (e_G 0 0 0 0)) 0 (mx_ob 6 [mx_r 1, mx_r 3, mx_r 6, mx_r 10, mx_null, mx_null])) 5 = some (mx_ia 61 (fun _ => 0)) := r5_3
  have r6_4 : (mx_put (mx_put (mx_put (mx_put (mx_put (mx_put (mx_put (mx_put G3 0 (mx_ob 6 [mx_r 1, mx_r 3, mx_r 6, mx_null, mx_null, mx_null])) 10 (mx_ob 0 [mx_null, mx_null, mx_null, mx_i 0, mx_null, mx_null, mx_i 0, mx_i 0, mx_i 0])) 11 (mx_ia 60 (fun _ => 0))) 12 (mx_la 60 (fun _ => 0))) 13 (mx_ia 4 (fun _ => 0))) 14 (mx_ia 800 (fun _ => 0))) 10 (e_G 0 0 0 0)) 0 (mx_ob 6 [mx_r 1, mx_r 3, mx_r 6, mx_r 10, mx_null, mx_null])) 6 = some (e_D 0 0 0) := r6_3
  have r7_4 : (mx_put (mx_put (mx_put (mx_put (mx_put (mx_put (mx_put (mx_put G3 0 (mx_ob 6 [mx_r 1, mx_r 3, mx_r 6, mx_null, mx_null, mx_null])) 10 (mx_ob 0 [mx_null, mx_null, mx_null, mx_i 0, mx_null, mx_null, mx_i 0, mx_i 0, mx_i 0])) 11 (mx_ia 60 (fun _ => 0))) 12 (mx_la 60 (fun _ => 0))) 13 (mx_ia 4 (fun _ => 0))) 14 (mx_ia 800 (fun _ => 0))) 10 (e_G 0 0 0 0)) 0 (mx_ob 6 [mx_r 1, mx_r 3, mx_r 6, mx_r 10, mx_null, mx_null])) 7 = some (mx_ia 60 (fun _ => 0)) := r7_3
  have r8_4 : (mx_put (mx_put (mx_put (mx_put (mx_put (mx_put (mx_put (mx_put G3 0 (mx_ob 6 [mx_r 1, mx_r 3, mx_r 6, mx_null, mx_null, mx_null])) 10 (mx_ob 0 [mx_null, mx_null, mx_null, mx_i 0, mx_null, mx_null, mx_i 0, mx_i 0, mx_i 0])) 11 (mx_ia 60 (fun _ => 0))) 12 (mx_la 60 (fun _ => 0))) 13 (mx_ia 4 (fun _ => 0))) 14 (mx_ia 800 (fun _ => 0))) 10 (e_G 0 0 0 0)) 0 (mx_ob 6 [mx_r 1, mx_r 3, mx_r 6, mx_r 10, mx_null, mx_null])) 8 = some (mx_la 60 (fun _ => 0)) := r8_3
  have r9_4 : (mx_put (mx_put (mx_put (mx_put (mx_put (mx_put (mx_put (mx_put G3 0 (mx_ob 6 [mx_r 1, mx_r 3, mx_r 6, mx_null, mx_null, mx_null])) 10 (mx_ob 0 [mx_null, mx_null, mx_null, mx_i 0, mx_null, mx_null, mx_i 0, mx_i 0, mx_i 0])) 11 (mx_ia 60 (fun _ => 0))) 12 (mx_la 60 (fun _ => 0))) 13 (mx_ia 4 (fun _ => 0))) 14 (mx_ia 800 (fun _ => 0))) 10 (e_G 0 0 0 0)) 0 (mx_ob 6 [mx_r 1, mx_r 3, mx_r 6, mx_r 10, mx_null, mx_null])) 9 = some (mx_ia 60 (fun _ => 0)) := r9_3
  generalize (mx_put (mx_put (mx_put (mx_put (mx_put (mx_put (mx_put (mx_put G3 0 (mx_ob 6 [mx_r 1, mx_r 3, mx_r 6, mx_null, mx_null, mx_null])) 10 (mx_ob 0 [mx_null, mx_null, mx_null, mx_i 0, mx_null, mx_null, mx_i 0, mx_i 0, mx_i 0])) 11 (mx_ia 60 (fun _ => 0))) 12 (mx_la 60 (fun _ => 0))) 13 (mx_ia 4 (fun _ => 0))) 14 (mx_ia 800 (fun _ => 0))) 10 (e_G 0 0 0 0)) 0 (mx_ob 6 [mx_r 1, mx_r 3, mx_r 6, mx_r 10, mx_null, mx_null])) = G4 at g4 r0_4 r1_4 r2_4 r3_4 r4_4 r5_4 r6_4 r7_4 r8_4 r9_4 r10_4 r11_4 r12_4 r13_4 r14_4 ⊢
  have r0 := r0_4
  rw [mx_as1 r0]
  refine go rfl ⟨_, rfl, ?_⟩
  refine go rfl ⟨((g4 15 (by decide)).1), (mx_no_put (g4 15 (by decide)).2 (mx_noO rfl)), rfl, rfl, rfl, rfl, ?_⟩
  refine go rfl ⟨_, _, rfl, rfl, ?_⟩
  refine go rfl ⟨_, rfl, ?_⟩
  refine go rfl ⟨_, _, _, _, rfl, rfl, rfl, ?_⟩
  refine go rfl ⟨_, _, _, rfl, rfl, rfl, rfl, rfl, rfl, ⟨rfl, rfl, fun k hk => mx_out (mx_out (g4 k (by omega)) (by omega) (mx_noB (n := 16) hk rfl)) (by omega) (mx_noB (n := 16) hk rfl), ?_⟩⟩
  refine go rfl ⟨_, _, _, _, rfl, rfl, (Nat.le_of_ble_eq_true rfl), ?_⟩
  show Rr 71 _ _ (mx_put (qw (mx_put (mx_put G4 0 (mx_ob 6 [mx_r 1, mx_r 3, mx_r 6, mx_r 10, mx_null, mx_null])) 15 (mx_ob 4 [mx_null, mx_null, mx_null, mx_null, mx_i 0, mx_i 0]))) 0 (mx_ob 6 [mx_r 1, mx_r 3, mx_r 6, mx_r 10, mx_r 15, mx_null])) _ _
  have g5 : ∀ k, 29 ≤ k → (mx_put (qw (mx_put (mx_put G4 0 (mx_ob 6 [mx_r 1, mx_r 3, mx_r 6, mx_r 10, mx_null, mx_null])) 15 (mx_ob 4 [mx_null, mx_null, mx_null, mx_null, mx_i 0, mx_i 0]))) 0 (mx_ob 6 [mx_r 1, mx_r 3, mx_r 6, mx_r 10, mx_r 15, mx_null])) k = none ∧ mx_no k (mx_put (qw (mx_put (mx_put G4 0 (mx_ob 6 [mx_r 1, mx_r 3, mx_r 6, mx_r 10, mx_null, mx_null])) 15 (mx_ob 4 [mx_null, mx_null, mx_null, mx_null, mx_i 0, mx_i 0]))) 0 (mx_ob 6 [mx_r 1, mx_r 3, mx_r 6, mx_r 10, mx_r 15, mx_null])) := by
    intro k hk
    repeat first
      | exact g4 k (by omega)
      | refine mx_out ?_ (by omega) (mx_noB (n := 29) hk rfl)
      | refine mx_out ?_ (by omega) mx_noI
      | refine mx_out ?_ (by omega) mx_noL
      | refine mx_out ?_ (by omega) (mx_noQ (fun i z => by have := qh_lt z; omega))
      | refine mx_out ?_ (by omega) (mx_noQ (fun i z => by have := qo_lt z; omega))
  have r0_5 : (mx_put (qw (mx_put (mx_put G4 0 (mx_ob 6 [mx_r 1, mx_r 3, mx_r 6, mx_r 10, mx_null, mx_null])) 15 (mx_ob 4 [mx_null, mx_null, mx_null, mx_null, mx_i 0, mx_i 0]))) 0 (mx_ob 6 [mx_r 1, mx_r 3, mx_r 6, mx_r 10, mx_r 15, mx_null])) 0 = some (mx_ob 6 [mx_r 1, mx_r 3, mx_r 6, mx_r 10, mx_r 15, mx_null]) := rfl
  have r15_5 : (mx_put (qw (mx_put (mx_put G4 0 (mx_ob 6 [mx_r 1, mx_r 3, mx_r 6, mx_r 10, mx_null, mx_null])) 15 (mx_ob 4 [mx_null, mx_null, mx_null, mx_null, mx_i 0, mx_i 0]))) 0 (mx_ob 6 [mx_r 1, mx_r 3, mx_r 6, mx_r 10, mx_r 15, mx_null])) 15 = some ((e_Q 0 0)) := rfl
  have r16_5 : (mx_put (qw (mx_put (mx_put G4 0 (mx_ob 6 [mx_r 1, mx_r 3, mx_r 6, mx_r 10, mx_null, mx_null])) 15 (mx_ob 4 [mx_null, mx_null, mx_null, mx_null, mx_i 0, mx_i 0]))) 0 (mx_ob 6 [mx_r 1, mx_r 3, mx_r 6, mx_r 10, mx_r 15, mx_null])) 16 = some ((mx_qa 2 5 qh)) := rfl
  have r17_5 : (mx_put (qw (mx_put (mx_put G4 0 (mx_ob 6 [mx_r 1, mx_r 3, mx_r 6, mx_r 10, mx_null, mx_null])) 15 (mx_ob 4 [mx_null, mx_null, mx_null, mx_null, mx_i 0, mx_i 0]))) 0 (mx_ob 6 [mx_r 1, mx_r 3, mx_r 6, mx_r 10, mx_r 15, mx_null])) 17 = some ((mx_qa 2 5 qo)) := rfl
  have r18_5 : (mx_put (qw (mx_put (mx_put G4 0 (mx_ob 6 [mx_r 1, mx_r 3, mx_r 6, mx_r 10, mx_null, mx_null])) 15 (mx_ob 4 [mx_null, mx_null, mx_null, mx_null, mx_i 0, mx_i 0]))) 0 (mx_ob 6 [mx_r 1, mx_r 3, mx_r 6, mx_r 10, mx_r 15, mx_null])) 18 = some ((mx_ia 5 (fun _ => 0))) := rfl
  have r19_5 : (mx_put (qw (mx_put (mx_put G4 0 (mx_ob 6 [mx_r 1, mx_r 3, mx_r 6, mx_r 10, mx_null, mx_null])) 15 (mx_ob 4 [mx_null, mx_null, mx_null, mx_null, mx_i 0, mx_i 0]))) 0 (mx_ob 6 [mx_r 1, mx_r 3, mx_r 6, mx_r 10, mx_r 15, mx_null])) 19 = some ((mx_la 26 (fun _ => 0))) := rfl
  have r20_5 : (mx_put (qw (mx_put (mx_put G4 0 (mx_ob 6 [mx_r 1, mx_r 3, mx_r 6, mx_r 10, mx_null, mx_null])) 15 (mx_ob 4 [mx_null, mx_null, mx_null, mx_null, mx_i 0, mx_i 0]))) 0 (mx_ob 6 [mx_r 1, mx_r 3, mx_r 6, mx_r 10, mx_r 15, mx_null])) 20 = some ((mx_la 26 (fun _ => 0))) := rfl
  have r21_5 : (mx_put (qw (mx_put (mx_put G4 0 (mx_ob 6 [mx_r 1, mx_r 3, mx_r 6, mx_r 10, mx_null, mx_null])) 15 (mx_ob 4 [mx_null, mx_null, mx_null, mx_null, mx_i 0, mx_i 0]))) 0 (mx_ob 6 [mx_r 1, mx_r 3, mx_r 6, mx_r 10, mx_r 15, mx_null])) 21 = some ((mx_la 26 (fun _ => 0))) := rfl
  have r22_5 : (mx_put (qw (mx_put (mx_put G4 0 (mx_ob 6 [mx_r 1, mx_r 3, mx_r 6, mx_r 10, mx_null, mx_null])) 15 (mx_ob 4 [mx_null, mx_null, mx_null, mx_null, mx_i 0, mx_i 0]))) 0 (mx_ob 6 [mx_r 1, mx_r 3, mx_r 6, mx_r 10, mx_r 15, mx_null])) 22 = some ((mx_la 26 (fun _ => 0))) := rfl
  have r23_5 : (mx_put (qw (mx_put (mx_put G4 0 (mx_ob 6 [mx_r 1, mx_r 3, mx_r 6, mx_r 10, mx_null, mx_null])) 15 (mx_ob 4 [mx_null, mx_null, mx_null, mx_null, mx_i 0, mx_i 0]))) 0 (mx_ob 6 [mx_r 1, mx_r 3, mx_r 6, mx_r 10, mx_r 15, mx_null])) 23 = some ((mx_la 26 (fun _ => 0))) := rfl
  have r24_5 : (mx_put (qw (mx_put (mx_put G4 0 (mx_ob 6 [mx_r 1, mx_r 3, mx_r 6, mx_r 10, mx_null, mx_null])) 15 (mx_ob 4 [mx_null, mx_null, mx_null, mx_null, mx_i 0, mx_i 0]))) 0 (mx_ob 6 [mx_r 1, mx_r 3, mx_r 6, mx_r 10, mx_r 15, mx_null])) 24 = some ((mx_la 5 (fun _ => 0))) := rfl
  have r25_5 : (mx_put (qw (mx_put (mx_put G4 0 (mx_ob 6 [mx_r 1, mx_r 3, mx_r 6, mx_r 10, mx_null, mx_null])) 15 (mx_ob 4 [mx_null, mx_null, mx_null, mx_null, mx_i 0, mx_i 0]))) 0 (mx_ob 6 [mx_r 1, mx_r 3, mx_r 6, mx_r 10, mx_r 15, mx_null])) 25 = some ((mx_la 5 (fun _ => 0))) := rfl
  have r26_5 : (mx_put (qw (mx_put (mx_put G4 0 (mx_ob 6 [mx_r 1, mx_r 3, mx_r 6, mx_r 10, mx_null, mx_null])) 15 (mx_ob 4 [mx_null, mx_null, mx_null, mx_null, mx_i 0, mx_i 0]))) 0 (mx_ob 6 [mx_r 1, mx_r 3, mx_r 6, mx_r 10, mx_r 15, mx_null])) 26 = some ((mx_la 5 (fun _ => 0))) := rfl
  have r27_5 : (mx_put (qw (mx_put (mx_put G4 0 (mx_ob 6 [mx_r 1, mx_r 3, mx_r 6, mx_r 10, mx_null, mx_null])) 15 (mx_ob 4 [mx_null, mx_null, mx_null, mx_null, mx_i 0, mx_i 0]))) 0 (mx_ob 6 [mx_r 1, mx_r 3, mx_r 6, mx_r 10, mx_r 15, mx_null])) 27 = some ((mx_la 5 (fun _ => 0))) := rfl
  have r28_5 : (mx_put (qw (mx_put (mx_put G4 0 (mx_ob 6 [mx_r 1, mx_r 3, mx_r 6, mx_r 10, mx_null, mx_null])) 15 (mx_ob 4 [mx_null, mx_null, mx_null, mx_null, mx_i 0, mx_i 0]))) 0 (mx_ob 6 [mx_r 1, mx_r 3, mx_r 6, mx_r 10, mx_r 15, mx_null])) 28 = some ((mx_la 5 (fun _ => 0))) := rfl
  have r1_5 : (mx_put (qw (mx_put (mx_put G4 0 (mx_ob 6 [mx_r 1, mx_r 3, mx_r 6, mx_r 10, mx_null, mx_null])) 15 (mx_ob 4 [mx_null, mx_null, mx_null, mx_null, mx_i 0, mx_i 0]))) 0 (mx_ob 6 [mx_r 1, mx_r 3, mx_r 6, mx_r 10, mx_r 15, mx_null])) 1 = some (e_R 0) := r1_4
  have r2_5 : (mx_put (qw (mx_put (mx_put G4 0 (mx_ob 6 [mx_r 1, mx_r 3, mx_r 6, mx_r 10, mx_null, mx_null])) 15 (mx_ob 4 [mx_null, mx_null, mx_null, mx_null, mx_i 0, mx_i 0]))) 0 (mx_ob 6 [mx_r 1, mx_r 3, mx_r 6, mx_r 10, mx_r 15, mx_null])) 2 = some (mx_ia 12 (fun _ => 0)) := r2_4
  have r3_5 : (mx_put (qw (mx_put (mx_put G4 0 (mx_ob 6 [mx_r 1, mx_r 3, mx_r 6, mx_r 10, mx_null, mx_null])) 15 (mx_ob 4 [mx_null, mx_null, mx_null, mx_null, mx_i 0, mx_i 0]))) 0 (mx_ob 6 [mx_r 1, mx_r 3, mx_r 6, mx_r 10, mx_r 15, mx_null])) 3 = some (e_W 0) := r3_4
  have r4_5 : (mx_put (qw (mx_put (mx_put G4 0 (mx_ob 6 [mx_r 1, mx_r 3, mx_r 6, mx_r 10, mx_null, mx_null])) 15 (mx_ob 4 [mx_null, mx_null, mx_null, mx_null, mx_i 0, mx_i 0]))) 0 (mx_ob 6 [mx_r 1, mx_r 3, mx_r 6, mx_r 10, mx_r 15, mx_null])) 4 = some (mx_ia 360 (fun _ => 0)) := r4_4
  have r5_5 : (mx_put (qw (mx_put (mx_put G4 0 (mx_ob 6 [mx_r 1, mx_r 3, mx_r 6, mx_r 10, mx_null, mx_null])) 15 (mx_ob 4 [mx_null, mx_null, mx_null, mx_null, mx_i 0, mx_i 0]))) 0 (mx_ob 6 [mx_r 1, mx_r 3, mx_r 6, mx_r 10, mx_r 15, mx_null])) 5 = some (mx_ia 61 (fun _ => 0)) := r5_4
  have r6_5 : (mx_put (qw (mx_put (mx_put G4 0 (mx_ob 6 [mx_r 1, mx_r 3, mx_r 6, mx_r 10, mx_null, mx_null])) 15 (mx_ob 4 [mx_null, mx_null, mx_null, mx_null, mx_i 0, mx_i 0]))) 0 (mx_ob 6 [mx_r 1, mx_r 3, mx_r 6, mx_r 10, mx_r 15, mx_null])) 6 = some (e_D 0 0 0) := r6_4
  have r7_5 : (mx_put (qw (mx_put (mx_put G4 0 (mx_ob 6 [mx_r 1, mx_r 3, mx_r 6, mx_r 10, mx_null, mx_null])) 15 (mx_ob 4 [mx_null, mx_null, mx_null, mx_null, mx_i 0, mx_i 0]))) 0 (mx_ob 6 [mx_r 1, mx_r 3, mx_r 6, mx_r 10, mx_r 15, mx_null])) 7 = some (mx_ia 60 (fun _ => 0)) := r7_4
  have r8_5 : (mx_put (qw (mx_put (mx_put G4 0 (mx_ob 6 [mx_r 1, mx_r 3, mx_r 6, mx_r 10, mx_null, mx_null])) 15 (mx_ob 4 [mx_null, mx_null, mx_null, mx_null, mx_i 0, mx_i 0]))) 0 (mx_ob 6 [mx_r 1, mx_r 3, mx_r 6, mx_r 10, mx_r 15, mx_null])) 8 = some (mx_la 60 (fun _ => 0)) := r8_4
  have r9_5 : (mx_put (qw (mx_put (mx_put G4 0 (mx_ob 6 [mx_r 1, mx_r 3, mx_r 6, mx_r 10, mx_null, mx_null])) 15 (mx_ob 4 [mx_null, mx_null, mx_null, mx_null, mx_i 0, mx_i 0]))) 0 (mx_ob 6 [mx_r 1, mx_r 3, mx_r 6, mx_r 10, mx_r 15, mx_null])) 9 = some (mx_ia 60 (fun _ => 0)) := r9_4
  have r10_5 : (mx_put (qw (mx_put (mx_put G4 0 (mx_ob 6 [mx_r 1, mx_r 3, mx_r 6, mx_r 10, mx_null, mx_null])) 15 (mx_ob 4 [mx_null, mx_null, mx_null, mx_null, mx_i 0, mx_i 0]))) 0 (mx_ob 6 [mx_r 1, mx_r 3, mx_r 6, mx_r 10, mx_r 15, mx_null])) 10 = some (e_G 0 0 0 0) := r10_4
  have r11_5 : (mx_put (qw (mx_put (mx_put G4 0 (mx_ob 6 [mx_r 1, mx_r 3, mx_r 6, mx_r 10, mx_null, mx_null])) 15 (mx_ob 4 [mx_null, mx_null, mx_null, mx_null, mx_i 0, mx_i 0]))) 0 (mx_ob 6 [mx_r 1, mx_r 3, mx_r 6, mx_r 10, mx_r 15, mx_null])) 11 = some (mx_ia 60 (fun _ => 0)) := r11_4
  have r12_5 : (mx_put (qw (mx_put (mx_put G4 0 (mx_ob 6 [mx_r 1, mx_r 3, mx_r 6, mx_r 10, mx_null, mx_null])) 15 (mx_ob 4 [mx_null, mx_null, mx_null, mx_null, mx_i 0, mx_i 0]))) 0 (mx_ob 6 [mx_r 1, mx_r 3, mx_r 6, mx_r 10, mx_r 15, mx_null])) 12 = some (mx_la 60 (fun _ => 0)) := r12_4
  have r13_5 : (mx_put (qw (mx_put (mx_put G4 0 (mx_ob 6 [mx_r 1, mx_r 3, mx_r 6, mx_r 10, mx_null, mx_null])) 15 (mx_ob 4 [mx_null, mx_null, mx_null, mx_null, mx_i 0, mx_i 0]))) 0 (mx_ob 6 [mx_r 1, mx_r 3, mx_r 6, mx_r 10, mx_r 15, mx_null])) 13 = some (mx_ia 4 (fun _ => 0)) := r13_4
  have r14_5 : (mx_put (qw (mx_put (mx_put G4 0 (mx_ob 6 [mx_r 1, mx_r 3, mx_r 6, mx_r 10, mx_null, mx_null])) 15 (mx_ob 4 [mx_null, mx_null, mx_null, mx_null, mx_i 0, mx_i 0]))) 0 (mx_ob 6 [mx_r 1, mx_r 3, mx_r 6, mx_r 10, mx_r 15, mx_null])) 14 = some (mx_ia 800 (fun _ => 0)) := r14_4
  generalize (mx_put (qw (mx_put (mx_put G4 0 (mx_ob 6 [mx_r 1, mx_r 3, mx_r 6, mx_r 10, mx_null, mx_null])) 15 (mx_ob 4 [mx_null, mx_null, mx_null, mx_null, mx_i 0, mx_i 0]))) 0 (mx_ob 6 [mx_r 1, mx_r 3, mx_r 6, mx_r 10, mx_r 15, mx_null])) = G5 at g5 r0_5 r1_5 r2_5 r3_5 r4_5 r5_5 r6_5 r7_5 r8_5 r9_5 r10_5 r11_5 r12_5 r13_5 r14_5 r15_5 r16_5 r17_5 r18_5 r19_5 r20_5 r21_5 r22_5 r23_5 r24_5 r25_5 r26_5 r27_5 r28_5 ⊢
  have r0 := r0_5
  rw [mx_as1 r0]
  refine go rfl ⟨_, rfl, ?_⟩
  refine go rfl ⟨((g5 29 (by decide)).1), (mx_no_put (g5 29 (by decide)).2 (mx_noO rfl)), rfl, rfl, rfl, rfl, ?_⟩
  refine go rfl ⟨_, _, rfl, rfl, ?_⟩
  refine go rfl ⟨_, rfl, ?_⟩
  refine go rfl ⟨_, _, _, _, rfl, rfl, rfl, ?_⟩
  refine go rfl ⟨_, _, _, rfl, rfl, rfl, rfl, rfl, rfl, ⟨rfl, rfl, (g5 30 (by decide)).1, mx_no_put (mx_no_put (g5 30 (by decide)).2 (mx_noO rfl)) (mx_noO rfl), ?_⟩⟩
  refine go rfl ⟨_, _, _, _, rfl, rfl, (Nat.le_of_ble_eq_true rfl), ?_⟩
  show Rr 86 _ _ (mx_put (mx_put (mx_put (mx_put (mx_put G5 0 (mx_ob 6 [mx_r 1, mx_r 3, mx_r 6, mx_r 10, mx_r 15, mx_null])) 29 (mx_ob 1 [mx_null, mx_null])) 30 (mx_ia 64 (fun _ => 0))) 29 e_C) 0 (mx_ob 6 [mx_r 1, mx_r 3, mx_r 6, mx_r 10, mx_r 15, mx_r 29])) _ _
  have g6 : ∀ k, 31 ≤ k → (mx_put (mx_put (mx_put (mx_put (mx_put G5 0 (mx_ob 6 [mx_r 1, mx_r 3, mx_r 6, mx_r 10, mx_r 15, mx_null])) 29 (mx_ob 1 [mx_null, mx_null])) 30 (mx_ia 64 (fun _ => 0))) 29 e_C) 0 (mx_ob 6 [mx_r 1, mx_r 3, mx_r 6, mx_r 10, mx_r 15, mx_r 29])) k = none ∧ mx_no k (mx_put (mx_put (mx_put (mx_put (mx_put G5 0 (mx_ob 6 [mx_r 1, mx_r 3, mx_r 6, mx_r 10, mx_r 15, mx_null])) 29 (mx_ob 1 [mx_null, mx_null])) 30 (mx_ia 64 (fun _ => 0))) 29 e_C) 0 (mx_ob 6 [mx_r 1, mx_r 3, mx_r 6, mx_r 10, mx_r 15, mx_r 29])) := by
    intro k hk
    repeat first
      | exact g5 k (by omega)
      | refine mx_out ?_ (by omega) (mx_noB (n := 31) hk rfl)
      | refine mx_out ?_ (by omega) mx_noI
      | refine mx_out ?_ (by omega) mx_noL
  have r0_6 : (mx_put (mx_put (mx_put (mx_put (mx_put G5 0 (mx_ob 6 [mx_r 1, mx_r 3, mx_r 6, mx_r 10, mx_r 15, mx_null])) 29 (mx_ob 1 [mx_null, mx_null])) 30 (mx_ia 64 (fun _ => 0))) 29 e_C) 0 (mx_ob 6 [mx_r 1, mx_r 3, mx_r 6, mx_r 10, mx_r 15, mx_r 29])) 0 = some (mx_ob 6 [mx_r 1, mx_r 3, mx_r 6, mx_r 10, mx_r 15, mx_r 29]) := rfl
  have r29_6 : (mx_put (mx_put (mx_put (mx_put (mx_put G5 0 (mx_ob 6 [mx_r 1, mx_r 3, mx_r 6, mx_r 10, mx_r 15, mx_null])) 29 (mx_ob 1 [mx_null, mx_null])) 30 (mx_ia 64 (fun _ => 0))) 29 e_C) 0 (mx_ob 6 [mx_r 1, mx_r 3, mx_r 6, mx_r 10, mx_r 15, mx_r 29])) 29 = some (e_C) := rfl
  have r30_6 : (mx_put (mx_put (mx_put (mx_put (mx_put G5 0 (mx_ob 6 [mx_r 1, mx_r 3, mx_r 6, mx_r 10, mx_r 15, mx_null])) 29 (mx_ob 1 [mx_null, mx_null])) 30 (mx_ia 64 (fun _ => 0))) 29 e_C) 0 (mx_ob 6 [mx_r 1, mx_r 3, mx_r 6, mx_r 10, mx_r 15, mx_r 29])) 30 = some ((mx_ia 64 (fun _ => 0))) := rfl
  have r1_6 : (mx_put (mx_put (mx_put (mx_put (mx_put G5 0 (mx_ob 6 [mx_r 1, mx_r 3, mx_r 6, mx_r 10, mx_r 15, mx_null])) 29 (mx_ob 1 [mx_null, mx_null])) 30 (mx_ia 64 (fun _ => 0))) 29 e_C) 0 (mx_ob 6 [mx_r 1, mx_r 3, mx_r 6, mx_r 10, mx_r 15, mx_r 29])) 1 = some (e_R 0) := r1_5
  have r2_6 : (mx_put (mx_put (mx_put (mx_put (mx_put G5 0 (mx_ob 6 [mx_r 1, mx_r 3, mx_r 6, mx_r 10, mx_r 15, mx_null])) 29 (mx_ob 1 [mx_null, mx_null])) 30 (mx_ia 64 (fun _ => 0))) 29 e_C) 0 (mx_ob 6 [mx_r 1, mx_r 3, mx_r 6, mx_r 10, mx_r 15, mx_r 29])) 2 = some (mx_ia 12 (fun _ => 0)) := r2_5
  have r3_6 : (mx_put (mx_put (mx_put (mx_put (mx_put G5 0 (mx_ob 6 [mx_r 1, mx_r 3, mx_r 6, mx_r 10, mx_r 15, mx_null])) 29 (mx_ob 1 [mx_null, mx_null])) 30 (mx_ia 64 (fun _ => 0))) 29 e_C) 0 (mx_ob 6 [mx_r 1, mx_r 3, mx_r 6, mx_r 10, mx_r 15, mx_r 29])) 3 = some (e_W 0) := r3_5
  have r4_6 : (mx_put (mx_put (mx_put (mx_put (mx_put G5 0 (mx_ob 6 [mx_r 1, mx_r 3, mx_r 6, mx_r 10, mx_r 15, mx_null])) 29 (mx_ob 1 [mx_null, mx_null])) 30 (mx_ia 64 (fun _ => 0))) 29 e_C) 0 (mx_ob 6 [mx_r 1, mx_r 3, mx_r 6, mx_r 10, mx_r 15, mx_r 29])) 4 = some (mx_ia 360 (fun _ => 0)) := r4_5
  have r5_6 : (mx_put (mx_put (mx_put (mx_put (mx_put G5 0 (mx_ob 6 [mx_r 1, mx_r 3, mx_r 6, mx_r 10, mx_r 15, mx_null])) 29 (mx_ob 1 [mx_null, mx_null])) 30 (mx_ia 64 (fun _ => 0))) 29 e_C) 0 (mx_ob 6 [mx_r 1, mx_r 3, mx_r 6, mx_r 10, mx_r 15, mx_r 29])) 5 = some (mx_ia 61 (fun _ => 0)) := r5_5
  have r6_6 : (mx_put (mx_put (mx_put (mx_put (mx_put G5 0 (mx_ob 6 [mx_r 1, mx_r 3, mx_r 6, mx_r 10, mx_r 15, mx_null])) 29 (mx_ob 1 [mx_null, mx_null])) 30 (mx_ia 64 (fun _ => 0))) 29 e_C) 0 (mx_ob 6 [mx_r 1, mx_r 3, mx_r 6, mx_r 10, mx_r 15, mx_r 29])) 6 = some (e_D 0 0 0) := r6_5
  have r7_6 : (mx_put (mx_put (mx_put (mx_put (mx_put G5 0 (mx_ob 6 [mx_r 1, mx_r 3, mx_r 6, mx_r 10, mx_r 15, mx_null])) 29 (mx_ob 1 [mx_null, mx_null])) 30 (mx_ia 64 (fun _ => 0))) 29 e_C) 0 (mx_ob 6 [mx_r 1, mx_r 3, mx_r 6, mx_r 10, mx_r 15, mx_r 29])) 7 = some (mx_ia 60 (fun _ => 0)) := r7_5
  have r8_6 : (mx_put (mx_put (mx_put (mx_put (mx_put G5 0 (mx_ob 6 [mx_r 1, mx_r 3, mx_r 6, mx_r 10, mx_r 15, mx_null])) 29 (mx_ob 1 [mx_null, mx_null])) 30 (mx_ia 64 (fun _ => 0))) 29 e_C) 0 (mx_ob 6 [mx_r 1, mx_r 3, mx_r 6, mx_r 10, mx_r 15, mx_r 29])) 8 = some (mx_la 60 (fun _ => 0)) := r8_5
  have r9_6 : (mx_put (mx_put (mx_put (mx_put (mx_put G5 0 (mx_ob 6 [mx_r 1, mx_r 3, mx_r 6, mx_r 10, mx_r 15, mx_null])) 29 (mx_ob 1 [mx_null, mx_null])) 30 (mx_ia 64 (fun _ => 0))) 29 e_C) 0 (mx_ob 6 [mx_r 1, mx_r 3, mx_r 6, mx_r 10, mx_r 15, mx_r 29])) 9 = some (mx_ia 60 (fun _ => 0)) := r9_5
  have r10_6 : (mx_put (mx_put (mx_put (mx_put (mx_put G5 0 (mx_ob 6 [mx_r 1, mx_r 3, mx_r 6, mx_r 10, mx_r 15, mx_null])) 29 (mx_ob 1 [mx_null, mx_null])) 30 (mx_ia 64 (fun _ => 0))) 29 e_C) 0 (mx_ob 6 [mx_r 1, mx_r 3, mx_r 6, mx_r 10, mx_r 15, mx_r 29])) 10 = some (e_G 0 0 0 0) := r10_5
  have r11_6 : (mx_put (mx_put (mx_put (mx_put (mx_put G5 0 (mx_ob 6 [mx_r 1, mx_r 3, mx_r 6, mx_r 10, mx_r 15, mx_null])) 29 (mx_ob 1 [mx_null, mx_null])) 30 (mx_ia 64 (fun _ => 0))) 29 e_C) 0 (mx_ob 6 [mx_r 1, mx_r 3, mx_r 6, mx_r 10, mx_r 15, mx_r 29])) 11 = some (mx_ia 60 (fun _ => 0)) := r11_5
  have r12_6 : (mx_put (mx_put (mx_put (mx_put (mx_put G5 0 (mx_ob 6 [mx_r 1, mx_r 3, mx_r 6, mx_r 10, mx_r 15, mx_null])) 29 (mx_ob 1 [mx_null, mx_null])) 30 (mx_ia 64 (fun _ => 0))) 29 e_C) 0 (mx_ob 6 [mx_r 1, mx_r 3, mx_r 6, mx_r 10, mx_r 15, mx_r 29])) 12 = some (mx_la 60 (fun _ => 0)) := r12_5
  have r13_6 : (mx_put (mx_put (mx_put (mx_put (mx_put G5 0 (mx_ob 6 [mx_r 1, mx_r 3, mx_r 6, mx_r 10, mx_r 15, mx_null])) 29 (mx_ob 1 [mx_null, mx_null])) 30 (mx_ia 64 (fun _ => 0))) 29 e_C) 0 (mx_ob 6 [mx_r 1, mx_r 3, mx_r 6, mx_r 10, mx_r 15, mx_r 29])) 13 = some (mx_ia 4 (fun _ => 0)) := r13_5
  have r14_6 : (mx_put (mx_put (mx_put (mx_put (mx_put G5 0 (mx_ob 6 [mx_r 1, mx_r 3, mx_r 6, mx_r 10, mx_r 15, mx_null])) 29 (mx_ob 1 [mx_null, mx_null])) 30 (mx_ia 64 (fun _ => 0))) 29 e_C) 0 (mx_ob 6 [mx_r 1, mx_r 3, mx_r 6, mx_r 10, mx_r 15, mx_r 29])) 14 = some (mx_ia 800 (fun _ => 0)) := r14_5
  have r15_6 : (mx_put (mx_put (mx_put (mx_put (mx_put G5 0 (mx_ob 6 [mx_r 1, mx_r 3, mx_r 6, mx_r 10, mx_r 15, mx_null])) 29 (mx_ob 1 [mx_null, mx_null])) 30 (mx_ia 64 (fun _ => 0))) 29 e_C) 0 (mx_ob 6 [mx_r 1, mx_r 3, mx_r 6, mx_r 10, mx_r 15, mx_r 29])) 15 = some (e_Q 0 0) := r15_5
  have r16_6 : (mx_put (mx_put (mx_put (mx_put (mx_put G5 0 (mx_ob 6 [mx_r 1, mx_r 3, mx_r 6, mx_r 10, mx_r 15, mx_null])) 29 (mx_ob 1 [mx_null, mx_null])) 30 (mx_ia 64 (fun _ => 0))) 29 e_C) 0 (mx_ob 6 [mx_r 1, mx_r 3, mx_r 6, mx_r 10, mx_r 15, mx_r 29])) 16 = some (mx_qa 2 5 qh) := r16_5
  have r17_6 : (mx_put (mx_put (mx_put (mx_put (mx_put G5 0 (mx_ob 6 [mx_r 1, mx_r 3, mx_r 6, mx_r 10, mx_r 15, mx_null])) 29 (mx_ob 1 [mx_null, mx_null])) 30 (mx_ia 64 (fun _ => 0))) 29 e_C) 0 (mx_ob 6 [mx_r 1, mx_r 3, mx_r 6, mx_r 10, mx_r 15, mx_r 29])) 17 = some (mx_qa 2 5 qo) := r17_5
  have r18_6 : (mx_put (mx_put (mx_put (mx_put (mx_put G5 0 (mx_ob 6 [mx_r 1, mx_r 3, mx_r 6, mx_r 10, mx_r 15, mx_null])) 29 (mx_ob 1 [mx_null, mx_null])) 30 (mx_ia 64 (fun _ => 0))) 29 e_C) 0 (mx_ob 6 [mx_r 1, mx_r 3, mx_r 6, mx_r 10, mx_r 15, mx_r 29])) 18 = some (mx_ia 5 (fun _ => 0)) := r18_5
  have r19_6 : (mx_put (mx_put (mx_put (mx_put (mx_put G5 0 (mx_ob 6 [mx_r 1, mx_r 3, mx_r 6, mx_r 10, mx_r 15, mx_null])) 29 (mx_ob 1 [mx_null, mx_null])) 30 (mx_ia 64 (fun _ => 0))) 29 e_C) 0 (mx_ob 6 [mx_r 1, mx_r 3, mx_r 6, mx_r 10, mx_r 15, mx_r 29])) 19 = some (mx_la 26 (fun _ => 0)) := r19_5
  have r20_6 : (mx_put (mx_put (mx_put (mx_put (mx_put G5 0 (mx_ob 6 [mx_r 1, mx_r 3, mx_r 6, mx_r 10, mx_r 15, mx_null])) 29 (mx_ob 1 [mx_null, mx_null])) 30 (mx_ia 64 (fun _ => 0))) 29 e_C) 0 (mx_ob 6 [mx_r 1, mx_r 3, mx_r 6, mx_r 10, mx_r 15, mx_r 29])) 20 = some (mx_la 26 (fun _ => 0)) := r20_5
  have r21_6 : (mx_put (mx_put (mx_put (mx_put (mx_put G5 0 (mx_ob 6 [mx_r 1, mx_r 3, mx_r 6, mx_r 10, mx_r 15, mx_null])) 29 (mx_ob 1 [mx_null, mx_null])) 30 (mx_ia 64 (fun _ => 0))) 29 e_C) 0 (mx_ob 6 [mx_r 1, mx_r 3, mx_r 6, mx_r 10, mx_r 15, mx_r 29])) 21 = some (mx_la 26 (fun _ => 0)) := r21_5
  have r22_6 : (mx_put (mx_put (mx_put (mx_put (mx_put G5 0 (mx_ob 6 [mx_r 1, mx_r 3, mx_r 6, mx_r 10, mx_r 15, mx_null])) 29 (mx_ob 1 [mx_null, mx_null])) 30 (mx_ia 64 (fun _ => 0))) 29 e_C) 0 (mx_ob 6 [mx_r 1, mx_r 3, mx_r 6, mx_r 10, mx_r 15, mx_r 29])) 22 = some (mx_la 26 (fun _ => 0)) := r22_5
  have r23_6 : (mx_put (mx_put (mx_put (mx_put (mx_put G5 0 (mx_ob 6 [mx_r 1, mx_r 3, mx_r 6, mx_r 10, mx_r 15, mx_null])) 29 (mx_ob 1 [mx_null, mx_null])) 30 (mx_ia 64 (fun _ => 0))) 29 e_C) 0 (mx_ob 6 [mx_r 1, mx_r 3, mx_r 6, mx_r 10, mx_r 15, mx_r 29])) 23 = some (mx_la 26 (fun _ => 0)) := r23_5
  have r24_6 : (mx_put (mx_put (mx_put (mx_put (mx_put G5 0 (mx_ob 6 [mx_r 1, mx_r 3, mx_r 6, mx_r 10, mx_r 15, mx_null])) 29 (mx_ob 1 [mx_null, mx_null])) 30 (mx_ia 64 (fun _ => 0))) 29 e_C) 0 (mx_ob 6 [mx_r 1, mx_r 3, mx_r 6, mx_r 10, mx_r 15, mx_r 29])) 24 = some (mx_la 5 (fun _ => 0)) := r24_5
  have r25_6 : (mx_put (mx_put (mx_put (mx_put (mx_put G5 0 (mx_ob 6 [mx_r 1, mx_r 3, mx_r 6, mx_r 10, mx_r 15, mx_null])) 29 (mx_ob 1 [mx_null, mx_null])) 30 (mx_ia 64 (fun _ => 0))) 29 e_C) 0 (mx_ob 6 [mx_r 1, mx_r 3, mx_r 6, mx_r 10, mx_r 15, mx_r 29])) 25 = some (mx_la 5 (fun _ => 0)) := r25_5
  have r26_6 : (mx_put (mx_put (mx_put (mx_put (mx_put G5 0 (mx_ob 6 [mx_r 1, mx_r 3, mx_r 6, mx_r 10, mx_r 15, mx_null])) 29 (mx_ob 1 [mx_null, mx_null])) 30 (mx_ia 64 (fun _ => 0))) 29 e_C) 0 (mx_ob 6 [mx_r 1, mx_r 3, mx_r 6, mx_r 10, mx_r 15, mx_r 29])) 26 = some (mx_la 5 (fun _ => 0)) := r26_5
  have r27_6 : (mx_put (mx_put (mx_put (mx_put (mx_put G5 0 (mx_ob 6 [mx_r 1, mx_r 3, mx_r 6, mx_r 10, mx_r 15, mx_null])) 29 (mx_ob 1 [mx_null, mx_null])) 30 (mx_ia 64 (fun _ => 0))) 29 e_C) 0 (mx_ob 6 [mx_r 1, mx_r 3, mx_r 6, mx_r 10, mx_r 15, mx_r 29])) 27 = some (mx_la 5 (fun _ => 0)) := r27_5
  have r28_6 : (mx_put (mx_put (mx_put (mx_put (mx_put G5 0 (mx_ob 6 [mx_r 1, mx_r 3, mx_r 6, mx_r 10, mx_r 15, mx_null])) 29 (mx_ob 1 [mx_null, mx_null])) 30 (mx_ia 64 (fun _ => 0))) 29 e_C) 0 (mx_ob 6 [mx_r 1, mx_r 3, mx_r 6, mx_r 10, mx_r 15, mx_r 29])) 28 = some (mx_la 5 (fun _ => 0)) := r28_5
  generalize (mx_put (mx_put (mx_put (mx_put (mx_put G5 0 (mx_ob 6 [mx_r 1, mx_r 3, mx_r 6, mx_r 10, mx_r 15, mx_null])) 29 (mx_ob 1 [mx_null, mx_null])) 30 (mx_ia 64 (fun _ => 0))) 29 e_C) 0 (mx_ob 6 [mx_r 1, mx_r 3, mx_r 6, mx_r 10, mx_r 15, mx_r 29])) = G6 at g6 r0_6 r1_6 r2_6 r3_6 r4_6 r5_6 r6_6 r7_6 r8_6 r9_6 r10_6 r11_6 r12_6 r13_6 r14_6 r15_6 r16_6 r17_6 r18_6 r19_6 r20_6 r21_6 r22_6 r23_6 r24_6 r25_6 r26_6 r27_6 r28_6 r29_6 r30_6 ⊢
  have r0 := r0_6
  rw [mx_as1 r0]
  refine go rfl ⟨rfl, rfl, rfl, ?_⟩
  rw [← mx_as1 r0]
  exact hp _ ⟨r0, r1_6, r2_6, r3_6, r4_6, r5_6, r6_6, r7_6, r8_6, r9_6, r10_6, r11_6, r12_6, r13_6, r14_6, r15_6, r16_6, r17_6, r18_6, r19_6, r20_6, r21_6, r22_6, r23_6, r24_6, r25_6, r26_6, r27_6, r28_6, r29_6, r30_6⟩ g6
