-- LadderWords.hide(IIII)Z
def sp_L_hide : mx_Sp := fun As F P => ∃ (n : Nat) (N : Nat → Nat) (ch : Nat → Nat → Int32) (S : Nat → Nat) (lt st g : Nat → Int32) (w x y d : Int32), As = [mx_r 0, mx_i w, mx_i x, mx_i y, mx_i d] ∧ F 0 = some e_L ∧ F 3 = some (e_W n) ∧ F 4 = some (mx_ia 360 lt) ∧ F 5 = some (mx_ia 61 st) ∧ wst n N ch S lt st ∧ F 29 = some e_C ∧ F 30 = some (mx_ia 64 g) ∧ (∀ j k, j < n → k < 8 → w = nI j → d = nI k → ins x y → rmP g (N j) (ch j) x y k → P (some (mx_i (nI 1))) (mx_put F 30 (mx_ia 64 (hid g (ch j) x y k (N j))))) ∧ ((¬ ∃ j k, j < n ∧ k < 8 ∧ w = nI j ∧ d = nI k ∧ ins x y ∧ rmP g (N j) (ch j) x y k) → P (some (mx_i (nI 0))) F)
theorem d_L_hide_0 : decode c_L_hide 0 = .ok (.aload_n 0, 1) := by decide +kernel
theorem d_L_hide_1 : decode c_L_hide 1 = .ok (.getfield 49, 3) := by decide +kernel
theorem d_L_hide_4 : decode c_L_hide 4 = .ok (.iload_n 1, 1) := by decide +kernel
theorem d_L_hide_5 : decode c_L_hide 5 = .ok (.iload_n 2, 1) := by decide +kernel
theorem d_L_hide_6 : decode c_L_hide 6 = .ok (.iload_n 3, 1) := by decide +kernel
theorem d_L_hide_7 : decode c_L_hide 7 = .ok (.iload 4, 2) := by decide +kernel
theorem d_L_hide_9 : decode c_L_hide 9 = .ok (.invokevirtual 90, 3) := by decide +kernel
theorem d_L_hide_12 : decode c_L_hide 12 = .ok (.ireturn, 1) := by decide +kernel
abbrev w_L_hide : List Cond := mx_ws y_L_hide c_L_hide 5 (some .boolean)
abbrev rm_L_hide : Room := { frames := 50, cells := 0, slots := 0, locals := 1000 }
def t_L_hide  (P : Option mx_V → mx_F → Prop) : List (Nat × mx_O) := [
  (0, mx_aload 0 1),
  (1, mx_get 6 5 4),
  (4, mx_iload 1 5),
  (5, mx_iload 2 6),
  (6, mx_iload 3 7),
  (7, mx_iload 4 9),
  (9, mx_cv4 1 sp_C_put 0 0 12),
  (12, mx_zret P)]
set_option maxRecDepth 20000 in
theorem a_L_hide  {p : Program} {l : Launch} {e : Env} {s : State} {m : MethodId} {args : Array Value} {below : List Frame} {meth : Method} {c : Code} {D : va_G} {tc : Nat → ClassId} {tb : Nat → Nat} {sz : Nat} {a0 : Nat → Nat} {G : mx_F} {P : Option mx_V → mx_F → Prop}  (C : mx_C p s m args c c_L_hide y_L_hide.cls w_L_hide D tc tb (mx_A a0 G sz) 5 (mx_Ok0 a0 G)) (hr : meth.sig.returnType = (some .boolean)) (hlk : meth.locks = false) : mx_all (mx_W p l e rm_L_hide s m args below meth c (MQ below (mx_Q D tc tb a0 G sz P) args s 0 0 (mx_A a0 G sz)) D tc tb (mx_A a0 G sz) 5 (mx_Ok0 a0 G)) (t_L_hide  P) :=
  ⟨mx_s_aload_n C d_L_hide_0 rfl,
  mx_s_get (T := T_L) (N := 6) (k := 5) C (fun w h => List.mem_cons_of_mem _ (in_L w h)) rfl (by decide) (List.mem_cons_of_mem _ fk_L_49) rfl d_L_hide_1,
  mx_s_iload_n C d_L_hide_4 rfl,
  mx_s_iload_n C d_L_hide_5 rfl,
  mx_s_iload_n C d_L_hide_6 rfl,
  mx_s_iload C d_L_hide_7,
  mx_s_cv4 C (m_C_put l) rfl (cwV 4 C.2.2.2.2.1 (mx_gV (fun w h => List.mem_cons_of_mem _ h) mk_L_90 im_C_put se_C_put ic_C co_C_put) rfl rfl rfl (by decide +kernel) ⟨by decide, by decide⟩) d_L_hide_9 ⟨Nat.zero_le _, Nat.zero_le _⟩,
  mx_s_zret C hr hlk d_L_hide_12,
  trivial⟩
set_option maxRecDepth 20000 in
set_option maxHeartbeats 2000000 in
theorem m_L_hide (l : Launch) : mx_M l y_L_hide w_L_hide rm_L_hide sp_L_hide := by
  intro zD ztc ztb zad As F P sz0 h
  obtain ⟨n, N, ch, S, lt, st, g, w, x, y, d, rfl, h0, h3, h4, h5, hw, h9, h10, ho, hz⟩ := h
  refine mx_run (cc := c_L_hide) (maxL := 5) (ret := (some .boolean)) (tab := t_L_hide  P) (by decide) rfl zD ztc ztb zad _ F P sz0 (Nat.le_of_ble_eq_true rfl) (fun p e s m args below meth c C hr hlk => a_L_hide  C hr hlk) ?_
  intro Rr go
  have hF := mx_as6 h0 h3 h4 h5 h9 h10
  rw [hF]
  refine go rfl ⟨_, rfl, ?_⟩
  refine go rfl ⟨_, _, _, _, rfl, rfl, rfl, ?_⟩
  refine go rfl ⟨_, rfl, ?_⟩
  refine go rfl ⟨_, rfl, ?_⟩
  refine go rfl ⟨_, rfl, ?_⟩
  refine go rfl ⟨_, rfl, ?_⟩
  refine go rfl ⟨_, _, _, _, _, _, _, rfl, rfl, rfl, rfl, rfl, ⟨n, N, ch, S, lt, st, g, w, x, y, d, rfl, rfl, rfl, rfl, hw, rfl, rfl, fun j k q1 q2 q3 q4 q5 q6 => ?_, fun c => ?_⟩⟩
  · refine go rfl ⟨_, rfl, rfl, rfl, (Or.inr rfl), ?_⟩
    rw [← hF]
    exact ho j k q1 q2 q3 q4 q5 q6
  · refine go rfl ⟨_, rfl, rfl, rfl, (Or.inl rfl), ?_⟩
    rw [← hF]
    exact hz c
-- LadderWords.fill(J)I
def sp_L_fill : mx_Sp := fun As F P => ∃ (n : Nat) (N : Nat → Nat) (ch : Nat → Nat → Int32) (S : Nat → Nat) (lt st g : Nat → Int32) (x : Int64), As = [mx_r 0, mx_l x] ∧ F 0 = some e_L ∧ F 3 = some (e_W n) ∧ F 4 = some (mx_ia 360 lt) ∧ F 5 = some (mx_ia 61 st) ∧ wst n N ch S lt st ∧ F 29 = some e_C ∧ F 30 = some (mx_ia 64 g) ∧ (n = 0 → P (some (mx_i (-1))) F) ∧ (0 < n → P (some (mx_i (nI (fil g lt (S n) x 64).2.2))) (mx_put F 30 (mx_ia 64 (fil g lt (S n) x 64).1)))
theorem d_L_fill_0 : decode c_L_fill 0 = .ok (.aload_n 0, 1) := by decide +kernel
theorem d_L_fill_1 : decode c_L_fill 1 = .ok (.getfield 49, 3) := by decide +kernel
theorem d_L_fill_4 : decode c_L_fill 4 = .ok (.lload_n 1, 1) := by decide +kernel
theorem d_L_fill_5 : decode c_L_fill 5 = .ok (.invokevirtual 94, 3) := by decide +kernel
theorem d_L_fill_8 : decode c_L_fill 8 = .ok (.ireturn, 1) := by decide +kernel
abbrev w_L_fill : List Cond := mx_ws y_L_fill c_L_fill 3 (some .int)
abbrev rm_L_fill : Room := { frames := 40, cells := 0, slots := 0, locals := 800 }
def t_L_fill  (P : Option mx_V → mx_F → Prop) : List (Nat × mx_O) := [
  (0, mx_aload 0 1),
  (1, mx_get 6 5 4),
  (4, mx_lload 1 5),
  (5, mx_cv1 1 sp_C_fillEmpty 0 0 8),
  (8, mx_iret P)]
set_option maxRecDepth 20000 in
theorem a_L_fill  {p : Program} {l : Launch} {e : Env} {s : State} {m : MethodId} {args : Array Value} {below : List Frame} {meth : Method} {c : Code} {D : va_G} {tc : Nat → ClassId} {tb : Nat → Nat} {sz : Nat} {a0 : Nat → Nat} {G : mx_F} {P : Option mx_V → mx_F → Prop}  (C : mx_C p s m args c c_L_fill y_L_fill.cls w_L_fill D tc tb (mx_A a0 G sz) 3 (mx_Ok0 a0 G)) (hr : meth.sig.returnType = (some .int)) (hlk : meth.locks = false) : mx_all (mx_W p l e rm_L_fill s m args below meth c (MQ below (mx_Q D tc tb a0 G sz P) args s 0 0 (mx_A a0 G sz)) D tc tb (mx_A a0 G sz) 3 (mx_Ok0 a0 G)) (t_L_fill  P) :=
  ⟨mx_s_aload_n C d_L_fill_0 rfl,
  mx_s_get (T := T_L) (N := 6) (k := 5) C (fun w h => List.mem_cons_of_mem _ (in_L w h)) rfl (by decide) (List.mem_cons_of_mem _ fk_L_49) rfl d_L_fill_1,
  mx_s_lload_n C d_L_fill_4 rfl,
  mx_s_cv1 C (m_C_fillEmpty l) rfl (cwV 1 C.2.2.2.2.1 (mx_gV (fun w h => List.mem_cons_of_mem _ h) mk_L_94 im_C_fillEmpty se_C_fillEmpty ic_C co_C_fillEmpty) rfl rfl rfl (by decide +kernel) ⟨by decide, by decide⟩) d_L_fill_5 ⟨Nat.zero_le _, Nat.zero_le _⟩,
  mx_s_iret C hr hlk d_L_fill_8,
  trivial⟩
set_option maxRecDepth 20000 in
set_option maxHeartbeats 2000000 in
theorem m_L_fill (l : Launch) : mx_M l y_L_fill w_L_fill rm_L_fill sp_L_fill := by
  intro zD ztc ztb zad As F P sz0 h
  obtain ⟨n, N, ch, S, lt, st, g, x, rfl, h0, h3, h4, h5, hw, h9, h10, hz, ho⟩ := h
  refine mx_run (cc := c_L_fill) (maxL := 3) (ret := (some .int)) (tab := t_L_fill  P) (by decide) rfl zD ztc ztb zad _ F P sz0 (Nat.le_of_ble_eq_true rfl) (fun p e s m args below meth c C hr hlk => a_L_fill  C hr hlk) ?_
  intro Rr go
  have hF := mx_as6 h0 h3 h4 h5 h9 h10
  rw [hF]
  refine go rfl ⟨_, rfl, ?_⟩
  refine go rfl ⟨_, _, _, _, rfl, rfl, rfl, ?_⟩
  refine go rfl ⟨_, rfl, ?_⟩
  refine go rfl ⟨_, _, _, _, rfl, rfl, rfl, rfl, rfl, ⟨n, N, ch, S, lt, st, g, x, rfl, rfl, rfl, rfl, hw, rfl, rfl, fun c => ?_, fun c => ?_⟩⟩
  · refine go rfl ⟨_, rfl, rfl, rfl, ?_⟩
    rw [← hF]
    exact hz c
  · refine go rfl ⟨_, rfl, rfl, rfl, ?_⟩
    rw [← hF]
    exact ho c
-- LadderWords.cell(II)I
def sp_L_cell : mx_Sp := fun As F P => ∃ (g : Nat → Int32) (x y : Int32), As = [mx_r 0, mx_i x, mx_i y] ∧ F 0 = some e_L ∧ F 29 = some e_C ∧ F 30 = some (mx_ia 64 g) ∧ P (some (mx_i (gat g x y))) F
theorem d_L_cell_0 : decode c_L_cell 0 = .ok (.aload_n 0, 1) := by decide +kernel
theorem d_L_cell_1 : decode c_L_cell 1 = .ok (.getfield 49, 3) := by decide +kernel
theorem d_L_cell_4 : decode c_L_cell 4 = .ok (.iload_n 1, 1) := by decide +kernel
theorem d_L_cell_5 : decode c_L_cell 5 = .ok (.iload_n 2, 1) := by decide +kernel
theorem d_L_cell_6 : decode c_L_cell 6 = .ok (.invokevirtual 98, 3) := by decide +kernel
theorem d_L_cell_9 : decode c_L_cell 9 = .ok (.ireturn, 1) := by decide +kernel
abbrev w_L_cell : List Cond := mx_ws y_L_cell c_L_cell 3 (some .int)
abbrev rm_L_cell : Room := { frames := 30, cells := 0, slots := 0, locals := 600 }
def t_L_cell  (P : Option mx_V → mx_F → Prop) : List (Nat × mx_O) := [
  (0, mx_aload 0 1),
  (1, mx_get 6 5 4),
  (4, mx_iload 1 5),
  (5, mx_iload 2 6),
  (6, mx_cv2 1 sp_C_letterAt 0 0 9),
  (9, mx_iret P)]
set_option maxRecDepth 20000 in
theorem a_L_cell  {p : Program} {l : Launch} {e : Env} {s : State} {m : MethodId} {args : Array Value} {below : List Frame} {meth : Method} {c : Code} {D : va_G} {tc : Nat → ClassId} {tb : Nat → Nat} {sz : Nat} {a0 : Nat → Nat} {G : mx_F} {P : Option mx_V → mx_F → Prop}  (C : mx_C p s m args c c_L_cell y_L_cell.cls w_L_cell D tc tb (mx_A a0 G sz) 3 (mx_Ok0 a0 G)) (hr : meth.sig.returnType = (some .int)) (hlk : meth.locks = false) : mx_all (mx_W p l e rm_L_cell s m args below meth c (MQ below (mx_Q D tc tb a0 G sz P) args s 0 0 (mx_A a0 G sz)) D tc tb (mx_A a0 G sz) 3 (mx_Ok0 a0 G)) (t_L_cell  P) :=
  ⟨mx_s_aload_n C d_L_cell_0 rfl,
  mx_s_get (T := T_L) (N := 6) (k := 5) C (fun w h => List.mem_cons_of_mem _ (in_L w h)) rfl (by decide) (List.mem_cons_of_mem _ fk_L_49) rfl d_L_cell_1,
  mx_s_iload_n C d_L_cell_4 rfl,
  mx_s_iload_n C d_L_cell_5 rfl,
  mx_s_cv2 C (m_C_letterAt l) rfl (cwV 2 C.2.2.2.2.1 (mx_gV (fun w h => List.mem_cons_of_mem _ h) mk_L_98 im_C_letterAt se_C_letterAt ic_C co_C_letterAt) rfl rfl rfl (by decide +kernel) ⟨by decide, by decide⟩) d_L_cell_6 ⟨Nat.zero_le _, Nat.zero_le _⟩,
  mx_s_iret C hr hlk d_L_cell_9,
  trivial⟩
set_option maxRecDepth 20000 in
set_option maxHeartbeats 2000000 in
theorem m_L_cell (l : Launch) : mx_M l y_L_cell w_L_cell rm_L_cell sp_L_cell := by
  intro zD ztc ztb zad As F P sz0 h
  obtain ⟨g, x, y, rfl, h0, h9, h10, hp⟩ := h
  refine mx_run (cc := c_L_cell) (maxL := 3) (ret := (some .int)) (tab := t_L_cell  P) (by decide) rfl zD ztc ztb zad _ F P sz0 (Nat.le_of_ble_eq_true rfl) (fun p e s m args below meth c C hr hlk => a_L_cell  C hr hlk) ?_
  intro Rr go
  have hF := mx_as3 h0 h9 h10
  rw [hF]
  refine go rfl ⟨_, rfl, ?_⟩
  refine go rfl ⟨_, _, _, _, rfl, rfl, rfl, ?_⟩
  refine go rfl ⟨_, rfl, ?_⟩
  refine go rfl ⟨_, rfl, ?_⟩
  refine go rfl ⟨_, _, _, _, _, rfl, rfl, rfl, rfl, rfl, ⟨g, x, y, rfl, rfl, rfl, ?_⟩⟩
  refine go rfl ⟨_, rfl, rfl, rfl, ?_⟩
  rw [← hF]
  exact hp
-- LadderWords.found(I)I
def sp_L_found : mx_Sp := fun As F P => ∃ (n : Nat) (N : Nat → Nat) (ch : Nat → Nat → Int32) (S : Nat → Nat) (lt st g : Nat → Int32) (w : Int32), As = [mx_r 0, mx_i w] ∧ F 0 = some e_L ∧ F 3 = some (e_W n) ∧ F 4 = some (mx_ia 360 lt) ∧ F 5 = some (mx_ia 61 st) ∧ wst n N ch S lt st ∧ F 29 = some e_C ∧ F 30 = some (mx_ia 64 g) ∧ (∀ j, j < n → w = nI j → P (some (mx_i (nI (cnt (stA g (N j) (ch j)) 512)))) F) ∧ ((w < 0 ∨ nI n ≤ w) → P (some (mx_i (-1))) F)
theorem d_L_found_0 : decode c_L_found 0 = .ok (.aload_n 0, 1) := by decide +kernel
theorem d_L_found_1 : decode c_L_found 1 = .ok (.getfield 49, 3) := by decide +kernel
theorem d_L_found_4 : decode c_L_found 4 = .ok (.iload_n 1, 1) := by decide +kernel
theorem d_L_found_5 : decode c_L_found 5 = .ok (.invokevirtual 101, 3) := by decide +kernel
theorem d_L_found_8 : decode c_L_found 8 = .ok (.ireturn, 1) := by decide +kernel
abbrev w_L_found : List Cond := mx_ws y_L_found c_L_found 2 (some .int)
abbrev rm_L_found : Room := { frames := 50, cells := 0, slots := 0, locals := 1000 }
def t_L_found  (P : Option mx_V → mx_F → Prop) : List (Nat × mx_O) := [
  (0, mx_aload 0 1),
  (1, mx_get 6 5 4),
  (4, mx_iload 1 5),
  (5, mx_cv1 1 sp_C_countOf 0 0 8),
  (8, mx_iret P)]
set_option maxRecDepth 20000 in
theorem a_L_found  {p : Program} {l : Launch} {e : Env} {s : State} {m : MethodId} {args : Array Value} {below : List Frame} {meth : Method} {c : Code} {D : va_G} {tc : Nat → ClassId} {tb : Nat → Nat} {sz : Nat} {a0 : Nat → Nat} {G : mx_F} {P : Option mx_V → mx_F → Prop}  (C : mx_C p s m args c c_L_found y_L_found.cls w_L_found D tc tb (mx_A a0 G sz) 2 (mx_Ok0 a0 G)) (hr : meth.sig.returnType = (some .int)) (hlk : meth.locks = false) : mx_all (mx_W p l e rm_L_found s m args below meth c (MQ below (mx_Q D tc tb a0 G sz P) args s 0 0 (mx_A a0 G sz)) D tc tb (mx_A a0 G sz) 2 (mx_Ok0 a0 G)) (t_L_found  P) :=
  ⟨mx_s_aload_n C d_L_found_0 rfl,
  mx_s_get (T := T_L) (N := 6) (k := 5) C (fun w h => List.mem_cons_of_mem _ (in_L w h)) rfl (by decide) (List.mem_cons_of_mem _ fk_L_49) rfl d_L_found_1,
  mx_s_iload_n C d_L_found_4 rfl,
  mx_s_cv1 C (m_C_countOf l) rfl (cwV 1 C.2.2.2.2.1 (mx_gV (fun w h => List.mem_cons_of_mem _ h) mk_L_101 im_C_countOf se_C_countOf ic_C co_C_countOf) rfl rfl rfl (by decide +kernel) ⟨by decide, by decide⟩) d_L_found_5 ⟨Nat.zero_le _, Nat.zero_le _⟩,
  mx_s_iret C hr hlk d_L_found_8,
  trivial⟩
set_option maxRecDepth 20000 in
set_option maxHeartbeats 2000000 in
theorem m_L_found (l : Launch) : mx_M l y_L_found w_L_found rm_L_found sp_L_found := by
  intro zD ztc ztb zad As F P sz0 h
  obtain ⟨n, N, ch, S, lt, st, g, w, rfl, h0, h3, h4, h5, hw, h9, h10, ho, hz⟩ := h
  refine mx_run (cc := c_L_found) (maxL := 2) (ret := (some .int)) (tab := t_L_found  P) (by decide) rfl zD ztc ztb zad _ F P sz0 (Nat.le_of_ble_eq_true rfl) (fun p e s m args below meth c C hr hlk => a_L_found  C hr hlk) ?_
  intro Rr go
  have hF := mx_as6 h0 h3 h4 h5 h9 h10
  rw [hF]
  refine go rfl ⟨_, rfl, ?_⟩
  refine go rfl ⟨_, _, _, _, rfl, rfl, rfl, ?_⟩
  refine go rfl ⟨_, rfl, ?_⟩
  refine go rfl ⟨_, _, _, _, rfl, rfl, rfl, rfl, rfl, ⟨n, N, ch, S, lt, st, g, w, rfl, rfl, rfl, rfl, hw, rfl, rfl, fun j q1 q2 => ?_, fun c => ?_⟩⟩
  · refine go rfl ⟨_, rfl, rfl, rfl, ?_⟩
    rw [← hF]
    exact ho j q1 q2
  · refine go rfl ⟨_, rfl, rfl, rfl, ?_⟩
    rw [← hF]
    exact hz c
-- LadderWords.where(II)I
def sp_L_where : mx_Sp := fun As F P => ∃ (n : Nat) (N : Nat → Nat) (ch : Nat → Nat → Int32) (S : Nat → Nat) (lt st g : Nat → Int32) (w k : Int32), As = [mx_r 0, mx_i w, mx_i k] ∧ F 0 = some e_L ∧ F 3 = some (e_W n) ∧ F 4 = some (mx_ia 360 lt) ∧ F 5 = some (mx_ia 61 st) ∧ wst n N ch S lt st ∧ F 29 = some e_C ∧ F 30 = some (mx_ia 64 g) ∧ (∀ j p, j < n → w = nI j → ¬ k < 0 → p < 512 → stA g (N j) (ch j) p → nI (cnt (stA g (N j) (ch j)) p) = k → (∀ q, q < p → ¬ (stA g (N j) (ch j) q ∧ nI (cnt (stA g (N j) (ch j)) q) = k)) → P (some (mx_i (nI p))) F) ∧ ((¬ ∃ j p, j < n ∧ w = nI j ∧ ¬ k < 0 ∧ p < 512 ∧ stA g (N j) (ch j) p ∧ nI (cnt (stA g (N j) (ch j)) p) = k) → P (some (mx_i (-1))) F)
theorem d_L_where_0 : decode c_L_where 0 = .ok (.aload_n 0, 1) := by decide +kernel
theorem d_L_where_1 : decode c_L_where 1 = .ok (.getfield 49, 3) := by decide +kernel
theorem d_L_where_4 : decode c_L_where 4 = .ok (.iload_n 1, 1) := by decide +kernel
theorem d_L_where_5 : decode c_L_where 5 = .ok (.iload_n 2, 1) := by decide +kernel
theorem d_L_where_6 : decode c_L_where 6 = .ok (.invokevirtual 104, 3) := by decide +kernel
theorem d_L_where_9 : decode c_L_where 9 = .ok (.ireturn, 1) := by decide +kernel
abbrev w_L_where : List Cond := mx_ws y_L_where c_L_where 3 (some .int)
abbrev rm_L_where : Room := { frames := 50, cells := 0, slots := 0, locals := 1000 }
def t_L_where  (P : Option mx_V → mx_F → Prop) : List (Nat × mx_O) := [
  (0, mx_aload 0 1),
  (1, mx_get 6 5 4),
  (4, mx_iload 1 5),
  (5, mx_iload 2 6),
  (6, mx_cv2 1 sp_C_placeOf 0 0 9),
  (9, mx_iret P)]
set_option maxRecDepth 20000 in
theorem a_L_where  {p : Program} {l : Launch} {e : Env} {s : State} {m : MethodId} {args : Array Value} {below : List Frame} {meth : Method} {c : Code} {D : va_G} {tc : Nat → ClassId} {tb : Nat → Nat} {sz : Nat} {a0 : Nat → Nat} {G : mx_F} {P : Option mx_V → mx_F → Prop}  (C : mx_C p s m args c c_L_where y_L_where.cls w_L_where D tc tb (mx_A a0 G sz) 3 (mx_Ok0 a0 G)) (hr : meth.sig.returnType = (some .int)) (hlk : meth.locks = false) : mx_all (mx_W p l e rm_L_where s m args below meth c (MQ below (mx_Q D tc tb a0 G sz P) args s 0 0 (mx_A a0 G sz)) D tc tb (mx_A a0 G sz) 3 (mx_Ok0 a0 G)) (t_L_where  P) :=
  ⟨mx_s_aload_n C d_L_where_0 rfl,
  mx_s_get (T := T_L) (N := 6) (k := 5) C (fun w h => List.mem_cons_of_mem _ (in_L w h)) rfl (by decide) (List.mem_cons_of_mem _ fk_L_49) rfl d_L_where_1,
  mx_s_iload_n C d_L_where_4 rfl,
  mx_s_iload_n C d_L_where_5 rfl,
  mx_s_cv2 C (m_C_placeOf l) rfl (cwV 2 C.2.2.2.2.1 (mx_gV (fun w h => List.mem_cons_of_mem _ h) mk_L_104 im_C_placeOf se_C_placeOf ic_C co_C_placeOf) rfl rfl rfl (by decide +kernel) ⟨by decide, by decide⟩) d_L_where_6 ⟨Nat.zero_le _, Nat.zero_le _⟩,
  mx_s_iret C hr hlk d_L_where_9,
  trivial⟩
set_option maxRecDepth 20000 in
set_option maxHeartbeats 2000000 in
theorem m_L_where (l : Launch) : mx_M l y_L_where w_L_where rm_L_where sp_L_where := by
  intro zD ztc ztb zad As F P sz0 h
  obtain ⟨n, N, ch, S, lt, st, g, w, k, rfl, h0, h3, h4, h5, hw, h9, h10, ho, hz⟩ := h
  refine mx_run (cc := c_L_where) (maxL := 3) (ret := (some .int)) (tab := t_L_where  P) (by decide) rfl zD ztc ztb zad _ F P sz0 (Nat.le_of_ble_eq_true rfl) (fun p e s m args below meth c C hr hlk => a_L_where  C hr hlk) ?_
  intro Rr go
  have hF := mx_as6 h0 h3 h4 h5 h9 h10
  rw [hF]
  refine go rfl ⟨_, rfl, ?_⟩
  refine go rfl ⟨_, _, _, _, rfl, rfl, rfl, ?_⟩
  refine go rfl ⟨_, rfl, ?_⟩
  refine go rfl ⟨_, rfl, ?_⟩
  refine go rfl ⟨_, _, _, _, _, rfl, rfl, rfl, rfl, rfl, ⟨n, N, ch, S, lt, st, g, w, k, rfl, rfl, rfl, rfl, hw, rfl, rfl, fun j p q1 q2 q3 q4 q5 q6 q7 => ?_, fun c => ?_⟩⟩
  · refine go rfl ⟨_, rfl, rfl, rfl, ?_⟩
    rw [← hF]
    exact ho j p q1 q2 q3 q4 q5 q6 q7
  · refine go rfl ⟨_, rfl, rfl, rfl, ?_⟩
    rw [← hF]
    exact hz c
-- LadderWords.wipe()V
def sp_L_wipe : mx_Sp := fun As F P => ∃ g : Nat → Int32, As = [mx_r 0] ∧ F 0 = some e_L ∧ F 29 = some e_C ∧ F 30 = some (mx_ia 64 g) ∧ P none (mx_put F 30 (mx_ia 64 (clr g 64)))
theorem d_L_wipe_0 : decode c_L_wipe 0 = .ok (.aload_n 0, 1) := by decide +kernel
theorem d_L_wipe_1 : decode c_L_wipe 1 = .ok (.getfield 49, 3) := by decide +kernel
theorem d_L_wipe_4 : decode c_L_wipe 4 = .ok (.invokevirtual 107, 3) := by decide +kernel
theorem d_L_wipe_7 : decode c_L_wipe 7 = .ok (.return_, 1) := by decide +kernel
abbrev w_L_wipe : List Cond := mx_ws y_L_wipe c_L_wipe 1 none
abbrev rm_L_wipe : Room := { frames := 20, cells := 0, slots := 0, locals := 400 }
def t_L_wipe  (P : Option mx_V → mx_F → Prop) : List (Nat × mx_O) := [
  (0, mx_aload 0 1),
  (1, mx_get 6 5 4),
  (4, mx_cv0 1 sp_C_clear 0 0 7),
  (7, mx_ret P)]
set_option maxRecDepth 20000 in
theorem a_L_wipe  {p : Program} {l : Launch} {e : Env} {s : State} {m : MethodId} {args : Array Value} {below : List Frame} {meth : Method} {c : Code} {D : va_G} {tc : Nat → ClassId} {tb : Nat → Nat} {sz : Nat} {a0 : Nat → Nat} {G : mx_F} {P : Option mx_V → mx_F → Prop}  (C : mx_C p s m args c c_L_wipe y_L_wipe.cls w_L_wipe D tc tb (mx_A a0 G sz) 1 (mx_Ok0 a0 G)) (hr : meth.sig.returnType = none) (hlk : meth.locks = false) : mx_all (mx_W p l e rm_L_wipe s m args below meth c (MQ below (mx_Q D tc tb a0 G sz P) args s 0 0 (mx_A a0 G sz)) D tc tb (mx_A a0 G sz) 1 (mx_Ok0 a0 G)) (t_L_wipe  P) :=
  ⟨mx_s_aload_n C d_L_wipe_0 rfl,
  mx_s_get (T := T_L) (N := 6) (k := 5) C (fun w h => List.mem_cons_of_mem _ (in_L w h)) rfl (by decide) (List.mem_cons_of_mem _ fk_L_49) rfl d_L_wipe_1,
  mx_s_cv0 C (m_C_clear l) rfl (cwV 0 C.2.2.2.2.1 (mx_gV (fun w h => List.mem_cons_of_mem _ h) mk_L_107 im_C_clear se_C_clear ic_C co_C_clear) rfl rfl rfl (by decide +kernel) ⟨by decide, by decide⟩) d_L_wipe_4 ⟨Nat.zero_le _, Nat.zero_le _⟩,
  mx_s_ret C hr hlk d_L_wipe_7,
  trivial⟩
set_option maxRecDepth 20000 in
set_option maxHeartbeats 2000000 in
theorem m_L_wipe (l : Launch) : mx_M l y_L_wipe w_L_wipe rm_L_wipe sp_L_wipe := by
  intro zD ztc ztb zad As F P sz0 h
  obtain ⟨g, rfl, h0, h9, h10, hp⟩ := h
  refine mx_run (cc := c_L_wipe) (maxL := 1) (ret := none) (tab := t_L_wipe  P) (by decide) rfl zD ztc ztb zad _ F P sz0 (Nat.le_of_ble_eq_true rfl) (fun p e s m args below meth c C hr hlk => a_L_wipe  C hr hlk) ?_
  intro Rr go
  have hF := mx_as3 h0 h9 h10
  rw [hF]
  refine go rfl ⟨_, rfl, ?_⟩
  refine go rfl ⟨_, _, _, _, rfl, rfl, rfl, ?_⟩
  refine go rfl ⟨_, _, _, rfl, rfl, rfl, rfl, rfl, ⟨g, rfl, rfl, rfl, ?_⟩⟩
  refine go rfl ⟨rfl, rfl, rfl, ?_⟩
  rw [← hF]
  exact hp
/-- standing, or with empty cells too -/
def smP (b : Nat) (g : Nat → Int32) (L : Nat) (ch : Nat → Int32) (x y : Int32) (d : Nat) : Prop := ∀ i, i < L → ins (cx x d i) (cy y d i) ∧ (gat g (cx x d i) (cy y d i) = ch i ∨ (b = 1 ∧ gat g (cx x d i) (cy y d i) = 0))
theorem smP_1 {g : Nat → Int32} {L : Nat} {ch : Nat → Int32} {x y : Int32} {d : Nat} : smP 1 g L ch x y d ↔ rmP g L ch x y d :=
  ⟨fun h i hi => ⟨(h i hi).1, (h i hi).2.elim Or.inr (fun q => Or.inl q.2)⟩, fun h i hi => ⟨(h i hi).1, (h i hi).2.elim (fun q => Or.inr ⟨rfl, q⟩) Or.inl⟩⟩
theorem smP_0 {g : Nat → Int32} {L : Nat} {ch : Nat → Int32} {x y : Int32} {d : Nat} : smP 0 g L ch x y d ↔ stP g L ch x y d :=
  ⟨fun h i hi => ⟨(h i hi).1, (h i hi).2.elim id (fun q => absurd q.1 (by decide))⟩, fun h i hi => ⟨(h i hi).1, Or.inl (h i hi).2⟩⟩
-- LadderWordsModel.across(I)I
def sp_M_across : mx_Sp := fun As F P => ∃ k : Nat, As = [mx_i (nI k)] ∧ k < 8 ∧ P (some (mx_i (mx_t0 k))) F
theorem d_M_across_0 : decode c_M_across 0 = .ok (.iload_n 0, 1) := by decide +kernel
theorem d_M_across_1 : decode c_M_across 1 = .ok (.iconst 2, 1) := by decide +kernel
theorem d_M_across_2 : decode c_M_across 2 = .ok (.if_icmp .eq 9, 3) := by decide +kernel
theorem d_M_across_5 : decode c_M_across 5 = .ok (.iload_n 0, 1) := by decide +kernel
theorem d_M_across_6 : decode c_M_across 6 = .ok (.bipush 6, 2) := by decide +kernel
theorem d_M_across_8 : decode c_M_across 8 = .ok (.if_icmp .ne 7, 3) := by decide +kernel
theorem d_M_across_11 : decode c_M_across 11 = .ok (.iconst 0, 1) := by decide +kernel
theorem d_M_across_12 : decode c_M_across 12 = .ok (.goto 19, 3) := by decide +kernel
theorem d_M_across_15 : decode c_M_across 15 = .ok (.iload_n 0, 1) := by decide +kernel
theorem d_M_across_16 : decode c_M_across 16 = .ok (.iconst 2, 1) := by decide +kernel
theorem d_M_across_17 : decode c_M_across 17 = .ok (.if_icmp .lt 9, 3) := by decide +kernel
theorem d_M_across_20 : decode c_M_across 20 = .ok (.iload_n 0, 1) := by decide +kernel
theorem d_M_across_21 : decode c_M_across 21 = .ok (.bipush 7, 2) := by decide +kernel
theorem d_M_across_23 : decode c_M_across 23 = .ok (.if_icmp .ne 7, 3) := by decide +kernel
theorem d_M_across_26 : decode c_M_across 26 = .ok (.iconst 1, 1) := by decide +kernel
theorem d_M_across_27 : decode c_M_across 27 = .ok (.goto 4, 3) := by decide +kernel
theorem d_M_across_30 : decode c_M_across 30 = .ok (.iconst (-1), 1) := by decide +kernel
theorem d_M_across_31 : decode c_M_across 31 = .ok (.ireturn, 1) := by decide +kernel
abbrev w_M_across : List Cond := mx_ws y_M_across c_M_across 1 (some .int)
abbrev rm_M_across : Room := { frames := 10, cells := 0, slots := 0, locals := 200 }
def t_M_across  (P : Option mx_V → mx_F → Prop) : List (Nat × mx_O) := [
  (0, mx_iload 0 1),
  (1, mx_push (.inl (nI 2)) 2),
  (2, mx_ic_eq 11 5),
  (5, mx_iload 0 6),
  (6, mx_push (.inl (nI 6)) 8),
  (8, mx_ic_ne 15 11),
  (11, mx_push (.inl (nI 0)) 12),
  (12, mx_goto 31),
  (15, mx_iload 0 16),
  (16, mx_push (.inl (nI 2)) 17),
  (17, mx_ic_lt 26 20),
  (20, mx_iload 0 21),
  (21, mx_push (.inl (nI 7)) 23),
  (23, mx_ic_ne 30 26),
  (26, mx_push (.inl (nI 1)) 27),
  (27, mx_goto 31),
  (30, mx_push (.inl (-1)) 31),
  (31, mx_iret P)]
set_option maxRecDepth 20000 in
theorem a_M_across  {p : Program} {l : Launch} {e : Env} {s : State} {m : MethodId} {args : Array Value} {below : List Frame} {meth : Method} {c : Code} {D : va_G} {tc : Nat → ClassId} {tb : Nat → Nat} {sz : Nat} {a0 : Nat → Nat} {G : mx_F} {P : Option mx_V → mx_F → Prop}  (C : mx_C p s m args c c_M_across y_M_across.cls w_M_across D tc tb (mx_A a0 G sz) 1 (mx_Ok0 a0 G)) (hr : meth.sig.returnType = (some .int)) (hlk : meth.locks = false) : mx_all (mx_W p l e rm_M_across s m args below meth c (MQ below (mx_Q D tc tb a0 G sz P) args s 0 0 (mx_A a0 G sz)) D tc tb (mx_A a0 G sz) 1 (mx_Ok0 a0 G)) (t_M_across  P) :=
  ⟨mx_s_iload_n C d_M_across_0 rfl,
  mx_s_iconst C d_M_across_1 (by decide),
  mx_s_ic_eq C d_M_across_2 (by decide),
  mx_s_iload_n C d_M_across_5 rfl,
  mx_s_bipush C d_M_across_6 (by decide),
  mx_s_ic_ne C d_M_across_8 (by decide),
  mx_s_iconst C d_M_across_11 (by decide),
  mx_s_goto C d_M_across_12 (by decide),
  mx_s_iload_n C d_M_across_15 rfl,
  mx_s_iconst C d_M_across_16 (by decide),
  mx_s_ic_lt C d_M_across_17 (by decide),
  mx_s_iload_n C d_M_across_20 rfl,
  mx_s_bipush C d_M_across_21 (by decide),
  mx_s_ic_ne C d_M_across_23 (by decide),
  mx_s_iconst C d_M_across_26 (by decide),
  mx_s_goto C d_M_across_27 (by decide),
  mx_s_iconst C d_M_across_30 (by decide),
  mx_s_iret C hr hlk d_M_across_31,
  trivial⟩
set_option maxRecDepth 20000 in
set_option maxHeartbeats 2000000 in
theorem m_M_across (l : Launch) : mx_M l y_M_across w_M_across rm_M_across sp_M_across := by
  intro zD ztc ztb zad As F P sz0 h
  obtain ⟨k, rfl, hk, hp⟩ := h
  refine mx_run (cc := c_M_across) (maxL := 1) (ret := (some .int)) (tab := t_M_across  P) (by decide) rfl zD ztc ztb zad _ F P sz0 (Nat.le_of_ble_eq_true rfl) (fun p e s m args below meth c C hr hlk => a_M_across  C hr hlk) ?_
  intro Rr go
  have e2 : nI k = nI 2 ↔ k = 2 := nI_eq (by omega) (by omega)
  have e6 : nI k = nI 6 ↔ k = 6 := nI_eq (by omega) (by omega)
  have e7 : nI k = nI 7 ↔ k = 7 := nI_eq (by omega) (by omega)
  have l2 : nI k < nI 2 ↔ k < 2 := nI_ltI (by omega) (by omega)
  have z : (k = 2 ∨ k = 6) → Rr 11 [some (mx_i (nI k))] [] F 0 0 := by
    intro h
    refine go rfl ?_
    refine go rfl ?_
    refine go rfl ⟨_, rfl, rfl, rfl, ?_⟩
    rcases h with rfl | rfl <;> exact hp
  have u : (k < 2 ∨ k = 7) → Rr 26 [some (mx_i (nI k))] [] F 0 0 := by
    intro h
    refine go rfl ?_
    refine go rfl ?_
    refine go rfl ⟨_, rfl, rfl, rfl, ?_⟩
    rcases (show k = 0 ∨ k = 1 ∨ k = 7 by omega) with rfl | rfl | rfl <;> exact hp
  refine go rfl ⟨_, rfl, ?_⟩
  refine go rfl ?_
  refine go rfl ⟨_, _, _, rfl, fun c1 => ?_, fun c1 => ?_⟩
  · exact z (Or.inl (e2.mp c1))
  refine go rfl ⟨_, rfl, ?_⟩
  refine go rfl ?_
  refine go rfl ⟨_, _, _, rfl, fun c2 => ?_, fun c2 => ?_⟩
  rotate_left
  · exact z (Or.inr (e6.mp c2))
  refine go rfl ⟨_, rfl, ?_⟩
  refine go rfl ?_
  refine go rfl ⟨_, _, _, rfl, fun c3 => ?_, fun c3 => ?_⟩
  · exact u (Or.inl (l2.mp c3))
  refine go rfl ⟨_, rfl, ?_⟩
  refine go rfl ?_
  refine go rfl ⟨_, _, _, rfl, fun c4 => ?_, fun c4 => ?_⟩
  rotate_left
  · exact u (Or.inr (e7.mp c4))
  refine go rfl ?_
  refine go rfl ⟨_, rfl, rfl, rfl, ?_⟩
  have n2 : ¬ k = 2 := fun q => c1 (e2.mpr q)
  have n6 : ¬ k = 6 := fun q => c2 (e6.mpr q)
  have n7 : ¬ k = 7 := fun q => c4 (e7.mpr q)
  have n1 : ¬ k < 2 := fun q => c3 (l2.mpr q)
  rcases (show k = 3 ∨ k = 4 ∨ k = 5 by omega) with rfl | rfl | rfl <;> exact hp
-- LadderWordsModel.down(I)I
def sp_M_down : mx_Sp := fun As F P => ∃ k : Nat, As = [mx_i (nI k)] ∧ k < 8 ∧ P (some (mx_i (mx_t1 k))) F
theorem d_M_down_0 : decode c_M_down 0 = .ok (.iload_n 0, 1) := by decide +kernel
theorem d_M_down_1 : decode c_M_down 1 = .ok (.ifCond .eq 8, 3) := by decide +kernel
theorem d_M_down_4 : decode c_M_down 4 = .ok (.iload_n 0, 1) := by decide +kernel
theorem d_M_down_5 : decode c_M_down 5 = .ok (.iconst 4, 1) := by decide +kernel
theorem d_M_down_6 : decode c_M_down 6 = .ok (.if_icmp .ne 7, 3) := by decide +kernel
theorem d_M_down_9 : decode c_M_down 9 = .ok (.iconst 0, 1) := by decide +kernel
theorem d_M_down_10 : decode c_M_down 10 = .ok (.goto 13, 3) := by decide +kernel
theorem d_M_down_13 : decode c_M_down 13 = .ok (.iload_n 0, 1) := by decide +kernel
theorem d_M_down_14 : decode c_M_down 14 = .ok (.iconst 4, 1) := by decide +kernel
theorem d_M_down_15 : decode c_M_down 15 = .ok (.if_icmp .ge 7, 3) := by decide +kernel
theorem d_M_down_18 : decode c_M_down 18 = .ok (.iconst 1, 1) := by decide +kernel
theorem d_M_down_19 : decode c_M_down 19 = .ok (.goto 4, 3) := by decide +kernel
theorem d_M_down_22 : decode c_M_down 22 = .ok (.iconst (-1), 1) := by decide +kernel
theorem d_M_down_23 : decode c_M_down 23 = .ok (.ireturn, 1) := by decide +kernel
abbrev w_M_down : List Cond := mx_ws y_M_down c_M_down 1 (some .int)
abbrev rm_M_down : Room := { frames := 10, cells := 0, slots := 0, locals := 200 }
def t_M_down  (P : Option mx_V → mx_F → Prop) : List (Nat × mx_O) := [
  (0, mx_iload 0 1),
  (1, mx_if_eq 9 4),
  (4, mx_iload 0 5),
  (5, mx_push (.inl (nI 4)) 6),
  (6, mx_ic_ne 13 9),
  (9, mx_push (.inl (nI 0)) 10),
  (10, mx_goto 23),
  (13, mx_iload 0 14),
  (14, mx_push (.inl (nI 4)) 15),
  (15, mx_ic_ge 22 18),
  (18, mx_push (.inl (nI 1)) 19),
  (19, mx_goto 23),
  (22, mx_push (.inl (-1)) 23),
  (23, mx_iret P)]
set_option maxRecDepth 20000 in
theorem a_M_down  {p : Program} {l : Launch} {e : Env} {s : State} {m : MethodId} {args : Array Value} {below : List Frame} {meth : Method} {c : Code} {D : va_G} {tc : Nat → ClassId} {tb : Nat → Nat} {sz : Nat} {a0 : Nat → Nat} {G : mx_F} {P : Option mx_V → mx_F → Prop}  (C : mx_C p s m args c c_M_down y_M_down.cls w_M_down D tc tb (mx_A a0 G sz) 1 (mx_Ok0 a0 G)) (hr : meth.sig.returnType = (some .int)) (hlk : meth.locks = false) : mx_all (mx_W p l e rm_M_down s m args below meth c (MQ below (mx_Q D tc tb a0 G sz P) args s 0 0 (mx_A a0 G sz)) D tc tb (mx_A a0 G sz) 1 (mx_Ok0 a0 G)) (t_M_down  P) :=
  ⟨mx_s_iload_n C d_M_down_0 rfl,
  mx_s_if_eq C d_M_down_1 (by decide),
  mx_s_iload_n C d_M_down_4 rfl,
  mx_s_iconst C d_M_down_5 (by decide),
  mx_s_ic_ne C d_M_down_6 (by decide),
  mx_s_iconst C d_M_down_9 (by decide),
  mx_s_goto C d_M_down_10 (by decide),
  mx_s_iload_n C d_M_down_13 rfl,
  mx_s_iconst C d_M_down_14 (by decide),
  mx_s_ic_ge C d_M_down_15 (by decide),
  mx_s_iconst C d_M_down_18 (by decide),
  mx_s_goto C d_M_down_19 (by decide),
  mx_s_iconst C d_M_down_22 (by decide),
  mx_s_iret C hr hlk d_M_down_23,
  trivial⟩
set_option maxRecDepth 20000 in
set_option maxHeartbeats 2000000 in
theorem m_M_down (l : Launch) : mx_M l y_M_down w_M_down rm_M_down sp_M_down := by
  intro zD ztc ztb zad As F P sz0 h
  obtain ⟨k, rfl, hk, hp⟩ := h
  refine mx_run (cc := c_M_down) (maxL := 1) (ret := (some .int)) (tab := t_M_down  P) (by decide) rfl zD ztc ztb zad _ F P sz0 (Nat.le_of_ble_eq_true rfl) (fun p e s m args below meth c C hr hlk => a_M_down  C hr hlk) ?_
  intro Rr go
  have e0 : nI k = 0 ↔ k = 0 := nI_eq (b := 0) (by omega) (by omega)
  have e4 : nI k = nI 4 ↔ k = 4 := nI_eq (by omega) (by omega)
  have l4 : nI 4 ≤ nI k ↔ 4 ≤ k := nI_leI (by omega) (by omega)
  have z : (k = 0 ∨ k = 4) → Rr 9 [some (mx_i (nI k))] [] F 0 0 := by
    intro h
    refine go rfl ?_
    refine go rfl ?_
    refine go rfl ⟨_, rfl, rfl, rfl, ?_⟩
    rcases h with rfl | rfl <;> exact hp
  refine go rfl ⟨_, rfl, ?_⟩
  refine go rfl ⟨_, _, rfl, fun c1 => ?_, fun c1 => ?_⟩
  · exact z (Or.inl (e0.mp c1))
  refine go rfl ⟨_, rfl, ?_⟩
  refine go rfl ?_
  refine go rfl ⟨_, _, _, rfl, fun c2 => ?_, fun c2 => ?_⟩
  rotate_left
  · exact z (Or.inr (e4.mp c2))
  have n0 : ¬ k = 0 := fun q => c1 (e0.mpr q)
  have n4 : ¬ k = 4 := fun q => c2 (e4.mpr q)
  refine go rfl ⟨_, rfl, ?_⟩
  refine go rfl ?_
  refine go rfl ⟨_, _, _, rfl, fun c3 => ?_, fun c3 => ?_⟩
  · refine go rfl ?_
    refine go rfl ⟨_, rfl, rfl, rfl, ?_⟩
    have n3 := l4.mp c3
    rcases (show k = 5 ∨ k = 6 ∨ k = 7 by omega) with rfl | rfl | rfl <;> exact hp
  · refine go rfl ?_
    refine go rfl ?_
    refine go rfl ⟨_, rfl, rfl, rfl, ?_⟩
    have n3 : ¬ 4 ≤ k := fun q => c3 (l4.mpr q)
    rcases (show k = 1 ∨ k = 2 ∨ k = 3 by omega) with rfl | rfl | rfl <;> exact hp
-- LadderWordsModel.stands(IIIIZ)Z
def sp_M_stands : mx_Sp := fun As F P => ∃ (th sz sp : Int32) (wy : Int64) (kp sd : Int32) (n : Nat) (N : Nat → Nat) (ch : Nat → Nat → Int32) (lt ml g : Nat → Int32) (j d b : Nat) (x y : Int32), As = [mx_r 40, mx_i (nI j), mx_i x, mx_i y, mx_i (nI d), mx_i (nI b)] ∧ F 42 = some (mx_ia 360 lt) ∧ F 43 = some (mx_ia 60 ml) ∧ F 51 = some (mx_ia 64 g) ∧ F 40 = some (e_M th sz (nI n) sp wy kp sd) ∧ mst n N ch lt ml ∧ j < n ∧ d < 8 ∧ b ≤ 1 ∧ (smP b g (N j) (ch j) x y d → P (some (mx_i (nI 1))) F) ∧ (¬ smP b g (N j) (ch j) x y d → P (some (mx_i (nI 0))) F)
theorem d_M_stands_0 : decode c_M_stands 0 = .ok (.iconst 0, 1) := by decide +kernel
theorem d_M_stands_1 : decode c_M_stands 1 = .ok (.istore 6, 2) := by decide +kernel
theorem d_M_stands_3 : decode c_M_stands 3 = .ok (.iload 6, 2) := by decide +kernel
theorem d_M_stands_5 : decode c_M_stands 5 = .ok (.aload_n 0, 1) := by decide +kernel
theorem d_M_stands_6 : decode c_M_stands 6 = .ok (.getfield 16, 3) := by decide +kernel
theorem d_M_stands_9 : decode c_M_stands 9 = .ok (.iload_n 1, 1) := by decide +kernel
theorem d_M_stands_10 : decode c_M_stands 10 = .ok (.iaload, 1) := by decide +kernel
theorem d_M_stands_11 : decode c_M_stands 11 = .ok (.if_icmp .ge 84, 3) := by decide +kernel
theorem d_M_stands_14 : decode c_M_stands 14 = .ok (.iload_n 2, 1) := by decide +kernel
theorem d_M_stands_15 : decode c_M_stands 15 = .ok (.iload 6, 2) := by decide +kernel
theorem d_M_stands_17 : decode c_M_stands 17 = .ok (.iload 4, 2) := by decide +kernel
theorem d_M_stands_19 : decode c_M_stands 19 = .ok (.invokestatic 107, 3) := by decide +kernel
theorem d_M_stands_22 : decode c_M_stands 22 = .ok (.imul, 1) := by decide +kernel
theorem d_M_stands_23 : decode c_M_stands 23 = .ok (.iadd, 1) := by decide +kernel
theorem d_M_stands_24 : decode c_M_stands 24 = .ok (.istore 7, 2) := by decide +kernel
theorem d_M_stands_26 : decode c_M_stands 26 = .ok (.iload_n 3, 1) := by decide +kernel
theorem d_M_stands_27 : decode c_M_stands 27 = .ok (.iload 6, 2) := by decide +kernel
theorem d_M_stands_29 : decode c_M_stands 29 = .ok (.iload 4, 2) := by decide +kernel
theorem d_M_stands_31 : decode c_M_stands 31 = .ok (.invokestatic 111, 3) := by decide +kernel
theorem d_M_stands_34 : decode c_M_stands 34 = .ok (.imul, 1) := by decide +kernel
theorem d_M_stands_35 : decode c_M_stands 35 = .ok (.iadd, 1) := by decide +kernel
theorem d_M_stands_36 : decode c_M_stands 36 = .ok (.istore 8, 2) := by decide +kernel
theorem d_M_stands_38 : decode c_M_stands 38 = .ok (.iload 7, 2) := by decide +kernel
theorem d_M_stands_40 : decode c_M_stands 40 = .ok (.iload 8, 2) := by decide +kernel
theorem d_M_stands_42 : decode c_M_stands 42 = .ok (.invokestatic 114, 3) := by decide +kernel
theorem d_M_stands_45 : decode c_M_stands 45 = .ok (.ifCond .ne 5, 3) := by decide +kernel
theorem d_M_stands_48 : decode c_M_stands 48 = .ok (.iconst 0, 1) := by decide +kernel
theorem d_M_stands_49 : decode c_M_stands 49 = .ok (.ireturn, 1) := by decide +kernel
theorem d_M_stands_50 : decode c_M_stands 50 = .ok (.aload_n 0, 1) := by decide +kernel
theorem d_M_stands_51 : decode c_M_stands 51 = .ok (.getfield 45, 3) := by decide +kernel
theorem d_M_stands_54 : decode c_M_stands 54 = .ok (.iload 7, 2) := by decide +kernel
theorem d_M_stands_56 : decode c_M_stands 56 = .ok (.bipush 8, 2) := by decide +kernel
theorem d_M_stands_58 : decode c_M_stands 58 = .ok (.iload 8, 2) := by decide +kernel
theorem d_M_stands_60 : decode c_M_stands 60 = .ok (.imul, 1) := by decide +kernel
theorem d_M_stands_61 : decode c_M_stands 61 = .ok (.iadd, 1) := by decide +kernel
theorem d_M_stands_62 : decode c_M_stands 62 = .ok (.iaload, 1) := by decide +kernel
theorem d_M_stands_63 : decode c_M_stands 63 = .ok (.istore 9, 2) := by decide +kernel
theorem d_M_stands_65 : decode c_M_stands 65 = .ok (.iload 9, 2) := by decide +kernel
theorem d_M_stands_67 : decode c_M_stands 67 = .ok (.aload_n 0, 1) := by decide +kernel
theorem d_M_stands_68 : decode c_M_stands 68 = .ok (.iload_n 1, 1) := by decide +kernel
theorem d_M_stands_69 : decode c_M_stands 69 = .ok (.iload 6, 2) := by decide +kernel
theorem d_M_stands_71 : decode c_M_stands 71 = .ok (.invokevirtual 57, 3) := by decide +kernel
theorem d_M_stands_74 : decode c_M_stands 74 = .ok (.if_icmp .eq 15, 3) := by decide +kernel
theorem d_M_stands_77 : decode c_M_stands 77 = .ok (.iload 5, 2) := by decide +kernel
theorem d_M_stands_79 : decode c_M_stands 79 = .ok (.ifCond .eq 8, 3) := by decide +kernel
theorem d_M_stands_82 : decode c_M_stands 82 = .ok (.iload 9, 2) := by decide +kernel
theorem d_M_stands_84 : decode c_M_stands 84 = .ok (.ifCond .eq 5, 3) := by decide +kernel
theorem d_M_stands_87 : decode c_M_stands 87 = .ok (.iconst 0, 1) := by decide +kernel
theorem d_M_stands_88 : decode c_M_stands 88 = .ok (.ireturn, 1) := by decide +kernel
theorem d_M_stands_89 : decode c_M_stands 89 = .ok (.iinc 6 1, 3) := by decide +kernel
theorem d_M_stands_92 : decode c_M_stands 92 = .ok (.goto (-89), 3) := by decide +kernel
theorem d_M_stands_95 : decode c_M_stands 95 = .ok (.iconst 1, 1) := by decide +kernel
theorem d_M_stands_96 : decode c_M_stands 96 = .ok (.ireturn, 1) := by decide +kernel
abbrev w_M_stands : List Cond := mx_ws y_M_stands c_M_stands 10 (some .boolean)
abbrev rm_M_stands : Room := { frames := 20, cells := 0, slots := 0, locals := 400 }
def t_M_stands  (P : Option mx_V → mx_F → Prop) : List (Nat × mx_O) := [
  (0, mx_push (.inl (nI 0)) 1),
  (1, mx_istore 6 3),
  (3, mx_iload 6 5),
  (5, mx_aload 0 6),
  (6, mx_get 7 5 9),
  (9, mx_iload 1 10),
  (10, mx_iald 11),
  (11, mx_ic_ge 95 14),
  (14, mx_iload 2 15),
  (15, mx_iload 6 17),
  (17, mx_iload 4 19),
  (19, mx_cs1 sp_M_across 0 0 22),
  (22, mx_imul 23),
  (23, mx_iadd 24),
  (24, mx_istore 7 26),
  (26, mx_iload 3 27),
  (27, mx_iload 6 29),
  (29, mx_iload 4 31),
  (31, mx_cs1 sp_M_down 0 0 34),
  (34, mx_imul 35),
  (35, mx_iadd 36),
  (36, mx_istore 8 38),
  (38, mx_iload 7 40),
  (40, mx_iload 8 42),
  (42, mx_cs2 sp_M_isCell 0 0 45),
  (45, mx_if_ne 50 48),
  (48, mx_push (.inl (nI 0)) 49),
  (49, mx_zret P),
  (50, mx_aload 0 51),
  (51, mx_get 7 17 54),
  (54, mx_iload 7 56),
  (56, mx_push (.inl (nI 8)) 58),
  (58, mx_iload 8 60),
  (60, mx_imul 61),
  (61, mx_iadd 62),
  (62, mx_iald 63),
  (63, mx_istore 9 65),
  (65, mx_iload 9 67),
  (67, mx_aload 0 68),
  (68, mx_iload 1 69),
  (69, mx_iload 6 71),
  (71, mx_cv2 7 sp_M_at 0 0 74),
  (74, mx_ic_eq 89 77),
  (77, mx_iload 5 79),
  (79, mx_if_eq 87 82),
  (82, mx_iload 9 84),
  (84, mx_if_eq 89 87),
  (87, mx_push (.inl (nI 0)) 88),
  (88, mx_zret P),
  (89, mx_iinc 6 (nI 1) 92),
  (92, mx_goto 3),
  (95, mx_push (.inl (nI 1)) 96),
  (96, mx_zret P)]
set_option maxRecDepth 20000 in
theorem a_M_stands  {p : Program} {l : Launch} {e : Env} {s : State} {m : MethodId} {args : Array Value} {below : List Frame} {meth : Method} {c : Code} {D : va_G} {tc : Nat → ClassId} {tb : Nat → Nat} {sz : Nat} {a0 : Nat → Nat} {G : mx_F} {P : Option mx_V → mx_F → Prop}  (C : mx_C p s m args c c_M_stands y_M_stands.cls w_M_stands D tc tb (mx_A a0 G sz) 10 (mx_Ok0 a0 G)) (hr : meth.sig.returnType = (some .boolean)) (hlk : meth.locks = false) : mx_all (mx_W p l e rm_M_stands s m args below meth c (MQ below (mx_Q D tc tb a0 G sz P) args s 0 0 (mx_A a0 G sz)) D tc tb (mx_A a0 G sz) 10 (mx_Ok0 a0 G)) (t_M_stands  P) :=
  ⟨mx_s_iconst C d_M_stands_0 (by decide),
  mx_s_istore C d_M_stands_1 (by decide),
  mx_s_iload C d_M_stands_3,
  mx_s_aload_n C d_M_stands_5 rfl,
  mx_s_get (T := T_M) (N := 18) (k := 5) C (fun w h => List.mem_cons_of_mem _ (in_M w h)) rfl (by decide) (List.mem_cons_of_mem _ fk_M_16) rfl d_M_stands_6,
  mx_s_iload_n C d_M_stands_9 rfl,
  mx_s_iald C d_M_stands_10,
  mx_s_ic_ge C d_M_stands_11 (by decide),
  mx_s_iload_n C d_M_stands_14 rfl,
  mx_s_iload C d_M_stands_15,
  mx_s_iload C d_M_stands_17,
  mx_s_cs1 C (m_M_across l) (cwS 1 C.2.2.2.2.1 (mx_gS (fun w h => List.mem_cons_of_mem _ h) mk_M_107 sm_M_across ic_M co_M_across) rfl rfl rfl (by decide +kernel) ⟨by decide, by decide⟩) d_M_stands_19 ⟨Nat.zero_le _, Nat.zero_le _⟩,
  mx_s_imul C d_M_stands_22,
  mx_s_iadd C d_M_stands_23,
  mx_s_istore C d_M_stands_24 (by decide),
  mx_s_iload_n C d_M_stands_26 rfl,
  mx_s_iload C d_M_stands_27,
  mx_s_iload C d_M_stands_29,
  mx_s_cs1 C (m_M_down l) (cwS 1 C.2.2.2.2.1 (mx_gS (fun w h => List.mem_cons_of_mem _ h) mk_M_111 sm_M_down ic_M co_M_down) rfl rfl rfl (by decide +kernel) ⟨by decide, by decide⟩) d_M_stands_31 ⟨Nat.zero_le _, Nat.zero_le _⟩,
  mx_s_imul C d_M_stands_34,
  mx_s_iadd C d_M_stands_35,
  mx_s_istore C d_M_stands_36 (by decide),
  mx_s_iload C d_M_stands_38,
  mx_s_iload C d_M_stands_40,
  mx_s_cs2 C (m_M_isCell l) (cwS 2 C.2.2.2.2.1 (mx_gS (fun w h => List.mem_cons_of_mem _ h) mk_M_114 sm_M_isCell ic_M co_M_isCell) rfl rfl rfl (by decide +kernel) ⟨by decide, by decide⟩) d_M_stands_42 ⟨Nat.zero_le _, Nat.zero_le _⟩,
  mx_s_if_ne C d_M_stands_45 (by decide),
  mx_s_iconst C d_M_stands_48 (by decide),
  mx_s_zret C hr hlk d_M_stands_49,
  mx_s_aload_n C d_M_stands_50 rfl,
  mx_s_get (T := T_M) (N := 18) (k := 17) C (fun w h => List.mem_cons_of_mem _ (in_M w h)) rfl (by decide) (List.mem_cons_of_mem _ fk_M_45) rfl d_M_stands_51,
  mx_s_iload C d_M_stands_54,
  mx_s_bipush C d_M_stands_56 (by decide),
  mx_s_iload C d_M_stands_58,
  mx_s_imul C d_M_stands_60,
  mx_s_iadd C d_M_stands_61,
  mx_s_iald C d_M_stands_62,
  mx_s_istore C d_M_stands_63 (by decide),
  mx_s_iload C d_M_stands_65,
  mx_s_aload_n C d_M_stands_67 rfl,
  mx_s_iload_n C d_M_stands_68 rfl,
  mx_s_iload C d_M_stands_69,
  mx_s_cv2 C (m_M_at l) rfl (cwV 2 C.2.2.2.2.1 (mx_gV (fun w h => List.mem_cons_of_mem _ h) mk_M_57 im_M_at se_M_at ic_M co_M_at) rfl rfl rfl (by decide +kernel) ⟨by decide, by decide⟩) d_M_stands_71 ⟨Nat.zero_le _, Nat.zero_le _⟩,
  mx_s_ic_eq C d_M_stands_74 (by decide),
  mx_s_iload C d_M_stands_77,
  mx_s_if_eq C d_M_stands_79 (by decide),
  mx_s_iload C d_M_stands_82,
  mx_s_if_eq C d_M_stands_84 (by decide),
  mx_s_iconst C d_M_stands_87 (by decide),
  mx_s_zret C hr hlk d_M_stands_88,
  mx_s_iinc C d_M_stands_89 (by decide) (by decide),
  mx_s_goto C d_M_stands_92 (by decide),
  mx_s_iconst C d_M_stands_95 (by decide),
  mx_s_zret C hr hlk d_M_stands_96,
  trivial⟩
set_option maxRecDepth 20000 in
set_option maxHeartbeats 2000000 in
theorem m_M_stands (l : Launch) : mx_M l y_M_stands w_M_stands rm_M_stands sp_M_stands := by
  intro zD ztc ztb zad As F P sz0 h
  obtain ⟨th, sz, sp, wy, kp, sd, n, N, ch, lt, ml, g, j, d, b, x, y, rfl, h2, h3, hg, h0, hw, hj, hd, hb, ho, hz⟩ := h
  refine mx_run (cc := c_M_stands) (maxL := 10) (ret := (some .boolean)) (tab := t_M_stands  P) (by decide) rfl zD ztc ztb zad _ F P sz0 (Nat.le_of_ble_eq_true rfl) (fun p e s m args below meth c C hr hlk => a_M_stands  C hr hlk) ?_
  intro Rr go
  have hF := mx_as4 h2 h3 hg h0
  rw [hF]
  have hn := hw.1.1
  have hN := hw.2.1.2.1 j hj
  have loop : ∀ (k i : Nat) (j7 j8 j9 : Option mx_V), i + k = N j → (∀ q, q < i → ins (cx x d q) (cy y d q) ∧ (gat g (cx x d q) (cy y d q) = ch j q ∨ (b = 1 ∧ gat g (cx x d q) (cy y d q) = 0))) → Rr 3 [some (mx_r 40), some (mx_i (nI j)), some (mx_i x), some (mx_i y), some (mx_i (nI d)), some (mx_i (nI b)), some (mx_i (nI i)), j7, j8, j9] [] (mx_put (mx_put (mx_put (mx_put F 42 (mx_ia 360 lt)) 43 (mx_ia 60 ml)) 51 (mx_ia 64 g)) 40 (e_M th sz (nI n) sp wy kp sd)) 0 0 := by
    intro k
    induction k with
    | zero =>
      intro i j7 j8 j9 hi hq
      refine go rfl ⟨_, rfl, ?_⟩
      refine go rfl ⟨_, rfl, ?_⟩
      refine go rfl ⟨_, _, _, _, rfl, rfl, rfl, ?_⟩
      refine go rfl ⟨_, rfl, ?_⟩
      refine go rfl ⟨_, _, _, _, _, rfl, rfl, (vp_in_nI (show j < 60 by omega) (by omega)), ?_⟩
      rw [vr_loadlen hw hj]
      refine go rfl ⟨_, _, _, rfl, fun c => ?_, fun c => ?_⟩
      · refine go rfl ?_
        refine go rfl ⟨_, rfl, rfl, rfl, (Or.inr rfl), ?_⟩
        rw [← hF]
        exact ho (fun q hq2 => hq q (by omega))
      · exact absurd (nI_le (by omega) (by omega)) c
    | succ k ih =>
      intro i j7 j8 j9 hi hq
      refine go rfl ⟨_, rfl, ?_⟩
      refine go rfl ⟨_, rfl, ?_⟩
      refine go rfl ⟨_, _, _, _, rfl, rfl, rfl, ?_⟩
      refine go rfl ⟨_, rfl, ?_⟩
      refine go rfl ⟨_, _, _, _, _, rfl, rfl, (vp_in_nI (show j < 60 by omega) (by omega)), ?_⟩
      rw [vr_loadlen hw hj]
      refine go rfl ⟨_, _, _, rfl, fun c => ?_, fun c => ?_⟩
      · exact absurd ((nI_leI (by omega) (by omega)).mp c) (by omega)
      have hv := hw.2.1.2.2 j i hj (by omega)
      have z : ¬ (ins (cx x d i) (cy y d i) ∧ (gat g (cx x d i) (cy y d i) = ch j i ∨ (b = 1 ∧ gat g (cx x d i) (cy y d i) = 0))) → P (some (mx_i (nI 0))) F := fun h => hz (fun h2 => h (h2 i (by omega)))
      refine go rfl ⟨_, rfl, ?_⟩
      refine go rfl ⟨_, rfl, ?_⟩
      refine go rfl ⟨_, rfl, ?_⟩
      refine go rfl ⟨_, _, rfl, rfl, rfl, rfl, ⟨d, rfl, hd, ?_⟩⟩
      refine go rfl ⟨_, _, _, rfl, ?_⟩
      refine go rfl ⟨_, _, _, rfl, ?_⟩
      refine go rfl ⟨_, _, rfl, ?_⟩
      refine go rfl ⟨_, rfl, ?_⟩
      refine go rfl ⟨_, rfl, ?_⟩
      refine go rfl ⟨_, rfl, ?_⟩
      refine go rfl ⟨_, _, rfl, rfl, rfl, rfl, ⟨d, rfl, hd, ?_⟩⟩
      refine go rfl ⟨_, _, _, rfl, ?_⟩
      refine go rfl ⟨_, _, _, rfl, ?_⟩
      refine go rfl ⟨_, _, rfl, ?_⟩
      refine go rfl ⟨_, rfl, ?_⟩
      refine go rfl ⟨_, rfl, ?_⟩
      refine go rfl ⟨_, _, _, rfl, rfl, rfl, rfl, ⟨cx x d i, cy y d i, rfl, fun c2 => ?_, fun c2 => ?_⟩⟩
      rotate_left
      · refine go rfl ⟨_, _, rfl, fun e => ?_, fun e => ?_⟩
        · exact absurd rfl e
        refine go rfl ?_
        refine go rfl ⟨_, rfl, rfl, rfl, (Or.inl rfl), ?_⟩
        rw [← hF]
        exact z (fun h => c2 h.1)
      refine go rfl ⟨_, _, rfl, fun e => ?_, fun e => ?_⟩
      rotate_left
      · exact absurd e (by decide)
      refine go rfl ⟨_, rfl, ?_⟩
      refine go rfl ⟨_, _, _, _, rfl, rfl, rfl, ?_⟩
      refine go rfl ⟨_, rfl, ?_⟩
      refine go rfl ?_
      refine go rfl ⟨_, rfl, ?_⟩
      refine go rfl ⟨_, _, _, rfl, ?_⟩
      refine go rfl ⟨_, _, _, rfl, ?_⟩
      refine go rfl ⟨_, _, _, _, _, rfl, rfl, (ins_vp (x := cx x d i) (y := cy y d i) c2), ?_⟩
      rw [show g (x + nI i * mx_t0 d + nI 8 * (y + nI i * mx_t1 d)).toNatClampNeg = gat g (cx x d i) (cy y d i) from (gat_in (g := g) (x := cx x d i) (y := cy y d i) c2).symm]
      refine go rfl ⟨_, _, rfl, ?_⟩
      refine go rfl ⟨_, rfl, ?_⟩
      refine go rfl ⟨_, rfl, ?_⟩
      refine go rfl ⟨_, rfl, ?_⟩
      refine go rfl ⟨_, rfl, ?_⟩
      refine go rfl ⟨_, _, _, _, _, rfl, rfl, rfl, rfl, rfl, u_at hw hj (show i < N j by omega) rfl rfl ?_⟩
      have go2 : (gat g (cx x d i) (cy y d i) = ch j i ∨ (b = 1 ∧ gat g (cx x d i) (cy y d i) = 0)) → Rr 89 [some (mx_r 40), some (mx_i (nI j)), some (mx_i x), some (mx_i y), some (mx_i (nI d)), some (mx_i (nI b)), some (mx_i (nI i)), some (mx_i (cx x d i)), some (mx_i (cy y d i)), some (mx_i (gat g (cx x d i) (cy y d i)))] [] (mx_put (mx_put (mx_put (mx_put F 42 (mx_ia 360 lt)) 43 (mx_ia 60 ml)) 51 (mx_ia 64 g)) 40 (e_M th sz (nI n) sp wy kp sd)) 0 0 := by
        intro hs
        refine go rfl ⟨_, rfl, ?_⟩
        refine go rfl ?_
        rw [nI_add]
        refine ih (i + 1) _ _ _ (by omega) (fun q hq2 => ?_)
        rcases Nat.lt_or_ge q i with w | w
        · exact hq q w
        · rw [show q = i by omega]
          exact ⟨c2, hs⟩
      refine go rfl ⟨_, _, _, rfl, fun e1 => ?_, fun e1 => ?_⟩
      · exact go2 (Or.inl e1)
      refine go rfl ⟨_, rfl, ?_⟩
      refine go rfl ⟨_, _, rfl, fun e2 => ?_, fun e2 => ?_⟩
      · refine go rfl ?_
        refine go rfl ⟨_, rfl, rfl, rfl, (Or.inl rfl), ?_⟩
        rw [← hF]
        have hb0 : b = 0 := (nI_eq (b := 0) (by omega) (by omega)).mp e2
        exact z (fun h => h.2.elim e1 (fun q => absurd q.1 (by omega)))
      have hb1 : b = 1 := by
        rcases Nat.eq_zero_or_pos b with q | q
        · rw [q] at e2
          exact absurd rfl e2
        · omega
      refine go rfl ⟨_, rfl, ?_⟩
      refine go rfl ⟨_, _, rfl, fun e3 => ?_, fun e3 => ?_⟩
      · exact go2 (Or.inr ⟨hb1, e3⟩)
      refine go rfl ?_
      refine go rfl ⟨_, rfl, rfl, rfl, (Or.inl rfl), ?_⟩
      rw [← hF]
      exact z (fun h => h.2.elim e1 (fun q => e3 q.2))
  refine go rfl ?_
  refine go rfl ⟨_, _, rfl, ?_⟩
  exact loop (N j) 0 none none none (by omega) (fun q hq => absurd hq (Nat.not_lt_zero q))
-- LadderWordsModel.hide(IIII)Z
def sp_M_hide : mx_Sp := fun As F P => ∃ (th sz sp : Int32) (wy : Int64) (kp sd : Int32) (n : Nat) (N : Nat → Nat) (ch : Nat → Nat → Int32) (lt ml g : Nat → Int32) (w x y d : Int32), As = [mx_r 40, mx_i w, mx_i x, mx_i y, mx_i d] ∧ F 42 = some (mx_ia 360 lt) ∧ F 43 = some (mx_ia 60 ml) ∧ F 51 = some (mx_ia 64 g) ∧ F 40 = some (e_M th sz (nI n) sp wy kp sd) ∧ mst n N ch lt ml ∧ (∀ j k, j < n → k < 8 → w = nI j → d = nI k → ins x y → rmP g (N j) (ch j) x y k → P (some (mx_i (nI 1))) (mx_put (mx_put F 40 (e_M (nI 0) sz (nI n) sp wy kp sd)) 51 (mx_ia 64 (hid g (ch j) x y k (N j))))) ∧ ((¬ ∃ j k, j < n ∧ k < 8 ∧ w = nI j ∧ d = nI k ∧ ins x y ∧ rmP g (N j) (ch j) x y k) → P (some (mx_i (nI 0))) (mx_put F 40 (e_M (nI 0) sz (nI n) sp wy kp sd)))
theorem d_M_hide_0 : decode c_M_hide 0 = .ok (.aload_n 0, 1) := by decide +kernel
theorem d_M_hide_1 : decode c_M_hide 1 = .ok (.iconst 0, 1) := by decide +kernel
theorem d_M_hide_2 : decode c_M_hide 2 = .ok (.putfield 48, 3) := by decide +kernel
theorem d_M_hide_5 : decode c_M_hide 5 = .ok (.aload_n 0, 1) := by decide +kernel
theorem d_M_hide_6 : decode c_M_hide 6 = .ok (.iload_n 1, 1) := by decide +kernel
theorem d_M_hide_7 : decode c_M_hide 7 = .ok (.invokevirtual 75, 3) := by decide +kernel
theorem d_M_hide_10 : decode c_M_hide 10 = .ok (.ifCond .eq 36, 3) := by decide +kernel
theorem d_M_hide_13 : decode c_M_hide 13 = .ok (.iload_n 2, 1) := by decide +kernel
theorem d_M_hide_14 : decode c_M_hide 14 = .ok (.iload_n 3, 1) := by decide +kernel
theorem d_M_hide_15 : decode c_M_hide 15 = .ok (.invokestatic 114, 3) := by decide +kernel
theorem d_M_hide_18 : decode c_M_hide 18 = .ok (.ifCond .eq 28, 3) := by decide +kernel
theorem d_M_hide_21 : decode c_M_hide 21 = .ok (.iload 4, 2) := by decide +kernel
theorem d_M_hide_23 : decode c_M_hide 23 = .ok (.ifCond .lt 23, 3) := by decide +kernel
theorem d_M_hide_26 : decode c_M_hide 26 = .ok (.iload 4, 2) := by decide +kernel
theorem d_M_hide_28 : decode c_M_hide 28 = .ok (.bipush 7, 2) := by decide +kernel
theorem d_M_hide_30 : decode c_M_hide 30 = .ok (.if_icmp .gt 16, 3) := by decide +kernel
theorem d_M_hide_33 : decode c_M_hide 33 = .ok (.aload_n 0, 1) := by decide +kernel
theorem d_M_hide_34 : decode c_M_hide 34 = .ok (.iload_n 1, 1) := by decide +kernel
theorem d_M_hide_35 : decode c_M_hide 35 = .ok (.iload_n 2, 1) := by decide +kernel
theorem d_M_hide_36 : decode c_M_hide 36 = .ok (.iload_n 3, 1) := by decide +kernel
theorem d_M_hide_37 : decode c_M_hide 37 = .ok (.iload 4, 2) := by decide +kernel
theorem d_M_hide_39 : decode c_M_hide 39 = .ok (.iconst 1, 1) := by decide +kernel
theorem d_M_hide_40 : decode c_M_hide 40 = .ok (.invokevirtual 117, 3) := by decide +kernel
theorem d_M_hide_43 : decode c_M_hide 43 = .ok (.ifCond .ne 5, 3) := by decide +kernel
theorem d_M_hide_46 : decode c_M_hide 46 = .ok (.iconst 0, 1) := by decide +kernel
theorem d_M_hide_47 : decode c_M_hide 47 = .ok (.ireturn, 1) := by decide +kernel
theorem d_M_hide_48 : decode c_M_hide 48 = .ok (.iconst 0, 1) := by decide +kernel
theorem d_M_hide_49 : decode c_M_hide 49 = .ok (.istore 5, 2) := by decide +kernel
theorem d_M_hide_51 : decode c_M_hide 51 = .ok (.iload 5, 2) := by decide +kernel
theorem d_M_hide_53 : decode c_M_hide 53 = .ok (.aload_n 0, 1) := by decide +kernel
theorem d_M_hide_54 : decode c_M_hide 54 = .ok (.getfield 16, 3) := by decide +kernel
theorem d_M_hide_57 : decode c_M_hide 57 = .ok (.iload_n 1, 1) := by decide +kernel
theorem d_M_hide_58 : decode c_M_hide 58 = .ok (.iaload, 1) := by decide +kernel
theorem d_M_hide_59 : decode c_M_hide 59 = .ok (.if_icmp .ge 45, 3) := by decide +kernel
theorem d_M_hide_62 : decode c_M_hide 62 = .ok (.aload_n 0, 1) := by decide +kernel
theorem d_M_hide_63 : decode c_M_hide 63 = .ok (.getfield 45, 3) := by decide +kernel
theorem d_M_hide_66 : decode c_M_hide 66 = .ok (.iload_n 2, 1) := by decide +kernel
theorem d_M_hide_67 : decode c_M_hide 67 = .ok (.iload 5, 2) := by decide +kernel
theorem d_M_hide_69 : decode c_M_hide 69 = .ok (.iload 4, 2) := by decide +kernel
theorem d_M_hide_71 : decode c_M_hide 71 = .ok (.invokestatic 107, 3) := by decide +kernel
theorem d_M_hide_74 : decode c_M_hide 74 = .ok (.imul, 1) := by decide +kernel
theorem d_M_hide_75 : decode c_M_hide 75 = .ok (.iadd, 1) := by decide +kernel
theorem d_M_hide_76 : decode c_M_hide 76 = .ok (.bipush 8, 2) := by decide +kernel
theorem d_M_hide_78 : decode c_M_hide 78 = .ok (.iload_n 3, 1) := by decide +kernel
theorem d_M_hide_79 : decode c_M_hide 79 = .ok (.iload 5, 2) := by decide +kernel
theorem d_M_hide_81 : decode c_M_hide 81 = .ok (.iload 4, 2) := by decide +kernel
theorem d_M_hide_83 : decode c_M_hide 83 = .ok (.invokestatic 111, 3) := by decide +kernel
theorem d_M_hide_86 : decode c_M_hide 86 = .ok (.imul, 1) := by decide +kernel
theorem d_M_hide_87 : decode c_M_hide 87 = .ok (.iadd, 1) := by decide +kernel
theorem d_M_hide_88 : decode c_M_hide 88 = .ok (.imul, 1) := by decide +kernel
theorem d_M_hide_89 : decode c_M_hide 89 = .ok (.iadd, 1) := by decide +kernel
theorem d_M_hide_90 : decode c_M_hide 90 = .ok (.aload_n 0, 1) := by decide +kernel
theorem d_M_hide_91 : decode c_M_hide 91 = .ok (.iload_n 1, 1) := by decide +kernel
theorem d_M_hide_92 : decode c_M_hide 92 = .ok (.iload 5, 2) := by decide +kernel
theorem d_M_hide_94 : decode c_M_hide 94 = .ok (.invokevirtual 57, 3) := by decide +kernel
theorem d_M_hide_97 : decode c_M_hide 97 = .ok (.iastore, 1) := by decide +kernel
theorem d_M_hide_98 : decode c_M_hide 98 = .ok (.iinc 5 1, 3) := by decide +kernel
theorem d_M_hide_101 : decode c_M_hide 101 = .ok (.goto (-50), 3) := by decide +kernel
theorem d_M_hide_104 : decode c_M_hide 104 = .ok (.iconst 1, 1) := by decide +kernel
theorem d_M_hide_105 : decode c_M_hide 105 = .ok (.ireturn, 1) := by decide +kernel
abbrev w_M_hide : List Cond := mx_ws y_M_hide c_M_hide 6 (some .boolean)
abbrev rm_M_hide : Room := { frames := 30, cells := 0, slots := 0, locals := 600 }
def t_M_hide  (P : Option mx_V → mx_F → Prop) : List (Nat × mx_O) := [
  (0, mx_aload 0 1),
  (1, mx_push (.inl (nI 0)) 2),
  (2, mx_puti 7 0 5),
  (5, mx_aload 0 6),
  (6, mx_iload 1 7),
  (7, mx_cv1 7 sp_M_isWord 0 0 10),
  (10, mx_if_eq 46 13),
  (13, mx_iload 2 14),
  (14, mx_iload 3 15),
  (15, mx_cs2 sp_M_isCell 0 0 18),
  (18, mx_if_eq 46 21),
  (21, mx_iload 4 23),
  (23, mx_if_lt 46 26),
  (26, mx_iload 4 28),
  (28, mx_push (.inl (nI 7)) 30),
  (30, mx_ic_gt 46 33),
  (33, mx_aload 0 34),
  (34, mx_iload 1 35),
  (35, mx_iload 2 36),
  (36, mx_iload 3 37),
  (37, mx_iload 4 39),
  (39, mx_push (.inl (nI 1)) 40),
  (40, mx_cv5 7 sp_M_stands 0 0 43),
  (43, mx_if_ne 48 46),
  (46, mx_push (.inl (nI 0)) 47),
  (47, mx_zret P),
  (48, mx_push (.inl (nI 0)) 49),
  (49, mx_istore 5 51),
  (51, mx_iload 5 53),
  (53, mx_aload 0 54),
  (54, mx_get 7 5 57),
  (57, mx_iload 1 58),
  (58, mx_iald 59),
  (59, mx_ic_ge 104 62),
  (62, mx_aload 0 63),
  (63, mx_get 7 17 66),
  (66, mx_iload 2 67),
  (67, mx_iload 5 69),
  (69, mx_iload 4 71),
  (71, mx_cs1 sp_M_across 0 0 74),
  (74, mx_imul 75),
  (75, mx_iadd 76),
  (76, mx_push (.inl (nI 8)) 78),
  (78, mx_iload 3 79),
  (79, mx_iload 5 81),
  (81, mx_iload 4 83),
  (83, mx_cs1 sp_M_down 0 0 86),
  (86, mx_imul 87),
  (87, mx_iadd 88),
  (88, mx_imul 89),
  (89, mx_iadd 90),
  (90, mx_aload 0 91),
  (91, mx_iload 1 92),
  (92, mx_iload 5 94),
  (94, mx_cv2 7 sp_M_at 0 0 97),
  (97, mx_iast 98),
  (98, mx_iinc 5 (nI 1) 101),
  (101, mx_goto 51),
  (104, mx_push (.inl (nI 1)) 105),
  (105, mx_zret P)]
set_option maxRecDepth 20000 in
theorem a_M_hide  {p : Program} {l : Launch} {e : Env} {s : State} {m : MethodId} {args : Array Value} {below : List Frame} {meth : Method} {c : Code} {D : va_G} {tc : Nat → ClassId} {tb : Nat → Nat} {sz : Nat} {a0 : Nat → Nat} {G : mx_F} {P : Option mx_V → mx_F → Prop}  (C : mx_C p s m args c c_M_hide y_M_hide.cls w_M_hide D tc tb (mx_A a0 G sz) 6 (mx_Ok0 a0 G)) (hr : meth.sig.returnType = (some .boolean)) (hlk : meth.locks = false) : mx_all (mx_W p l e rm_M_hide s m args below meth c (MQ below (mx_Q D tc tb a0 G sz P) args s 0 0 (mx_A a0 G sz)) D tc tb (mx_A a0 G sz) 6 (mx_Ok0 a0 G)) (t_M_hide  P) :=
  ⟨mx_s_aload_n C d_M_hide_0 rfl,
  mx_s_iconst C d_M_hide_1 (by decide),
  mx_s_puti (T := T_M) (N := 18) (k := 0) C (fun w h => List.mem_cons_of_mem _ (in_M w h)) rfl ty_M ok_M nm_M (by decide) (List.mem_cons_of_mem _ fk_M_48) rfl rfl (ok_M 0 (by decide)) d_M_hide_2,
  mx_s_aload_n C d_M_hide_5 rfl,
  mx_s_iload_n C d_M_hide_6 rfl,
  mx_s_cv1 C (m_M_isWord l) rfl (cwV 1 C.2.2.2.2.1 (mx_gV (fun w h => List.mem_cons_of_mem _ h) mk_M_75 im_M_isWord se_M_isWord ic_M co_M_isWord) rfl rfl rfl (by decide +kernel) ⟨by decide, by decide⟩) d_M_hide_7 ⟨Nat.zero_le _, Nat.zero_le _⟩,
  mx_s_if_eq C d_M_hide_10 (by decide),
  mx_s_iload_n C d_M_hide_13 rfl,
  mx_s_iload_n C d_M_hide_14 rfl,
  mx_s_cs2 C (m_M_isCell l) (cwS 2 C.2.2.2.2.1 (mx_gS (fun w h => List.mem_cons_of_mem _ h) mk_M_114 sm_M_isCell ic_M co_M_isCell) rfl rfl rfl (by decide +kernel) ⟨by decide, by decide⟩) d_M_hide_15 ⟨Nat.zero_le _, Nat.zero_le _⟩,
  mx_s_if_eq C d_M_hide_18 (by decide),
  mx_s_iload C d_M_hide_21,
  mx_s_if_lt C d_M_hide_23 (by decide),
  mx_s_iload C d_M_hide_26,
  mx_s_bipush C d_M_hide_28 (by decide),
  mx_s_ic_gt C d_M_hide_30 (by decide),
  mx_s_aload_n C d_M_hide_33 rfl,
  mx_s_iload_n C d_M_hide_34 rfl,
  mx_s_iload_n C d_M_hide_35 rfl,
  mx_s_iload_n C d_M_hide_36 rfl,
  mx_s_iload C d_M_hide_37,
  mx_s_iconst C d_M_hide_39 (by decide),
  mx_s_cv5 C (m_M_stands l) rfl (cwV 5 C.2.2.2.2.1 (mx_gV (fun w h => List.mem_cons_of_mem _ h) mk_M_117 im_M_stands se_M_stands ic_M co_M_stands) rfl rfl rfl (by decide +kernel) ⟨by decide, by decide⟩) d_M_hide_40 ⟨Nat.zero_le _, Nat.zero_le _⟩,
  mx_s_if_ne C d_M_hide_43 (by decide),
  mx_s_iconst C d_M_hide_46 (by decide),
  mx_s_zret C hr hlk d_M_hide_47,
  mx_s_iconst C d_M_hide_48 (by decide),
  mx_s_istore C d_M_hide_49 (by decide),
  mx_s_iload C d_M_hide_51,
  mx_s_aload_n C d_M_hide_53 rfl,
  mx_s_get (T := T_M) (N := 18) (k := 5) C (fun w h => List.mem_cons_of_mem _ (in_M w h)) rfl (by decide) (List.mem_cons_of_mem _ fk_M_16) rfl d_M_hide_54,
  mx_s_iload_n C d_M_hide_57 rfl,
  mx_s_iald C d_M_hide_58,
  mx_s_ic_ge C d_M_hide_59 (by decide),
  mx_s_aload_n C d_M_hide_62 rfl,
  mx_s_get (T := T_M) (N := 18) (k := 17) C (fun w h => List.mem_cons_of_mem _ (in_M w h)) rfl (by decide) (List.mem_cons_of_mem _ fk_M_45) rfl d_M_hide_63,
  mx_s_iload_n C d_M_hide_66 rfl,
  mx_s_iload C d_M_hide_67,
  mx_s_iload C d_M_hide_69,
  mx_s_cs1 C (m_M_across l) (cwS 1 C.2.2.2.2.1 (mx_gS (fun w h => List.mem_cons_of_mem _ h) mk_M_107 sm_M_across ic_M co_M_across) rfl rfl rfl (by decide +kernel) ⟨by decide, by decide⟩) d_M_hide_71 ⟨Nat.zero_le _, Nat.zero_le _⟩,
  mx_s_imul C d_M_hide_74,
  mx_s_iadd C d_M_hide_75,
  mx_s_bipush C d_M_hide_76 (by decide),
  mx_s_iload_n C d_M_hide_78 rfl,
  mx_s_iload C d_M_hide_79,
  mx_s_iload C d_M_hide_81,
  mx_s_cs1 C (m_M_down l) (cwS 1 C.2.2.2.2.1 (mx_gS (fun w h => List.mem_cons_of_mem _ h) mk_M_111 sm_M_down ic_M co_M_down) rfl rfl rfl (by decide +kernel) ⟨by decide, by decide⟩) d_M_hide_83 ⟨Nat.zero_le _, Nat.zero_le _⟩,
  mx_s_imul C d_M_hide_86,
  mx_s_iadd C d_M_hide_87,
  mx_s_imul C d_M_hide_88,
  mx_s_iadd C d_M_hide_89,
  mx_s_aload_n C d_M_hide_90 rfl,
  mx_s_iload_n C d_M_hide_91 rfl,
  mx_s_iload C d_M_hide_92,
  mx_s_cv2 C (m_M_at l) rfl (cwV 2 C.2.2.2.2.1 (mx_gV (fun w h => List.mem_cons_of_mem _ h) mk_M_57 im_M_at se_M_at ic_M co_M_at) rfl rfl rfl (by decide +kernel) ⟨by decide, by decide⟩) d_M_hide_94 ⟨Nat.zero_le _, Nat.zero_le _⟩,
  mx_s_iast C d_M_hide_97,
  mx_s_iinc C d_M_hide_98 (by decide) (by decide),
  mx_s_goto C d_M_hide_101 (by decide),
  mx_s_iconst C d_M_hide_104 (by decide),
  mx_s_zret C hr hlk d_M_hide_105,
  trivial⟩
set_option maxRecDepth 20000 in
set_option maxHeartbeats 2000000 in
theorem m_M_hide (l : Launch) : mx_M l y_M_hide w_M_hide rm_M_hide sp_M_hide := by
  intro zD ztc ztb zad As F P sz0 h
  obtain ⟨th, sz, sp, wy, kp, sd, n, N, ch, lt, ml, g, w, x, y, d, rfl, h2, h3, hg, h0, hw, ho, hz⟩ := h
  refine mx_run (cc := c_M_hide) (maxL := 6) (ret := (some .boolean)) (tab := t_M_hide  P) (by decide) rfl zD ztc ztb zad _ F P sz0 (Nat.le_of_ble_eq_true rfl) (fun p e s m args below meth c C hr hlk => a_M_hide  C hr hlk) ?_
  intro Rr go
  have hF := mx_as4 h2 h3 hg h0
  have hX := mx_as3 h2 h3 hg
  have hX2 := mx_as2 h2 h3
  rw [hF]
  have hn := hw.1.1
  have z : (¬ ∃ j k, j < n ∧ k < 8 ∧ w = nI j ∧ d = nI k ∧ ins x y ∧ rmP g (N j) (ch j) x y k) → Rr 46 (mx_en [mx_r 40, mx_i w, mx_i x, mx_i y, mx_i d] 6) [] (mx_put (mx_put (mx_put (mx_put F 42 (mx_ia 360 lt)) 43 (mx_ia 60 ml)) 51 (mx_ia 64 g)) 40 (e_M (nI 0) sz (nI n) sp wy kp sd)) 0 0 := by
    intro hc
    refine go rfl ?_
    refine go rfl ⟨_, rfl, rfl, rfl, (Or.inl rfl), ?_⟩
    rw [← hX]
    exact hz hc
  refine go rfl ⟨_, rfl, ?_⟩
  refine go rfl ?_
  refine go rfl ⟨_, _, _, _, rfl, rfl, (Nat.le_of_ble_eq_true rfl), ?_⟩
  rw [mx_pp]
  refine go rfl ⟨_, rfl, ?_⟩
  refine go rfl ⟨_, rfl, ?_⟩
  refine go rfl ⟨_, _, _, _, rfl, rfl, rfl, rfl, rfl, ⟨_, _, _, _, _, _, n, w, rfl, rfl, fun c => ?_, fun c => ?_⟩⟩
  · refine go rfl ⟨_, _, rfl, fun e => ?_, fun e => ?_⟩
    · refine z ?_
      rintro ⟨j, k, hj, hk, rfl, rfl, _⟩
      rcases c with c | c
      · exact nI_pos (by omega) c
      · exact absurd ((nI_leI (by omega) (by omega)).mp c) (by omega)
    · exact absurd rfl e
  rcases pk_ix w (n := n) (by omega) with q | q | ⟨j, hj, rfl⟩
  · exact absurd (Or.inl q) c
  · exact absurd (Or.inr q) c
  have hN := hw.2.1.2.1 j hj
  refine go rfl ⟨_, _, rfl, fun e => ?_, fun e => ?_⟩
  · exact absurd e (by decide)
  refine go rfl ⟨_, rfl, ?_⟩
  refine go rfl ⟨_, rfl, ?_⟩
  refine go rfl ⟨_, _, _, rfl, rfl, rfl, rfl, ⟨x, y, rfl, fun c2 => ?_, fun c2 => ?_⟩⟩
  rotate_left
  · refine go rfl ⟨_, _, rfl, fun e2 => ?_, fun e2 => ?_⟩
    · refine z ?_
      rintro ⟨j', k, hj', hk, e1, rfl, hin, _⟩
      exact c2 hin
    · exact absurd rfl e2
  refine go rfl ⟨_, _, rfl, fun e2 => ?_, fun e2 => ?_⟩
  · exact absurd e2 (by decide)
  refine go rfl ⟨_, rfl, ?_⟩
  refine go rfl ⟨_, _, rfl, fun c3 => ?_, fun c3 => ?_⟩
  · refine z ?_
    rintro ⟨j', k, hj', hk, e1, rfl, _⟩
    exact nI_pos (by omega) c3
  refine go rfl ⟨_, rfl, ?_⟩
  refine go rfl ?_
  refine go rfl ⟨_, _, _, rfl, fun c4 => ?_, fun c4 => ?_⟩
  · refine z ?_
    rintro ⟨j', k, hj', hk, e1, rfl, _⟩
    exact absurd ((nI_ltI (by omega) (by omega)).mp c4) (by omega)
  obtain ⟨k, hk, rfl⟩ := nI_of c3
  have hk8 : k < 8 := by
    rcases Nat.lt_or_ge 7 k with q | q
    · exact absurd (nI_lt q (by omega)) c4
    · omega
  refine go rfl ⟨_, rfl, ?_⟩
  refine go rfl ⟨_, rfl, ?_⟩
  refine go rfl ⟨_, rfl, ?_⟩
  refine go rfl ⟨_, rfl, ?_⟩
  refine go rfl ⟨_, rfl, ?_⟩
  refine go rfl ?_
  refine go rfl ⟨_, _, _, _, _, _, _, _, rfl, rfl, rfl, rfl, rfl, ⟨_, _, _, _, _, _, n, N, ch, lt, ml, g, j, k, 1, x, y, rfl, rfl, rfl, rfl, rfl, hw, hj, hk8, by omega, fun hr => ?_, fun hr => ?_⟩⟩
  rotate_left
  · refine go rfl ⟨_, _, rfl, fun e3 => ?_, fun e3 => ?_⟩
    · exact absurd rfl e3
    refine z ?_
    rintro ⟨j', k', hj', hk', e1, e2, hin, hr'⟩
    have e1 := (nI_eq (by omega) (by omega)).mp e1
    have e2 := (nI_eq (by omega) (by omega)).mp e2
    subst e1
    subst e2
    exact hr (smP_1.mpr hr')
  have hr := smP_1.mp hr
  refine go rfl ⟨_, _, rfl, fun e3 => ?_, fun e3 => ?_⟩
  rotate_left
  · exact absurd e3 (by decide)
  have loop : ∀ (m i : Nat), i + m = N j → Rr 51 [some (mx_r 40), some (mx_i (nI j)), some (mx_i x), some (mx_i y), some (mx_i (nI k)), some (mx_i (nI i))] [] (mx_put (mx_put (mx_put (mx_put F 42 (mx_ia 360 lt)) 43 (mx_ia 60 ml)) 40 (e_M (nI 0) sz (nI n) sp wy kp sd)) 51 (mx_ia 64 (hid g (ch j) x y k i))) 0 0 := by
    intro m
    induction m with
    | zero =>
      intro i hi
      refine go rfl ⟨_, rfl, ?_⟩
      refine go rfl ⟨_, rfl, ?_⟩
      refine go rfl ⟨_, _, _, _, rfl, rfl, rfl, ?_⟩
      refine go rfl ⟨_, rfl, ?_⟩
      refine go rfl ⟨_, _, _, _, _, rfl, rfl, (vp_in_nI (show j < 60 by omega) (by omega)), ?_⟩
      rw [vr_loadlen hw hj]
      refine go rfl ⟨_, _, _, rfl, fun c => ?_, fun c => ?_⟩
      · refine go rfl ?_
        refine go rfl ⟨_, rfl, rfl, rfl, (Or.inr rfl), ?_⟩
        rw [← hX2, show i = N j by omega]
        exact ho j k hj hk8 rfl rfl c2 hr
      · exact absurd (nI_le (by omega) (by omega)) c
    | succ m ih =>
      intro i hi
      refine go rfl ⟨_, rfl, ?_⟩
      refine go rfl ⟨_, rfl, ?_⟩
      refine go rfl ⟨_, _, _, _, rfl, rfl, rfl, ?_⟩
      refine go rfl ⟨_, rfl, ?_⟩
      refine go rfl ⟨_, _, _, _, _, rfl, rfl, (vp_in_nI (show j < 60 by omega) (by omega)), ?_⟩
      rw [vr_loadlen hw hj]
      refine go rfl ⟨_, _, _, rfl, fun c => ?_, fun c => ?_⟩
      · exact absurd ((nI_leI (by omega) (by omega)).mp c) (by omega)
      refine go rfl ⟨_, rfl, ?_⟩
      refine go rfl ⟨_, _, _, _, rfl, rfl, rfl, ?_⟩
      refine go rfl ⟨_, rfl, ?_⟩
      refine go rfl ⟨_, rfl, ?_⟩
      refine go rfl ⟨_, rfl, ?_⟩
      refine go rfl ⟨_, _, rfl, rfl, rfl, rfl, ⟨k, rfl, hk8, ?_⟩⟩
      refine go rfl ⟨_, _, _, rfl, ?_⟩
      refine go rfl ⟨_, _, _, rfl, ?_⟩
      refine go rfl ?_
      refine go rfl ⟨_, rfl, ?_⟩
      refine go rfl ⟨_, rfl, ?_⟩
      refine go rfl ⟨_, rfl, ?_⟩
      refine go rfl ⟨_, _, rfl, rfl, rfl, rfl, ⟨k, rfl, hk8, ?_⟩⟩
      refine go rfl ⟨_, _, _, rfl, ?_⟩
      refine go rfl ⟨_, _, _, rfl, ?_⟩
      refine go rfl ⟨_, _, _, rfl, ?_⟩
      refine go rfl ⟨_, _, _, rfl, ?_⟩
      refine go rfl ⟨_, rfl, ?_⟩
      refine go rfl ⟨_, rfl, ?_⟩
      refine go rfl ⟨_, rfl, ?_⟩
      refine go rfl ⟨_, _, _, _, _, rfl, rfl, rfl, rfl, rfl, u_at hw hj (show i < N j by omega) rfl rfl ?_⟩
      refine go rfl ⟨_, _, _, _, _, _, rfl, rfl, (ins_vp (x := cx x k i) (y := cy y k i) (hr i (by omega)).1), ?_⟩
      rw [mx_pp]
      refine go rfl ⟨_, rfl, ?_⟩
      refine go rfl ?_
      rw [nI_add]
      exact ih (i + 1) (by omega)
  refine go rfl ?_
  refine go rfl ⟨_, _, rfl, ?_⟩
  rw [mx_pc _ _ _ (show (40 : Nat) ≠ 51 by decide)]
  exact loop (N j) 0 (by omega)
-- LadderWordsModel.letterOfAll(I)I
def sp_M_letterOfAll : mx_Sp := fun As F P => ∃ (th sz sp : Int32) (wy : Int64) (kp sd : Int32) (n : Nat) (N : Nat → Nat) (ch : Nat → Nat → Int32) (lt ml g : Nat → Int32) (S : Nat → Nat) (w r : Nat), As = [mx_r 40, mx_i (nI (S w + r))] ∧ F 42 = some (mx_ia 360 lt) ∧ F 43 = some (mx_ia 60 ml) ∧ F 51 = some (mx_ia 64 g) ∧ F 40 = some (e_M th sz (nI n) sp wy kp sd) ∧ mst n N ch lt ml ∧ S 0 = 0 ∧ (∀ w, w < n → S (w + 1) = S w + N w) ∧ S n ≤ 360 ∧ w < n ∧ r < N w ∧ P (some (mx_i (ch w r))) F
theorem d_M_letterOfAll_0 : decode c_M_letterOfAll 0 = .ok (.iload_n 1, 1) := by decide +kernel
theorem d_M_letterOfAll_1 : decode c_M_letterOfAll 1 = .ok (.istore_n 2, 1) := by decide +kernel
theorem d_M_letterOfAll_2 : decode c_M_letterOfAll 2 = .ok (.iconst 0, 1) := by decide +kernel
theorem d_M_letterOfAll_3 : decode c_M_letterOfAll 3 = .ok (.istore_n 3, 1) := by decide +kernel
theorem d_M_letterOfAll_4 : decode c_M_letterOfAll 4 = .ok (.iload_n 2, 1) := by decide +kernel
theorem d_M_letterOfAll_5 : decode c_M_letterOfAll 5 = .ok (.aload_n 0, 1) := by decide +kernel
theorem d_M_letterOfAll_6 : decode c_M_letterOfAll 6 = .ok (.getfield 16, 3) := by decide +kernel
theorem d_M_letterOfAll_9 : decode c_M_letterOfAll 9 = .ok (.iload_n 3, 1) := by decide +kernel
theorem d_M_letterOfAll_10 : decode c_M_letterOfAll 10 = .ok (.iaload, 1) := by decide +kernel
theorem d_M_letterOfAll_11 : decode c_M_letterOfAll 11 = .ok (.if_icmp .lt 18, 3) := by decide +kernel
theorem d_M_letterOfAll_14 : decode c_M_letterOfAll 14 = .ok (.iload_n 2, 1) := by decide +kernel
theorem d_M_letterOfAll_15 : decode c_M_letterOfAll 15 = .ok (.aload_n 0, 1) := by decide +kernel
theorem d_M_letterOfAll_16 : decode c_M_letterOfAll 16 = .ok (.getfield 16, 3) := by decide +kernel
theorem d_M_letterOfAll_19 : decode c_M_letterOfAll 19 = .ok (.iload_n 3, 1) := by decide +kernel
theorem d_M_letterOfAll_20 : decode c_M_letterOfAll 20 = .ok (.iaload, 1) := by decide +kernel
theorem d_M_letterOfAll_21 : decode c_M_letterOfAll 21 = .ok (.isub, 1) := by decide +kernel
theorem d_M_letterOfAll_22 : decode c_M_letterOfAll 22 = .ok (.istore_n 2, 1) := by decide +kernel
theorem d_M_letterOfAll_23 : decode c_M_letterOfAll 23 = .ok (.iinc 3 1, 3) := by decide +kernel
theorem d_M_letterOfAll_26 : decode c_M_letterOfAll 26 = .ok (.goto (-22), 3) := by decide +kernel
theorem d_M_letterOfAll_29 : decode c_M_letterOfAll 29 = .ok (.aload_n 0, 1) := by decide +kernel
theorem d_M_letterOfAll_30 : decode c_M_letterOfAll 30 = .ok (.iload_n 3, 1) := by decide +kernel
theorem d_M_letterOfAll_31 : decode c_M_letterOfAll 31 = .ok (.iload_n 2, 1) := by decide +kernel
theorem d_M_letterOfAll_32 : decode c_M_letterOfAll 32 = .ok (.invokevirtual 57, 3) := by decide +kernel
theorem d_M_letterOfAll_35 : decode c_M_letterOfAll 35 = .ok (.ireturn, 1) := by decide +kernel
abbrev w_M_letterOfAll : List Cond := mx_ws y_M_letterOfAll c_M_letterOfAll 4 (some .int)
abbrev rm_M_letterOfAll : Room := { frames := 20, cells := 0, slots := 0, locals := 400 }
def t_M_letterOfAll  (P : Option mx_V → mx_F → Prop) : List (Nat × mx_O) := [
  (0, mx_iload 1 1),
  (1, mx_istore 2 2),
  (2, mx_push (.inl (nI 0)) 3),
  (3, mx_istore 3 4),
  (4, mx_iload 2 5),
  (5, mx_aload 0 6),
  (6, mx_get 7 5 9),
  (9, mx_iload 3 10),
  (10, mx_iald 11),
  (11, mx_ic_lt 29 14),
  (14, mx_iload 2 15),
  (15, mx_aload 0 16),
  (16, mx_get 7 5 19),
  (19, mx_iload 3 20),
  (20, mx_iald 21),
  (21, mx_isub 22),
  (22, mx_istore 2 23),
  (23, mx_iinc 3 (nI 1) 26),
  (26, mx_goto 4),
  (29, mx_aload 0 30),
  (30, mx_iload 3 31),
  (31, mx_iload 2 32),
  (32, mx_cv2 7 sp_M_at 0 0 35),
  (35, mx_iret P)]
set_option maxRecDepth 20000 in
theorem a_M_letterOfAll  {p : Program} {l : Launch} {e : Env} {s : State} {m : MethodId} {args : Array Value} {below : List Frame} {meth : Method} {c : Code} {D : va_G} {tc : Nat → ClassId} {tb : Nat → Nat} {sz : Nat} {a0 : Nat → Nat} {G : mx_F} {P : Option mx_V → mx_F → Prop}  (C : mx_C p s m args c c_M_letterOfAll y_M_letterOfAll.cls w_M_letterOfAll D tc tb (mx_A a0 G sz) 4 (mx_Ok0 a0 G)) (hr : meth.sig.returnType = (some .int)) (hlk : meth.locks = false) : mx_all (mx_W p l e rm_M_letterOfAll s m args below meth c (MQ below (mx_Q D tc tb a0 G sz P) args s 0 0 (mx_A a0 G sz)) D tc tb (mx_A a0 G sz) 4 (mx_Ok0 a0 G)) (t_M_letterOfAll  P) :=
  ⟨mx_s_iload_n C d_M_letterOfAll_0 rfl,
  mx_s_istore_n C d_M_letterOfAll_1 rfl (by decide),
  mx_s_iconst C d_M_letterOfAll_2 (by decide),
  mx_s_istore_n C d_M_letterOfAll_3 rfl (by decide),
  mx_s_iload_n C d_M_letterOfAll_4 rfl,
  mx_s_aload_n C d_M_letterOfAll_5 rfl,
  mx_s_get (T := T_M) (N := 18) (k := 5) C (fun w h => List.mem_cons_of_mem _ (in_M w h)) rfl (by decide) (List.mem_cons_of_mem _ fk_M_16) rfl d_M_letterOfAll_6,
  mx_s_iload_n C d_M_letterOfAll_9 rfl,
  mx_s_iald C d_M_letterOfAll_10,
  mx_s_ic_lt C d_M_letterOfAll_11 (by decide),
  mx_s_iload_n C d_M_letterOfAll_14 rfl,
  mx_s_aload_n C d_M_letterOfAll_15 rfl,
  mx_s_get (T := T_M) (N := 18) (k := 5) C (fun w h => List.mem_cons_of_mem _ (in_M w h)) rfl (by decide) (List.mem_cons_of_mem _ fk_M_16) rfl d_M_letterOfAll_16,
  mx_s_iload_n C d_M_letterOfAll_19 rfl,
  mx_s_iald C d_M_letterOfAll_20,
  mx_s_isub C d_M_letterOfAll_21,
  mx_s_istore_n C d_M_letterOfAll_22 rfl (by decide),
  mx_s_iinc C d_M_letterOfAll_23 (by decide) (by decide),
  mx_s_goto C d_M_letterOfAll_26 (by decide),
  mx_s_aload_n C d_M_letterOfAll_29 rfl,
  mx_s_iload_n C d_M_letterOfAll_30 rfl,
  mx_s_iload_n C d_M_letterOfAll_31 rfl,
  mx_s_cv2 C (m_M_at l) rfl (cwV 2 C.2.2.2.2.1 (mx_gV (fun w h => List.mem_cons_of_mem _ h) mk_M_57 im_M_at se_M_at ic_M co_M_at) rfl rfl rfl (by decide +kernel) ⟨by decide, by decide⟩) d_M_letterOfAll_32 ⟨Nat.zero_le _, Nat.zero_le _⟩,
  mx_s_iret C hr hlk d_M_letterOfAll_35,
  trivial⟩
set_option maxRecDepth 20000 in
set_option maxHeartbeats 2000000 in
theorem m_M_letterOfAll (l : Launch) : mx_M l y_M_letterOfAll w_M_letterOfAll rm_M_letterOfAll sp_M_letterOfAll := by
  intro zD ztc ztb zad As F P sz0 h
  obtain ⟨th, sz, sp, wy, kp, sd, n, N, ch, lt, ml, g, S, w, r, rfl, h2, h3, hg, h0, hw, hS0, hS, hSn, hwn, hr, hp⟩ := h
  refine mx_run (cc := c_M_letterOfAll) (maxL := 4) (ret := (some .int)) (tab := t_M_letterOfAll  P) (by decide) rfl zD ztc ztb zad _ F P sz0 (Nat.le_of_ble_eq_true rfl) (fun p e s m args below meth c C hr hlk => a_M_letterOfAll  C hr hlk) ?_
  intro Rr go
  have hF := mx_as4 h2 h3 hg h0
  rw [hF]
  have hn := hw.1.1
  have hSle : ∀ k, w ≤ k → k ≤ n → S w ≤ S k := by
    intro k
    induction k with
    | zero => intro h1 _; rw [show w = 0 by omega]; exact Nat.le_refl _
    | succ k ih =>
      intro h1 h2
      rcases Nat.lt_or_ge w (k + 1) with q | q
      · have := ih (by omega) (by omega)
        rw [hS k (by omega)]
        omega
      · rw [show w = k + 1 by omega]; exact Nat.le_refl _
  have hSw := hSle (w + 1) (by omega) (by omega)
  have hSw2 := hS w hwn
  have hSm : S (w + 1) ≤ 360 := by
    have : ∀ k, w + 1 ≤ k → k ≤ n → S (w + 1) ≤ S k := by
      intro k
      induction k with
      | zero => intro h1 _; omega
      | succ k ih =>
        intro h1 h2
        rcases Nat.lt_or_ge (w + 1) (k + 1) with q | q
        · have := ih (by omega) (by omega)
          rw [hS k (by omega)]
          omega
        · rw [show w + 1 = k + 1 by omega]; exact Nat.le_refl _
    exact Nat.le_trans (this n (by omega) (Nat.le_refl n)) hSn
  have hN6 := hw.2.1.2.1 w hwn
  have loop : ∀ (m i : Nat), i + m = w → S i ≤ S w → Rr 4 [some (mx_r 40), some (mx_i (nI (S w + r))), some (mx_i (nI (S w + r - S i))), some (mx_i (nI i))] [] (mx_put (mx_put (mx_put (mx_put F 42 (mx_ia 360 lt)) 43 (mx_ia 60 ml)) 51 (mx_ia 64 g)) 40 (e_M th sz (nI n) sp wy kp sd)) 0 0 := by
    intro m
    induction m with
    | zero =>
      intro i hi hle
      have ei : i = w := by omega
      subst ei
      rw [show S i + r - S i = r by omega]
      refine go rfl ⟨_, rfl, ?_⟩
      refine go rfl ⟨_, rfl, ?_⟩
      refine go rfl ⟨_, _, _, _, rfl, rfl, rfl, ?_⟩
      refine go rfl ⟨_, rfl, ?_⟩
      refine go rfl ⟨_, _, _, _, _, rfl, rfl, (vp_in_nI (show i < 60 by omega) (by omega)), ?_⟩
      rw [vr_loadlen hw hwn]
      refine go rfl ⟨_, _, _, rfl, fun c => ?_, fun c => ?_⟩
      · refine go rfl ⟨_, rfl, ?_⟩
        refine go rfl ⟨_, rfl, ?_⟩
        refine go rfl ⟨_, rfl, ?_⟩
        refine go rfl ⟨_, _, _, _, _, rfl, rfl, rfl, rfl, rfl, u_at hw hwn hr rfl rfl ?_⟩
        refine go rfl ⟨_, rfl, rfl, rfl, ?_⟩
        rw [← hF]
        exact hp
      · exact absurd (nI_lt hr (by omega)) c
    | succ m ih =>
      intro i hi hle
      have e1 := hS i (by omega)
      have e2 : S (i + 1) ≤ S w := by
        have : ∀ k, i + 1 ≤ k → k ≤ n → S (i + 1) ≤ S k := by
          intro k
          induction k with
          | zero => intro h1 _; omega
          | succ k ih =>
            intro h1 h2
            rcases Nat.lt_or_ge (i + 1) (k + 1) with q | q
            · have := ih (by omega) (by omega)
              rw [hS k (by omega)]
              omega
            · rw [show i + 1 = k + 1 by omega]; exact Nat.le_refl _
        exact this w (by omega) (by omega)
      have hN := hw.2.1.2.1 i (by omega)
      refine go rfl ⟨_, rfl, ?_⟩
      refine go rfl ⟨_, rfl, ?_⟩
      refine go rfl ⟨_, _, _, _, rfl, rfl, rfl, ?_⟩
      refine go rfl ⟨_, rfl, ?_⟩
      refine go rfl ⟨_, _, _, _, _, rfl, rfl, (vp_in_nI (show i < 60 by omega) (by omega)), ?_⟩
      rw [vr_loadlen hw (show i < n by omega)]
      refine go rfl ⟨_, _, _, rfl, fun c => ?_, fun c => ?_⟩
      · exact absurd ((nI_ltI (by omega) (by omega)).mp c) (by omega)
      · refine go rfl ⟨_, rfl, ?_⟩
        refine go rfl ⟨_, rfl, ?_⟩
        refine go rfl ⟨_, _, _, _, rfl, rfl, rfl, ?_⟩
        refine go rfl ⟨_, rfl, ?_⟩
        refine go rfl ⟨_, _, _, _, _, rfl, rfl, (vp_in_nI (show i < 60 by omega) (by omega)), ?_⟩
        rw [vr_loadlen hw (show i < n by omega)]
        refine go rfl ⟨_, _, _, rfl, ?_⟩
        rw [pk_sub (by omega), show S w + r - S i - N i = S w + r - S (i + 1) by omega]
        refine go rfl ⟨_, _, rfl, ?_⟩
        refine go rfl ⟨_, rfl, ?_⟩
        refine go rfl ?_
        rw [nI_add]
        exact ih (i + 1) (by omega) e2
  refine go rfl ⟨_, rfl, ?_⟩
  refine go rfl ⟨_, _, rfl, ?_⟩
  refine go rfl ?_
  refine go rfl ⟨_, _, rfl, ?_⟩
  have h := loop w 0 (by omega) (by omega)
  rw [hS0, Nat.sub_zero] at h
  exact h
-- LadderWordsModel.fill(J)I
def sp_M_fill : mx_Sp := fun As F P => ∃ (th sz sp : Int32) (wy : Int64) (kp sd : Int32) (n : Nat) (N : Nat → Nat) (ch : Nat → Nat → Int32) (lt ml g : Nat → Int32) (S : Nat → Nat) (al : Nat → Int32) (x : Int64), As = [mx_r 40, mx_l x] ∧ F 42 = some (mx_ia 360 lt) ∧ F 43 = some (mx_ia 60 ml) ∧ F 51 = some (mx_ia 64 g) ∧ F 40 = some (e_M th sz (nI n) sp wy kp sd) ∧ mst n N ch lt ml ∧ S 0 = 0 ∧ (∀ w, w < n → S (w + 1) = S w + N w) ∧ (∀ w r, w < n → r < N w → al (S w + r) = ch w r) ∧ (n = 0 → P (some (mx_i (-1))) (mx_put F 40 (e_M (nI 0) sz (nI n) sp wy kp sd))) ∧ (0 < n → P (some (mx_i (nI (fil g al (S n) x 64).2.2))) (mx_put (mx_put F 40 (e_M (nI 0) sz (nI n) sp wy kp sd)) 51 (mx_ia 64 (fil g al (S n) x 64).1)))
theorem d_M_fill_0 : decode c_M_fill 0 = .ok (.aload_n 0, 1) := by decide +kernel
theorem d_M_fill_1 : decode c_M_fill 1 = .ok (.iconst 0, 1) := by decide +kernel
theorem d_M_fill_2 : decode c_M_fill 2 = .ok (.putfield 48, 3) := by decide +kernel
theorem d_M_fill_5 : decode c_M_fill 5 = .ok (.aload_n 0, 1) := by decide +kernel
theorem d_M_fill_6 : decode c_M_fill 6 = .ok (.getfield 51, 3) := by decide +kernel
theorem d_M_fill_9 : decode c_M_fill 9 = .ok (.ifCond .ne 5, 3) := by decide +kernel
theorem d_M_fill_12 : decode c_M_fill 12 = .ok (.iconst (-1), 1) := by decide +kernel
theorem d_M_fill_13 : decode c_M_fill 13 = .ok (.ireturn, 1) := by decide +kernel
theorem d_M_fill_14 : decode c_M_fill 14 = .ok (.iconst 0, 1) := by decide +kernel
theorem d_M_fill_15 : decode c_M_fill 15 = .ok (.istore_n 3, 1) := by decide +kernel
theorem d_M_fill_16 : decode c_M_fill 16 = .ok (.iconst 0, 1) := by decide +kernel
theorem d_M_fill_17 : decode c_M_fill 17 = .ok (.istore 4, 2) := by decide +kernel
theorem d_M_fill_19 : decode c_M_fill 19 = .ok (.iload 4, 2) := by decide +kernel
theorem d_M_fill_21 : decode c_M_fill 21 = .ok (.aload_n 0, 1) := by decide +kernel
theorem d_M_fill_22 : decode c_M_fill 22 = .ok (.getfield 51, 3) := by decide +kernel
theorem d_M_fill_25 : decode c_M_fill 25 = .ok (.if_icmp .ge 19, 3) := by decide +kernel
theorem d_M_fill_28 : decode c_M_fill 28 = .ok (.iload_n 3, 1) := by decide +kernel
theorem d_M_fill_29 : decode c_M_fill 29 = .ok (.aload_n 0, 1) := by decide +kernel
theorem d_M_fill_30 : decode c_M_fill 30 = .ok (.getfield 16, 3) := by decide +kernel
theorem d_M_fill_33 : decode c_M_fill 33 = .ok (.iload 4, 2) := by decide +kernel
theorem d_M_fill_35 : decode c_M_fill 35 = .ok (.iaload, 1) := by decide +kernel
theorem d_M_fill_36 : decode c_M_fill 36 = .ok (.iadd, 1) := by decide +kernel
theorem d_M_fill_37 : decode c_M_fill 37 = .ok (.istore_n 3, 1) := by decide +kernel
theorem d_M_fill_38 : decode c_M_fill 38 = .ok (.iinc 4 1, 3) := by decide +kernel
theorem d_M_fill_41 : decode c_M_fill 41 = .ok (.goto (-22), 3) := by decide +kernel
theorem d_M_fill_44 : decode c_M_fill 44 = .ok (.lload_n 1, 1) := by decide +kernel
theorem d_M_fill_45 : decode c_M_fill 45 = .ok (.lstore 4, 2) := by decide +kernel
theorem d_M_fill_47 : decode c_M_fill 47 = .ok (.iconst 0, 1) := by decide +kernel
theorem d_M_fill_48 : decode c_M_fill 48 = .ok (.istore 6, 2) := by decide +kernel
theorem d_M_fill_50 : decode c_M_fill 50 = .ok (.iconst 0, 1) := by decide +kernel
theorem d_M_fill_51 : decode c_M_fill 51 = .ok (.istore 7, 2) := by decide +kernel
theorem d_M_fill_53 : decode c_M_fill 53 = .ok (.iload 7, 2) := by decide +kernel
theorem d_M_fill_55 : decode c_M_fill 55 = .ok (.bipush 64, 2) := by decide +kernel
theorem d_M_fill_57 : decode c_M_fill 57 = .ok (.if_icmp .ge 57, 3) := by decide +kernel
theorem d_M_fill_60 : decode c_M_fill 60 = .ok (.aload_n 0, 1) := by decide +kernel
theorem d_M_fill_61 : decode c_M_fill 61 = .ok (.getfield 45, 3) := by decide +kernel
theorem d_M_fill_64 : decode c_M_fill 64 = .ok (.iload 7, 2) := by decide +kernel
theorem d_M_fill_66 : decode c_M_fill 66 = .ok (.iaload, 1) := by decide +kernel
theorem d_M_fill_67 : decode c_M_fill 67 = .ok (.ifCond .eq 6, 3) := by decide +kernel
theorem d_M_fill_70 : decode c_M_fill 70 = .ok (.goto 38, 3) := by decide +kernel
theorem d_M_fill_73 : decode c_M_fill 73 = .ok (.lload 4, 2) := by decide +kernel
theorem d_M_fill_75 : decode c_M_fill 75 = .ok (.ldc2_w 121, 3) := by decide +kernel
theorem d_M_fill_78 : decode c_M_fill 78 = .ok (.lmul, 1) := by decide +kernel
theorem d_M_fill_79 : decode c_M_fill 79 = .ok (.ldc2_w 123, 3) := by decide +kernel
theorem d_M_fill_82 : decode c_M_fill 82 = .ok (.ladd, 1) := by decide +kernel
theorem d_M_fill_83 : decode c_M_fill 83 = .ok (.lstore 4, 2) := by decide +kernel
theorem d_M_fill_85 : decode c_M_fill 85 = .ok (.aload_n 0, 1) := by decide +kernel
theorem d_M_fill_86 : decode c_M_fill 86 = .ok (.getfield 45, 3) := by decide +kernel
theorem d_M_fill_89 : decode c_M_fill 89 = .ok (.iload 7, 2) := by decide +kernel
theorem d_M_fill_91 : decode c_M_fill 91 = .ok (.aload_n 0, 1) := by decide +kernel
theorem d_M_fill_92 : decode c_M_fill 92 = .ok (.lload 4, 2) := by decide +kernel
theorem d_M_fill_94 : decode c_M_fill 94 = .ok (.bipush 33, 2) := by decide +kernel
theorem d_M_fill_96 : decode c_M_fill 96 = .ok (.lushr, 1) := by decide +kernel
theorem d_M_fill_97 : decode c_M_fill 97 = .ok (.iload_n 3, 1) := by decide +kernel
theorem d_M_fill_98 : decode c_M_fill 98 = .ok (.i2l, 1) := by decide +kernel
theorem d_M_fill_99 : decode c_M_fill 99 = .ok (.lrem, 1) := by decide +kernel
theorem d_M_fill_100 : decode c_M_fill 100 = .ok (.l2i, 1) := by decide +kernel
theorem d_M_fill_101 : decode c_M_fill 101 = .ok (.invokevirtual 125, 3) := by decide +kernel
theorem d_M_fill_104 : decode c_M_fill 104 = .ok (.iastore, 1) := by decide +kernel
theorem d_M_fill_105 : decode c_M_fill 105 = .ok (.iinc 6 1, 3) := by decide +kernel
theorem d_M_fill_108 : decode c_M_fill 108 = .ok (.iinc 7 1, 3) := by decide +kernel
theorem d_M_fill_111 : decode c_M_fill 111 = .ok (.goto (-58), 3) := by decide +kernel
theorem d_M_fill_114 : decode c_M_fill 114 = .ok (.iload 6, 2) := by decide +kernel
theorem d_M_fill_116 : decode c_M_fill 116 = .ok (.ireturn, 1) := by decide +kernel
abbrev w_M_fill : List Cond := mx_ws y_M_fill c_M_fill 8 (some .int)
abbrev rm_M_fill : Room := { frames := 30, cells := 0, slots := 0, locals := 600 }
def t_M_fill  (P : Option mx_V → mx_F → Prop) : List (Nat × mx_O) := [
  (0, mx_aload 0 1),
  (1, mx_push (.inl (nI 0)) 2),
  (2, mx_puti 7 0 5),
  (5, mx_aload 0 6),
  (6, mx_get 7 3 9),
  (9, mx_if_ne 14 12),
  (12, mx_push (.inl (-1)) 13),
  (13, mx_iret P),
  (14, mx_push (.inl (nI 0)) 15),
  (15, mx_istore 3 16),
  (16, mx_push (.inl (nI 0)) 17),
  (17, mx_istore 4 19),
  (19, mx_iload 4 21),
  (21, mx_aload 0 22),
  (22, mx_get 7 3 25),
  (25, mx_ic_ge 44 28),
  (28, mx_iload 3 29),
  (29, mx_aload 0 30),
  (30, mx_get 7 5 33),
  (33, mx_iload 4 35),
  (35, mx_iald 36),
  (36, mx_iadd 37),
  (37, mx_istore 3 38),
  (38, mx_iinc 4 (nI 1) 41),
  (41, mx_goto 19),
  (44, mx_lload 1 45),
  (45, mx_lstore 4 47),
  (47, mx_push (.inl (nI 0)) 48),
  (48, mx_istore 6 50),
  (50, mx_push (.inl (nI 0)) 51),
  (51, mx_istore 7 53),
  (53, mx_iload 7 55),
  (55, mx_push (.inl (nI 64)) 57),
  (57, mx_ic_ge 114 60),
  (60, mx_aload 0 61),
  (61, mx_get 7 17 64),
  (64, mx_iload 7 66),
  (66, mx_iald 67),
  (67, mx_if_eq 73 70),
  (70, mx_goto 108),
  (73, mx_lload 4 75),
  (75, mx_push (.inr (.inl (6364136223846793005))) 78),
  (78, mx_lmul 79),
  (79, mx_push (.inr (.inl (1442695040888963407))) 82),
  (82, mx_ladd 83),
  (83, mx_lstore 4 85),
  (85, mx_aload 0 86),
  (86, mx_get 7 17 89),
  (89, mx_iload 7 91),
  (91, mx_aload 0 92),
  (92, mx_lload 4 94),
  (94, mx_push (.inl (nI 33)) 96),
  (96, mx_lushr 97),
  (97, mx_iload 3 98),
  (98, mx_i2l 99),
  (99, mx_lrem 100),
  (100, mx_l2i 101),
  (101, mx_cv1 7 sp_M_letterOfAll 0 0 104),
  (104, mx_iast 105),
  (105, mx_iinc 6 (nI 1) 108),
  (108, mx_iinc 7 (nI 1) 111),
  (111, mx_goto 53),
  (114, mx_iload 6 116),
  (116, mx_iret P)]
set_option maxRecDepth 20000 in
theorem a_M_fill  {p : Program} {l : Launch} {e : Env} {s : State} {m : MethodId} {args : Array Value} {below : List Frame} {meth : Method} {c : Code} {D : va_G} {tc : Nat → ClassId} {tb : Nat → Nat} {sz : Nat} {a0 : Nat → Nat} {G : mx_F} {P : Option mx_V → mx_F → Prop}  (C : mx_C p s m args c c_M_fill y_M_fill.cls w_M_fill D tc tb (mx_A a0 G sz) 8 (mx_Ok0 a0 G)) (hr : meth.sig.returnType = (some .int)) (hlk : meth.locks = false) : mx_all (mx_W p l e rm_M_fill s m args below meth c (MQ below (mx_Q D tc tb a0 G sz P) args s 0 0 (mx_A a0 G sz)) D tc tb (mx_A a0 G sz) 8 (mx_Ok0 a0 G)) (t_M_fill  P) :=
  ⟨mx_s_aload_n C d_M_fill_0 rfl,
  mx_s_iconst C d_M_fill_1 (by decide),
  mx_s_puti (T := T_M) (N := 18) (k := 0) C (fun w h => List.mem_cons_of_mem _ (in_M w h)) rfl ty_M ok_M nm_M (by decide) (List.mem_cons_of_mem _ fk_M_48) rfl rfl (ok_M 0 (by decide)) d_M_fill_2,
  mx_s_aload_n C d_M_fill_5 rfl,
  mx_s_get (T := T_M) (N := 18) (k := 3) C (fun w h => List.mem_cons_of_mem _ (in_M w h)) rfl (by decide) (List.mem_cons_of_mem _ fk_M_51) rfl d_M_fill_6,
  mx_s_if_ne C d_M_fill_9 (by decide),
  mx_s_iconst C d_M_fill_12 (by decide),
  mx_s_iret C hr hlk d_M_fill_13,
  mx_s_iconst C d_M_fill_14 (by decide),
  mx_s_istore_n C d_M_fill_15 rfl (by decide),
  mx_s_iconst C d_M_fill_16 (by decide),
  mx_s_istore C d_M_fill_17 (by decide),
  mx_s_iload C d_M_fill_19,
  mx_s_aload_n C d_M_fill_21 rfl,
  mx_s_get (T := T_M) (N := 18) (k := 3) C (fun w h => List.mem_cons_of_mem _ (in_M w h)) rfl (by decide) (List.mem_cons_of_mem _ fk_M_51) rfl d_M_fill_22,
  mx_s_ic_ge C d_M_fill_25 (by decide),
  mx_s_iload_n C d_M_fill_28 rfl,
  mx_s_aload_n C d_M_fill_29 rfl,
  mx_s_get (T := T_M) (N := 18) (k := 5) C (fun w h => List.mem_cons_of_mem _ (in_M w h)) rfl (by decide) (List.mem_cons_of_mem _ fk_M_16) rfl d_M_fill_30,
  mx_s_iload C d_M_fill_33,
  mx_s_iald C d_M_fill_35,
  mx_s_iadd C d_M_fill_36,
  mx_s_istore_n C d_M_fill_37 rfl (by decide),
  mx_s_iinc C d_M_fill_38 (by decide) (by decide),
  mx_s_goto C d_M_fill_41 (by decide),
  mx_s_lload_n C d_M_fill_44 rfl,
  mx_s_lstore C d_M_fill_45 (by decide),
  mx_s_iconst C d_M_fill_47 (by decide),
  mx_s_istore C d_M_fill_48 (by decide),
  mx_s_iconst C d_M_fill_50 (by decide),
  mx_s_istore C d_M_fill_51 (by decide),
  mx_s_iload C d_M_fill_53,
  mx_s_bipush C d_M_fill_55 (by decide),
  mx_s_ic_ge C d_M_fill_57 (by decide),
  mx_s_aload_n C d_M_fill_60 rfl,
  mx_s_get (T := T_M) (N := 18) (k := 17) C (fun w h => List.mem_cons_of_mem _ (in_M w h)) rfl (by decide) (List.mem_cons_of_mem _ fk_M_45) rfl d_M_fill_61,
  mx_s_iload C d_M_fill_64,
  mx_s_iald C d_M_fill_66,
  mx_s_if_eq C d_M_fill_67 (by decide),
  mx_s_goto C d_M_fill_70 (by decide),
  mx_s_lload C d_M_fill_73,
  mx_s_ldc2 C d_M_fill_75 (List.mem_cons_of_mem _ cl_M_121),
  mx_s_lmul C d_M_fill_78,
  mx_s_ldc2 C d_M_fill_79 (List.mem_cons_of_mem _ cl_M_123),
  mx_s_ladd C d_M_fill_82,
  mx_s_lstore C d_M_fill_83 (by decide),
  mx_s_aload_n C d_M_fill_85 rfl,
  mx_s_get (T := T_M) (N := 18) (k := 17) C (fun w h => List.mem_cons_of_mem _ (in_M w h)) rfl (by decide) (List.mem_cons_of_mem _ fk_M_45) rfl d_M_fill_86,
  mx_s_iload C d_M_fill_89,
  mx_s_aload_n C d_M_fill_91 rfl,
  mx_s_lload C d_M_fill_92,
  mx_s_bipush C d_M_fill_94 (by decide),
  mx_s_lushr C d_M_fill_96,
  mx_s_iload_n C d_M_fill_97 rfl,
  mx_s_i2l C d_M_fill_98,
  mx_s_lrem C d_M_fill_99,
  mx_s_l2i C d_M_fill_100,
  mx_s_cv1 C (m_M_letterOfAll l) rfl (cwV 1 C.2.2.2.2.1 (mx_gV (fun w h => List.mem_cons_of_mem _ h) mk_M_125 im_M_letterOfAll se_M_letterOfAll ic_M co_M_letterOfAll) rfl rfl rfl (by decide +kernel) ⟨by decide, by decide⟩) d_M_fill_101 ⟨Nat.zero_le _, Nat.zero_le _⟩,
  mx_s_iast C d_M_fill_104,
  mx_s_iinc C d_M_fill_105 (by decide) (by decide),
  mx_s_iinc C d_M_fill_108 (by decide) (by decide),
  mx_s_goto C d_M_fill_111 (by decide),
  mx_s_iload C d_M_fill_114,
  mx_s_iret C hr hlk d_M_fill_116,
  trivial⟩
set_option maxRecDepth 20000 in
set_option maxHeartbeats 2000000 in
theorem m_M_fill (l : Launch) : mx_M l y_M_fill w_M_fill rm_M_fill sp_M_fill := by
  intro zD ztc ztb zad As F P sz0 h
  obtain ⟨th, sz, sp, wy, kp, sd, n, N, ch, lt, ml, g, S, al, x, rfl, h2, h3, hg, h0, hw, hS0, hS, hal, hz, ho⟩ := h
  refine mx_run (cc := c_M_fill) (maxL := 8) (ret := (some .int)) (tab := t_M_fill  P) (by decide) rfl zD ztc ztb zad _ F P sz0 (Nat.le_of_ble_eq_true rfl) (fun p e s m args below meth c C hr hlk => a_M_fill  C hr hlk) ?_
  intro Rr go
  have hF := mx_as4 h2 h3 hg h0
  have hX := mx_as3 h2 h3 hg
  have hX2 := mx_as2 h2 h3
  rw [hF]
  have hn := hw.1.1
  have hSle : ∀ k, k ≤ n → S k ≤ 6 * k := by
    intro k
    induction k with
    | zero => intro _; rw [hS0]; exact Nat.zero_le _
    | succ k ih =>
      intro hk
      have := ih (by omega)
      have h6 := hw.2.1.2.1 k (by omega)
      rw [hS k (by omega)]
      omega
  have hSn := hSle n (Nat.le_refl n)
  -- a place of all letters is a word's
  have hpl : ∀ (m q : Nat), m ≤ n → q < S m → ∃ w r, w < m ∧ r < N w ∧ q = S w + r := by
    intro m
    induction m with
    | zero => intro q _ hq; rw [hS0] at hq; exact absurd hq (Nat.not_lt_zero q)
    | succ m ih =>
      intro q hm hq
      rcases Nat.lt_or_ge q (S m) with h | h
      · obtain ⟨w, r, h1, h2, h3⟩ := ih q (by omega) h
        exact ⟨w, r, by omega, h2, h3⟩
      · rw [hS m (by omega)] at hq
        exact ⟨m, q - S m, by omega, by omega, by omega⟩
  refine go rfl ⟨_, rfl, ?_⟩
  refine go rfl ?_
  refine go rfl ⟨_, _, _, _, rfl, rfl, (Nat.le_of_ble_eq_true rfl), ?_⟩
  rw [mx_pp]
  refine go rfl ⟨_, rfl, ?_⟩
  refine go rfl ⟨_, _, _, _, rfl, rfl, rfl, ?_⟩
  rcases Nat.eq_zero_or_pos n with hn0 | hn0
  · refine go rfl ⟨_, _, rfl, fun c => ?_, fun c => ?_⟩
    · rw [hn0] at c
      exact absurd rfl c
    refine go rfl ?_
    refine go rfl ⟨_, rfl, rfl, rfl, ?_⟩
    rw [← hX]
    exact hz hn0
  refine go rfl ⟨_, _, rfl, fun c => ?_, fun c => ?_⟩
  rotate_left
  · exact absurd c (nI_ne0 hn0 (by omega))
  have hS1 : 0 < S n := by
    have e := hS (n - 1) (by omega)
    have e2 := (hw.2.1.2.1 (n - 1) (by omega)).1
    rw [show n - 1 + 1 = n by omega] at e
    omega
  have loop : ∀ (m i : Nat), i + m = 64 → Rr 53 [some (mx_r 40), some (mx_l x), none, some (mx_i (nI (S n))), some (mx_l (fil g al (S n) x i).2.1), none, some (mx_i (nI (fil g al (S n) x i).2.2)), some (mx_i (nI i))] [] (mx_put (mx_put (mx_put (mx_put F 42 (mx_ia 360 lt)) 43 (mx_ia 60 ml)) 40 (e_M (nI 0) sz (nI n) sp wy kp sd)) 51 (mx_ia 64 (fil g al (S n) x i).1)) 0 0 := by
    intro m
    induction m with
    | zero =>
      intro i hi
      refine go rfl ⟨_, rfl, ?_⟩
      refine go rfl ?_
      refine go rfl ⟨_, _, _, rfl, fun c => ?_, fun c => ?_⟩
      · refine go rfl ⟨_, rfl, ?_⟩
        refine go rfl ⟨_, rfl, rfl, rfl, ?_⟩
        rw [← hX2, show i = 64 by omega]
        exact ho hn0
      · exact absurd (nI_le (by omega) (by omega)) c
    | succ m ih =>
      intro i hi
      refine go rfl ⟨_, rfl, ?_⟩
      refine go rfl ?_
      refine go rfl ⟨_, _, _, rfl, fun c => ?_, fun c => ?_⟩
      · exact absurd ((nI_leI (by omega) (by omega)).mp c) (by omega)
      refine go rfl ⟨_, rfl, ?_⟩
      refine go rfl ⟨_, _, _, _, rfl, rfl, rfl, ?_⟩
      refine go rfl ⟨_, rfl, ?_⟩
      refine go rfl ⟨_, _, _, _, _, rfl, rfl, (vp_in_nI (show i < 64 by omega) (by omega)), ?_⟩
      rw [nI_clamp (by omega), fil_far g al (S n) x i i (Nat.le_refl i)]
      have ih := ih (i + 1) (by omega)
      refine go rfl ⟨_, _, rfl, fun c2 => ?_, fun c2 => ?_⟩
      · rw [fil_y c2] at ih
        have hne : ¬ (nI (S n)).toInt64 = 0 := by
          rw [nI_l (by omega)]
          exact fun z => absurd ((lN_eq (a := S n) (b := 0) (by omega) (by omega)).mp z) (by omega)
        refine go rfl ⟨_, rfl, ?_⟩
        refine go rfl ?_
        refine go rfl ⟨_, _, _, rfl, ?_⟩
        rw [Int64.mul_comm]
        refine go rfl ?_
        refine go rfl ⟨_, _, _, rfl, ?_⟩
        refine go rfl ⟨_, _, rfl, ?_⟩
        refine go rfl ⟨_, rfl, ?_⟩
        refine go rfl ⟨_, _, _, _, rfl, rfl, rfl, ?_⟩
        refine go rfl ⟨_, rfl, ?_⟩
        refine go rfl ⟨_, rfl, ?_⟩
        refine go rfl ⟨_, rfl, ?_⟩
        refine go rfl ?_
        refine go rfl ⟨_, _, _, rfl, ?_⟩
        refine go rfl ⟨_, rfl, ?_⟩
        refine go rfl ⟨_, _, rfl, ?_⟩
        refine go rfl ⟨_, _, _, rfl, (hne), ?_⟩
        refine go rfl ⟨_, _, rfl, ?_⟩
        rw [show (6364136223846793005 * (fil g al (S n) x i).2.1 + 1442695040888963407) = fstp (fil g al (S n) x i).2.1 from rfl, fix_eq _ hS1 (by omega)]
        obtain ⟨w, r, q1, q2, q3⟩ := hpl n (fix (fstp (fil g al (S n) x i).2.1) (S n)) (Nat.le_refl n) (Nat.mod_lt _ hS1)
        rw [q3, hal w r q1 q2] at ih
        rw [q3]
        refine go rfl ⟨_, _, _, _, rfl, rfl, rfl, rfl, rfl, ⟨_, _, _, _, _, _, n, N, ch, lt, ml, _, S, w, r, rfl, rfl, rfl, rfl, rfl, hw, hS0, hS, by omega, q1, q2, ?_⟩⟩
        refine go rfl ⟨_, _, _, _, _, _, rfl, rfl, (vp_in_nI (show i < 64 by omega) (by omega)), ?_⟩
        rw [nI_clamp (by omega), mx_pp]
        refine go rfl ⟨_, rfl, ?_⟩
        refine go rfl ⟨_, rfl, ?_⟩
        refine go rfl ?_
        rw [nI_add, nI_add]
        exact ih
      · rw [fil_n c2] at ih
        refine go rfl ?_
        refine go rfl ⟨_, rfl, ?_⟩
        refine go rfl ?_
        rw [nI_add]
        exact ih
  have sum : ∀ (m i : Nat) (j5 j6 j7 : Option mx_V), i + m = n → Rr 19 [some (mx_r 40), some (mx_l x), none, some (mx_i (nI (S i))), some (mx_i (nI i)), j5, j6, j7] [] (mx_put (mx_put (mx_put (mx_put F 42 (mx_ia 360 lt)) 43 (mx_ia 60 ml)) 51 (mx_ia 64 g)) 40 (e_M (nI 0) sz (nI n) sp wy kp sd)) 0 0 := by
    intro m
    induction m with
    | zero =>
      intro i j5 j6 j7 hi
      have ei : i = n := by omega
      subst ei
      refine go rfl ⟨_, rfl, ?_⟩
      refine go rfl ⟨_, rfl, ?_⟩
      refine go rfl ⟨_, _, _, _, rfl, rfl, rfl, ?_⟩
      refine go rfl ⟨_, _, _, rfl, fun c => ?_, fun c => ?_⟩
      · refine go rfl ⟨_, rfl, ?_⟩
        refine go rfl ⟨_, _, rfl, ?_⟩
        refine go rfl ?_
        refine go rfl ⟨_, _, rfl, ?_⟩
        refine go rfl ?_
        refine go rfl ⟨_, _, rfl, ?_⟩
        rw [mx_pc _ _ _ (show (40 : Nat) ≠ 51 by decide)]
        exact loop 64 0 (by omega)
      · exact absurd (nI_le (by omega) (by omega)) c
    | succ m ih =>
      intro i j5 j6 j7 hi
      refine go rfl ⟨_, rfl, ?_⟩
      refine go rfl ⟨_, rfl, ?_⟩
      refine go rfl ⟨_, _, _, _, rfl, rfl, rfl, ?_⟩
      refine go rfl ⟨_, _, _, rfl, fun c => ?_, fun c => ?_⟩
      · exact absurd ((nI_leI (by omega) (by omega)).mp c) (by omega)
      refine go rfl ⟨_, rfl, ?_⟩
      refine go rfl ⟨_, rfl, ?_⟩
      refine go rfl ⟨_, _, _, _, rfl, rfl, rfl, ?_⟩
      refine go rfl ⟨_, rfl, ?_⟩
      refine go rfl ⟨_, _, _, _, _, rfl, rfl, (vp_in_nI (show i < 60 by omega) (by omega)), ?_⟩
      rw [vr_loadlen hw (show i < n by omega)]
      refine go rfl ⟨_, _, _, rfl, ?_⟩
      rw [nI_add, ← hS i (by omega)]
      refine go rfl ⟨_, _, rfl, ?_⟩
      refine go rfl ⟨_, rfl, ?_⟩
      refine go rfl ?_
      rw [nI_add]
      exact ih (i + 1) _ _ _ (by omega)
  refine go rfl ?_
  refine go rfl ⟨_, _, rfl, ?_⟩
  refine go rfl ?_
  refine go rfl ⟨_, _, rfl, ?_⟩
  have h := sum n 0 none none none (by omega)
  rw [hS0] at h
  exact h
-- LadderWordsModel.cell(II)I
def sp_M_cell : mx_Sp := fun As F P => ∃ (th sz mn sp : Int32) (wy : Int64) (kp sd : Int32) (g : Nat → Int32) (x y : Int32), As = [mx_r 40, mx_i x, mx_i y] ∧ F 51 = some (mx_ia 64 g) ∧ F 40 = some (e_M th sz mn sp wy kp sd) ∧ P (some (mx_i (gat g x y))) (mx_put F 40 (e_M (nI 0) sz mn sp wy kp sd))
theorem d_M_cell_0 : decode c_M_cell 0 = .ok (.aload_n 0, 1) := by decide +kernel
theorem d_M_cell_1 : decode c_M_cell 1 = .ok (.iconst 0, 1) := by decide +kernel
theorem d_M_cell_2 : decode c_M_cell 2 = .ok (.putfield 48, 3) := by decide +kernel
theorem d_M_cell_5 : decode c_M_cell 5 = .ok (.iload_n 1, 1) := by decide +kernel
theorem d_M_cell_6 : decode c_M_cell 6 = .ok (.iload_n 2, 1) := by decide +kernel
theorem d_M_cell_7 : decode c_M_cell 7 = .ok (.invokestatic 114, 3) := by decide +kernel
theorem d_M_cell_10 : decode c_M_cell 10 = .ok (.ifCond .eq 17, 3) := by decide +kernel
theorem d_M_cell_13 : decode c_M_cell 13 = .ok (.aload_n 0, 1) := by decide +kernel
theorem d_M_cell_14 : decode c_M_cell 14 = .ok (.getfield 45, 3) := by decide +kernel
theorem d_M_cell_17 : decode c_M_cell 17 = .ok (.iload_n 1, 1) := by decide +kernel
theorem d_M_cell_18 : decode c_M_cell 18 = .ok (.bipush 8, 2) := by decide +kernel
theorem d_M_cell_20 : decode c_M_cell 20 = .ok (.iload_n 2, 1) := by decide +kernel
theorem d_M_cell_21 : decode c_M_cell 21 = .ok (.imul, 1) := by decide +kernel
theorem d_M_cell_22 : decode c_M_cell 22 = .ok (.iadd, 1) := by decide +kernel
theorem d_M_cell_23 : decode c_M_cell 23 = .ok (.iaload, 1) := by decide +kernel
theorem d_M_cell_24 : decode c_M_cell 24 = .ok (.goto 4, 3) := by decide +kernel
theorem d_M_cell_27 : decode c_M_cell 27 = .ok (.iconst (-1), 1) := by decide +kernel
theorem d_M_cell_28 : decode c_M_cell 28 = .ok (.ireturn, 1) := by decide +kernel
abbrev w_M_cell : List Cond := mx_ws y_M_cell c_M_cell 3 (some .int)
abbrev rm_M_cell : Room := { frames := 20, cells := 0, slots := 0, locals := 400 }
def t_M_cell  (P : Option mx_V → mx_F → Prop) : List (Nat × mx_O) := [
  (0, mx_aload 0 1),
  (1, mx_push (.inl (nI 0)) 2),
  (2, mx_puti 7 0 5),
  (5, mx_iload 1 6),
  (6, mx_iload 2 7),
  (7, mx_cs2 sp_M_isCell 0 0 10),
  (10, mx_if_eq 27 13),
  (13, mx_aload 0 14),
  (14, mx_get 7 17 17),
  (17, mx_iload 1 18),
  (18, mx_push (.inl (nI 8)) 20),
  (20, mx_iload 2 21),
  (21, mx_imul 22),
  (22, mx_iadd 23),
  (23, mx_iald 24),
  (24, mx_goto 28),
  (27, mx_push (.inl (-1)) 28),
  (28, mx_iret P)]
set_option maxRecDepth 20000 in
theorem a_M_cell  {p : Program} {l : Launch} {e : Env} {s : State} {m : MethodId} {args : Array Value} {below : List Frame} {meth : Method} {c : Code} {D : va_G} {tc : Nat → ClassId} {tb : Nat → Nat} {sz : Nat} {a0 : Nat → Nat} {G : mx_F} {P : Option mx_V → mx_F → Prop}  (C : mx_C p s m args c c_M_cell y_M_cell.cls w_M_cell D tc tb (mx_A a0 G sz) 3 (mx_Ok0 a0 G)) (hr : meth.sig.returnType = (some .int)) (hlk : meth.locks = false) : mx_all (mx_W p l e rm_M_cell s m args below meth c (MQ below (mx_Q D tc tb a0 G sz P) args s 0 0 (mx_A a0 G sz)) D tc tb (mx_A a0 G sz) 3 (mx_Ok0 a0 G)) (t_M_cell  P) :=
  ⟨mx_s_aload_n C d_M_cell_0 rfl,
  mx_s_iconst C d_M_cell_1 (by decide),
  mx_s_puti (T := T_M) (N := 18) (k := 0) C (fun w h => List.mem_cons_of_mem _ (in_M w h)) rfl ty_M ok_M nm_M (by decide) (List.mem_cons_of_mem _ fk_M_48) rfl rfl (ok_M 0 (by decide)) d_M_cell_2,
  mx_s_iload_n C d_M_cell_5 rfl,
  mx_s_iload_n C d_M_cell_6 rfl,
  mx_s_cs2 C (m_M_isCell l) (cwS 2 C.2.2.2.2.1 (mx_gS (fun w h => List.mem_cons_of_mem _ h) mk_M_114 sm_M_isCell ic_M co_M_isCell) rfl rfl rfl (by decide +kernel) ⟨by decide, by decide⟩) d_M_cell_7 ⟨Nat.zero_le _, Nat.zero_le _⟩,
  mx_s_if_eq C d_M_cell_10 (by decide),
  mx_s_aload_n C d_M_cell_13 rfl,
  mx_s_get (T := T_M) (N := 18) (k := 17) C (fun w h => List.mem_cons_of_mem _ (in_M w h)) rfl (by decide) (List.mem_cons_of_mem _ fk_M_45) rfl d_M_cell_14,
  mx_s_iload_n C d_M_cell_17 rfl,
  mx_s_bipush C d_M_cell_18 (by decide),
  mx_s_iload_n C d_M_cell_20 rfl,
  mx_s_imul C d_M_cell_21,
  mx_s_iadd C d_M_cell_22,
  mx_s_iald C d_M_cell_23,
  mx_s_goto C d_M_cell_24 (by decide),
  mx_s_iconst C d_M_cell_27 (by decide),
  mx_s_iret C hr hlk d_M_cell_28,
  trivial⟩
set_option maxRecDepth 20000 in
set_option maxHeartbeats 2000000 in
theorem m_M_cell (l : Launch) : mx_M l y_M_cell w_M_cell rm_M_cell sp_M_cell := by
  intro zD ztc ztb zad As F P sz0 h
  obtain ⟨th, sz, mn, sp, wy, kp, sd, g, x, y, rfl, hg, h0, hp⟩ := h
  refine mx_run (cc := c_M_cell) (maxL := 3) (ret := (some .int)) (tab := t_M_cell  P) (by decide) rfl zD ztc ztb zad _ F P sz0 (Nat.le_of_ble_eq_true rfl) (fun p e s m args below meth c C hr hlk => a_M_cell  C hr hlk) ?_
  intro Rr go
  have hF := mx_as2 hg h0
  have hX := mx_as1 hg
  rw [hF]
  refine go rfl ⟨_, rfl, ?_⟩
  refine go rfl ?_
  refine go rfl ⟨_, _, _, _, rfl, rfl, (Nat.le_of_ble_eq_true rfl), ?_⟩
  rw [mx_pp]
  refine go rfl ⟨_, rfl, ?_⟩
  refine go rfl ⟨_, rfl, ?_⟩
  refine go rfl ⟨_, _, _, rfl, rfl, rfl, rfl, ⟨x, y, rfl, fun c => ?_, fun c => ?_⟩⟩
  · refine go rfl ⟨_, _, rfl, fun d => ?_, fun d => ?_⟩
    · exact absurd d (by decide)
    refine go rfl ⟨_, rfl, ?_⟩
    refine go rfl ⟨_, _, _, _, rfl, rfl, rfl, ?_⟩
    refine go rfl ⟨_, rfl, ?_⟩
    refine go rfl ?_
    refine go rfl ⟨_, rfl, ?_⟩
    refine go rfl ⟨_, _, _, rfl, ?_⟩
    refine go rfl ⟨_, _, _, rfl, ?_⟩
    refine go rfl ⟨_, _, _, _, _, rfl, rfl, (ins_vp c), ?_⟩
    refine go rfl ?_
    refine go rfl ⟨_, rfl, rfl, rfl, ?_⟩
    rw [← hX]
    rw [gat_in c] at hp
    exact hp
  · refine go rfl ⟨_, _, rfl, fun d => ?_, fun d => ?_⟩
    · refine go rfl ?_
      refine go rfl ⟨_, rfl, rfl, rfl, ?_⟩
      rw [← hX]
      rw [gat_out c] at hp
      exact hp
    · exact absurd rfl d
-- LadderWordsModel.place(II)I
def sp_M_place : mx_Sp := fun As F P => ∃ (th sz sp : Int32) (wy : Int64) (kp sd : Int32) (n : Nat) (N : Nat → Nat) (ch : Nat → Nat → Int32) (lt ml g : Nat → Int32) (j : Nat) (k : Int32), As = [mx_r 40, mx_i (nI j), mx_i k] ∧ F 42 = some (mx_ia 360 lt) ∧ F 43 = some (mx_ia 60 ml) ∧ F 51 = some (mx_ia 64 g) ∧ F 40 = some (e_M th sz (nI n) sp wy kp sd) ∧ mst n N ch lt ml ∧ j < n ∧ (∀ p, p < 512 → stA g (N j) (ch j) p → nI (cnt (stA g (N j) (ch j)) p) = k → (∀ q, q < p → ¬ (stA g (N j) (ch j) q ∧ nI (cnt (stA g (N j) (ch j)) q) = k)) → P (some (mx_i (nI p))) F) ∧ ((∀ p, p < 512 → ¬ (stA g (N j) (ch j) p ∧ nI (cnt (stA g (N j) (ch j)) p) = k)) → (k < 0 → P (some (mx_i (nI (cnt (stA g (N j) (ch j)) 512)))) F) ∧ (¬ k < 0 → P (some (mx_i (-1))) F))
theorem d_M_place_0 : decode c_M_place 0 = .ok (.iconst 0, 1) := by decide +kernel
theorem d_M_place_1 : decode c_M_place 1 = .ok (.istore_n 3, 1) := by decide +kernel
theorem d_M_place_2 : decode c_M_place 2 = .ok (.iconst 0, 1) := by decide +kernel
theorem d_M_place_3 : decode c_M_place 3 = .ok (.istore 4, 2) := by decide +kernel
theorem d_M_place_5 : decode c_M_place 5 = .ok (.iload 4, 2) := by decide +kernel
theorem d_M_place_7 : decode c_M_place 7 = .ok (.bipush 64, 2) := by decide +kernel
theorem d_M_place_9 : decode c_M_place 9 = .ok (.if_icmp .ge 66, 3) := by decide +kernel
theorem d_M_place_12 : decode c_M_place 12 = .ok (.iconst 0, 1) := by decide +kernel
theorem d_M_place_13 : decode c_M_place 13 = .ok (.istore 5, 2) := by decide +kernel
theorem d_M_place_15 : decode c_M_place 15 = .ok (.iload 5, 2) := by decide +kernel
theorem d_M_place_17 : decode c_M_place 17 = .ok (.bipush 8, 2) := by decide +kernel
theorem d_M_place_19 : decode c_M_place 19 = .ok (.if_icmp .ge 50, 3) := by decide +kernel
theorem d_M_place_22 : decode c_M_place 22 = .ok (.aload_n 0, 1) := by decide +kernel
theorem d_M_place_23 : decode c_M_place 23 = .ok (.iload_n 1, 1) := by decide +kernel
theorem d_M_place_24 : decode c_M_place 24 = .ok (.iload 4, 2) := by decide +kernel
theorem d_M_place_26 : decode c_M_place 26 = .ok (.bipush 8, 2) := by decide +kernel
theorem d_M_place_28 : decode c_M_place 28 = .ok (.irem, 1) := by decide +kernel
theorem d_M_place_29 : decode c_M_place 29 = .ok (.iload 4, 2) := by decide +kernel
theorem d_M_place_31 : decode c_M_place 31 = .ok (.bipush 8, 2) := by decide +kernel
theorem d_M_place_33 : decode c_M_place 33 = .ok (.idiv, 1) := by decide +kernel
theorem d_M_place_34 : decode c_M_place 34 = .ok (.iload 5, 2) := by decide +kernel
theorem d_M_place_36 : decode c_M_place 36 = .ok (.iconst 0, 1) := by decide +kernel
theorem d_M_place_37 : decode c_M_place 37 = .ok (.invokevirtual 117, 3) := by decide +kernel
theorem d_M_place_40 : decode c_M_place 40 = .ok (.ifCond .ne 6, 3) := by decide +kernel
theorem d_M_place_43 : decode c_M_place 43 = .ok (.goto 20, 3) := by decide +kernel
theorem d_M_place_46 : decode c_M_place 46 = .ok (.iload_n 3, 1) := by decide +kernel
theorem d_M_place_47 : decode c_M_place 47 = .ok (.iload_n 2, 1) := by decide +kernel
theorem d_M_place_48 : decode c_M_place 48 = .ok (.if_icmp .ne 12, 3) := by decide +kernel
theorem d_M_place_51 : decode c_M_place 51 = .ok (.bipush 8, 2) := by decide +kernel
theorem d_M_place_53 : decode c_M_place 53 = .ok (.iload 4, 2) := by decide +kernel
theorem d_M_place_55 : decode c_M_place 55 = .ok (.imul, 1) := by decide +kernel
theorem d_M_place_56 : decode c_M_place 56 = .ok (.iload 5, 2) := by decide +kernel
theorem d_M_place_58 : decode c_M_place 58 = .ok (.iadd, 1) := by decide +kernel
theorem d_M_place_59 : decode c_M_place 59 = .ok (.ireturn, 1) := by decide +kernel
theorem d_M_place_60 : decode c_M_place 60 = .ok (.iinc 3 1, 3) := by decide +kernel
theorem d_M_place_63 : decode c_M_place 63 = .ok (.iinc 5 1, 3) := by decide +kernel
theorem d_M_place_66 : decode c_M_place 66 = .ok (.goto (-51), 3) := by decide +kernel
theorem d_M_place_69 : decode c_M_place 69 = .ok (.iinc 4 1, 3) := by decide +kernel
theorem d_M_place_72 : decode c_M_place 72 = .ok (.goto (-67), 3) := by decide +kernel
theorem d_M_place_75 : decode c_M_place 75 = .ok (.iload_n 2, 1) := by decide +kernel
theorem d_M_place_76 : decode c_M_place 76 = .ok (.ifCond .ge 7, 3) := by decide +kernel
theorem d_M_place_79 : decode c_M_place 79 = .ok (.iload_n 3, 1) := by decide +kernel
theorem d_M_place_80 : decode c_M_place 80 = .ok (.goto 4, 3) := by decide +kernel
theorem d_M_place_83 : decode c_M_place 83 = .ok (.iconst (-1), 1) := by decide +kernel
theorem d_M_place_84 : decode c_M_place 84 = .ok (.ireturn, 1) := by decide +kernel
abbrev w_M_place : List Cond := mx_ws y_M_place c_M_place 6 (some .int)
abbrev rm_M_place : Room := { frames := 30, cells := 0, slots := 0, locals := 600 }
def t_M_place  (P : Option mx_V → mx_F → Prop) : List (Nat × mx_O) := [
  (0, mx_push (.inl (nI 0)) 1),
  (1, mx_istore 3 2),
  (2, mx_push (.inl (nI 0)) 3),
  (3, mx_istore 4 5),
  (5, mx_iload 4 7),
  (7, mx_push (.inl (nI 64)) 9),
  (9, mx_ic_ge 75 12),
  (12, mx_push (.inl (nI 0)) 13),
  (13, mx_istore 5 15),
  (15, mx_iload 5 17),
  (17, mx_push (.inl (nI 8)) 19),
  (19, mx_ic_ge 69 22),
  (22, mx_aload 0 23),
  (23, mx_iload 1 24),
  (24, mx_iload 4 26),
  (26, mx_push (.inl (nI 8)) 28),
  (28, mx_irem 29),
  (29, mx_iload 4 31),
  (31, mx_push (.inl (nI 8)) 33),
  (33, mx_idiv 34),
  (34, mx_iload 5 36),
  (36, mx_push (.inl (nI 0)) 37),
  (37, mx_cv5 7 sp_M_stands 0 0 40),
  (40, mx_if_ne 46 43),
  (43, mx_goto 63),
  (46, mx_iload 3 47),
  (47, mx_iload 2 48),
  (48, mx_ic_ne 60 51),
  (51, mx_push (.inl (nI 8)) 53),
  (53, mx_iload 4 55),
  (55, mx_imul 56),
  (56, mx_iload 5 58),
  (58, mx_iadd 59),
  (59, mx_iret P),
  (60, mx_iinc 3 (nI 1) 63),
  (63, mx_iinc 5 (nI 1) 66),
  (66, mx_goto 15),
  (69, mx_iinc 4 (nI 1) 72),
  (72, mx_goto 5),
  (75, mx_iload 2 76),
  (76, mx_if_ge 83 79),
  (79, mx_iload 3 80),
  (80, mx_goto 84),
  (83, mx_push (.inl (-1)) 84),
  (84, mx_iret P)]
set_option maxRecDepth 20000 in
theorem a_M_place  {p : Program} {l : Launch} {e : Env} {s : State} {m : MethodId} {args : Array Value} {below : List Frame} {meth : Method} {c : Code} {D : va_G} {tc : Nat → ClassId} {tb : Nat → Nat} {sz : Nat} {a0 : Nat → Nat} {G : mx_F} {P : Option mx_V → mx_F → Prop}  (C : mx_C p s m args c c_M_place y_M_place.cls w_M_place D tc tb (mx_A a0 G sz) 6 (mx_Ok0 a0 G)) (hr : meth.sig.returnType = (some .int)) (hlk : meth.locks = false) : mx_all (mx_W p l e rm_M_place s m args below meth c (MQ below (mx_Q D tc tb a0 G sz P) args s 0 0 (mx_A a0 G sz)) D tc tb (mx_A a0 G sz) 6 (mx_Ok0 a0 G)) (t_M_place  P) :=
  ⟨mx_s_iconst C d_M_place_0 (by decide),
  mx_s_istore_n C d_M_place_1 rfl (by decide),
  mx_s_iconst C d_M_place_2 (by decide),
  mx_s_istore C d_M_place_3 (by decide),
  mx_s_iload C d_M_place_5,
  mx_s_bipush C d_M_place_7 (by decide),
  mx_s_ic_ge C d_M_place_9 (by decide),
  mx_s_iconst C d_M_place_12 (by decide),
  mx_s_istore C d_M_place_13 (by decide),
  mx_s_iload C d_M_place_15,
  mx_s_bipush C d_M_place_17 (by decide),
  mx_s_ic_ge C d_M_place_19 (by decide),
  mx_s_aload_n C d_M_place_22 rfl,
  mx_s_iload_n C d_M_place_23 rfl,
  mx_s_iload C d_M_place_24,
  mx_s_bipush C d_M_place_26 (by decide),
  mx_s_irem C d_M_place_28,
  mx_s_iload C d_M_place_29,
  mx_s_bipush C d_M_place_31 (by decide),
  mx_s_idiv C d_M_place_33,
  mx_s_iload C d_M_place_34,
  mx_s_iconst C d_M_place_36 (by decide),
  mx_s_cv5 C (m_M_stands l) rfl (cwV 5 C.2.2.2.2.1 (mx_gV (fun w h => List.mem_cons_of_mem _ h) mk_M_117 im_M_stands se_M_stands ic_M co_M_stands) rfl rfl rfl (by decide +kernel) ⟨by decide, by decide⟩) d_M_place_37 ⟨Nat.zero_le _, Nat.zero_le _⟩,
  mx_s_if_ne C d_M_place_40 (by decide),
  mx_s_goto C d_M_place_43 (by decide),
  mx_s_iload_n C d_M_place_46 rfl,
  mx_s_iload_n C d_M_place_47 rfl,
  mx_s_ic_ne C d_M_place_48 (by decide),
  mx_s_bipush C d_M_place_51 (by decide),
  mx_s_iload C d_M_place_53,
  mx_s_imul C d_M_place_55,
  mx_s_iload C d_M_place_56,
  mx_s_iadd C d_M_place_58,
  mx_s_iret C hr hlk d_M_place_59,
  mx_s_iinc C d_M_place_60 (by decide) (by decide),
  mx_s_iinc C d_M_place_63 (by decide) (by decide),
  mx_s_goto C d_M_place_66 (by decide),
  mx_s_iinc C d_M_place_69 (by decide) (by decide),
  mx_s_goto C d_M_place_72 (by decide),
  mx_s_iload_n C d_M_place_75 rfl,
  mx_s_if_ge C d_M_place_76 (by decide),
  mx_s_iload_n C d_M_place_79 rfl,
  mx_s_goto C d_M_place_80 (by decide),
  mx_s_iconst C d_M_place_83 (by decide),
  mx_s_iret C hr hlk d_M_place_84,
  trivial⟩
set_option maxRecDepth 20000 in
set_option maxHeartbeats 2000000 in
theorem m_M_place (l : Launch) : mx_M l y_M_place w_M_place rm_M_place sp_M_place := by
  intro zD ztc ztb zad As F P sz0 h
  obtain ⟨th, sz, sp, wy, kp, sd, n, N, ch, lt, ml, g, j, k, rfl, h2, h3, hg, h0, hw, hj, ho, hz⟩ := h
  refine mx_run (cc := c_M_place) (maxL := 6) (ret := (some .int)) (tab := t_M_place  P) (by decide) rfl zD ztc ztb zad _ F P sz0 (Nat.le_of_ble_eq_true rfl) (fun p e s m args below meth c C hr hlk => a_M_place  C hr hlk) ?_
  intro Rr go
  have hF := mx_as4 h2 h3 hg h0
  rw [hF]
  have hn := hw.1.1
  have inner : ∀ (c : Nat), c < 64 → (∀ jd : Option mx_V, (∀ q, q < 8 * (c + 1) → ¬ (stA g (N j) (ch j) q ∧ nI (cnt (stA g (N j) (ch j)) q) = k)) → Rr 5 [some (mx_r 40), some (mx_i (nI j)), some (mx_i k), some (mx_i (nI (cnt (stA g (N j) (ch j)) (8 * (c + 1))))), some (mx_i (nI (c + 1))), jd] [] (mx_put (mx_put (mx_put (mx_put F 42 (mx_ia 360 lt)) 43 (mx_ia 60 ml)) 51 (mx_ia 64 g)) 40 (e_M th sz (nI n) sp wy kp sd)) 0 0) → ∀ (m d : Nat), d + m = 8 → (∀ q, q < 8 * c + d → ¬ (stA g (N j) (ch j) q ∧ nI (cnt (stA g (N j) (ch j)) q) = k)) → Rr 15 [some (mx_r 40), some (mx_i (nI j)), some (mx_i k), some (mx_i (nI (cnt (stA g (N j) (ch j)) (8 * c + d)))), some (mx_i (nI c)), some (mx_i (nI d))] [] (mx_put (mx_put (mx_put (mx_put F 42 (mx_ia 360 lt)) 43 (mx_ia 60 ml)) 51 (mx_ia 64 g)) 40 (e_M th sz (nI n) sp wy kp sd)) 0 0 := by
    intro c hc next m
    induction m with
    | zero =>
      intro d hd hno
      refine go rfl ⟨_, rfl, ?_⟩
      refine go rfl ?_
      refine go rfl ⟨_, _, _, rfl, fun e => ?_, fun e => ?_⟩
      · refine go rfl ⟨_, rfl, ?_⟩
        refine go rfl ?_
        rw [nI_add]
        have e8 : 8 * c + d = 8 * (c + 1) := by omega
        rw [e8] at hno ⊢
        exact next _ hno
      · exact absurd (nI_le (by omega) (by omega)) e
    | succ m ih =>
      intro d hd hno
      have ih := ih (d + 1) (by omega)
      refine go rfl ⟨_, rfl, ?_⟩
      refine go rfl ?_
      refine go rfl ⟨_, _, _, rfl, fun e => ?_, fun e => ?_⟩
      · exact absurd ((nI_leI (by omega) (by omega)).mp e) (by omega)
      refine go rfl ⟨_, rfl, ?_⟩
      refine go rfl ⟨_, rfl, ?_⟩
      refine go rfl ⟨_, rfl, ?_⟩
      refine go rfl ?_
      refine go rfl ⟨_, _, _, rfl, (nI_ne0 (by omega) (by omega)), ?_⟩
      rw [pk_rem (by omega) (by omega) (by omega)]
      refine go rfl ⟨_, rfl, ?_⟩
      refine go rfl ?_
      refine go rfl ⟨_, _, _, rfl, (nI_ne0 (by omega) (by omega)), ?_⟩
      rw [pk_div (by omega) (by omega) (by omega)]
      refine go rfl ⟨_, rfl, ?_⟩
      refine go rfl ?_
      have est : stA g (N j) (ch j) (8 * c + d) ↔ smP 0 g (N j) (ch j) (nI (c % 8)) (nI (c / 8)) d := by
        unfold stA
        rw [show (8 * c + d) / 8 = c by omega, show (8 * c + d) % 8 = d by omega]
        exact smP_0.symm
      refine go rfl ⟨_, _, _, _, _, _, _, _, rfl, rfl, rfl, rfl, rfl, ⟨_, _, _, _, _, _, n, N, ch, lt, ml, g, j, d, 0, _, _, rfl, rfl, rfl, rfl, rfl, hw, hj, by omega, by omega, fun hs => ?_, fun hs => ?_⟩⟩
      · have hs := est.mpr hs
        rw [show 8 * c + (d + 1) = 8 * c + d + 1 by omega, cnt_y hs] at ih
        refine go rfl ⟨_, _, rfl, fun e2 => ?_, fun e2 => ?_⟩
        rotate_left
        · exact absurd e2 (by decide)
        refine go rfl ⟨_, rfl, ?_⟩
        refine go rfl ⟨_, rfl, ?_⟩
        refine go rfl ⟨_, _, _, rfl, fun e3 => ?_, fun e3 => ?_⟩
        · refine go rfl ⟨_, rfl, ?_⟩
          refine go rfl ⟨_, rfl, ?_⟩
          refine go rfl ?_
          rw [nI_add, nI_add]
          refine ih (fun q hq => ?_)
          rcases Nat.lt_or_ge q (8 * c + d) with w | w
          · exact hno q w
          · rw [show q = 8 * c + d by omega]
            exact fun h => e3 h.2
        · refine go rfl ?_
          refine go rfl ⟨_, rfl, ?_⟩
          refine go rfl ⟨_, _, _, rfl, ?_⟩
          rw [pk_mul]
          refine go rfl ⟨_, rfl, ?_⟩
          refine go rfl ⟨_, _, _, rfl, ?_⟩
          rw [nI_add]
          refine go rfl ⟨_, rfl, rfl, rfl, ?_⟩
          rw [← hF]
          exact ho (8 * c + d) (by omega) hs e3 hno
      · have hs : ¬ stA g (N j) (ch j) (8 * c + d) := fun q => hs (est.mp q)
        rw [show 8 * c + (d + 1) = 8 * c + d + 1 by omega, cnt_n hs] at ih
        refine go rfl ⟨_, _, rfl, fun e2 => ?_, fun e2 => ?_⟩
        · exact absurd rfl e2
        refine go rfl ?_
        refine go rfl ⟨_, rfl, ?_⟩
        refine go rfl ?_
        rw [nI_add]
        refine ih (fun q hq => ?_)
        rcases Nat.lt_or_ge q (8 * c + d) with w | w
        · exact hno q w
        · rw [show q = 8 * c + d by omega]
          exact fun h => hs h.1
  have loop : ∀ (m c : Nat) (jd : Option mx_V), c + m = 64 → (∀ q, q < 8 * c → ¬ (stA g (N j) (ch j) q ∧ nI (cnt (stA g (N j) (ch j)) q) = k)) → Rr 5 [some (mx_r 40), some (mx_i (nI j)), some (mx_i k), some (mx_i (nI (cnt (stA g (N j) (ch j)) (8 * c)))), some (mx_i (nI c)), jd] [] (mx_put (mx_put (mx_put (mx_put F 42 (mx_ia 360 lt)) 43 (mx_ia 60 ml)) 51 (mx_ia 64 g)) 40 (e_M th sz (nI n) sp wy kp sd)) 0 0 := by
    intro m
    induction m with
    | zero =>
      intro c jd hc hno
      have ec : c = 64 := by omega
      subst ec
      have hz := hz hno
      refine go rfl ⟨_, rfl, ?_⟩
      refine go rfl ?_
      refine go rfl ⟨_, _, _, rfl, fun e => ?_, fun e => ?_⟩
      · refine go rfl ⟨_, rfl, ?_⟩
        refine go rfl ⟨_, _, rfl, fun e2 => ?_, fun e2 => ?_⟩
        · refine go rfl ?_
          refine go rfl ⟨_, rfl, rfl, rfl, ?_⟩
          rw [← hF]
          exact hz.2 (Int32.not_lt.mpr e2)
        · refine go rfl ⟨_, rfl, ?_⟩
          refine go rfl ?_
          refine go rfl ⟨_, rfl, rfl, rfl, ?_⟩
          rw [← hF]
          exact hz.1 (Int32.not_le.mp e2)
      · exact absurd (nI_le (by omega) (by omega)) e
    | succ m ih =>
      intro c jd hc hno
      refine go rfl ⟨_, rfl, ?_⟩
      refine go rfl ?_
      refine go rfl ⟨_, _, _, rfl, fun e => ?_, fun e => ?_⟩
      · exact absurd ((nI_leI (by omega) (by omega)).mp e) (by omega)
      refine go rfl ?_
      refine go rfl ⟨_, _, rfl, ?_⟩
      exact inner c (by omega) (fun jd2 h => ih (c + 1) jd2 (by omega) h) 8 0 (by omega) hno
  refine go rfl ?_
  refine go rfl ⟨_, _, rfl, ?_⟩
  refine go rfl ?_
  refine go rfl ⟨_, _, rfl, ?_⟩
  exact loop 64 0 none (by omega) (fun q hq => absurd hq (Nat.not_lt_zero q))
-- LadderWordsModel.found(I)I
def sp_M_found : mx_Sp := fun As F P => ∃ (th sz sp : Int32) (wy : Int64) (kp sd : Int32) (n : Nat) (N : Nat → Nat) (ch : Nat → Nat → Int32) (lt ml g : Nat → Int32) (w : Int32), As = [mx_r 40, mx_i w] ∧ F 42 = some (mx_ia 360 lt) ∧ F 43 = some (mx_ia 60 ml) ∧ F 51 = some (mx_ia 64 g) ∧ F 40 = some (e_M th sz (nI n) sp wy kp sd) ∧ mst n N ch lt ml ∧ (∀ j, j < n → w = nI j → P (some (mx_i (nI (cnt (stA g (N j) (ch j)) 512)))) (mx_put F 40 (e_M (nI 0) sz (nI n) sp wy kp sd))) ∧ ((w < 0 ∨ nI n ≤ w) → P (some (mx_i (-1))) (mx_put F 40 (e_M (nI 0) sz (nI n) sp wy kp sd)))
theorem d_M_found_0 : decode c_M_found 0 = .ok (.aload_n 0, 1) := by decide +kernel
theorem d_M_found_1 : decode c_M_found 1 = .ok (.iconst 0, 1) := by decide +kernel
theorem d_M_found_2 : decode c_M_found 2 = .ok (.putfield 48, 3) := by decide +kernel
theorem d_M_found_5 : decode c_M_found 5 = .ok (.aload_n 0, 1) := by decide +kernel
theorem d_M_found_6 : decode c_M_found 6 = .ok (.iload_n 1, 1) := by decide +kernel
theorem d_M_found_7 : decode c_M_found 7 = .ok (.invokevirtual 75, 3) := by decide +kernel
theorem d_M_found_10 : decode c_M_found 10 = .ok (.ifCond .eq 12, 3) := by decide +kernel
theorem d_M_found_13 : decode c_M_found 13 = .ok (.aload_n 0, 1) := by decide +kernel
theorem d_M_found_14 : decode c_M_found 14 = .ok (.iload_n 1, 1) := by decide +kernel
theorem d_M_found_15 : decode c_M_found 15 = .ok (.iconst (-1), 1) := by decide +kernel
theorem d_M_found_16 : decode c_M_found 16 = .ok (.invokevirtual 128, 3) := by decide +kernel
theorem d_M_found_19 : decode c_M_found 19 = .ok (.goto 4, 3) := by decide +kernel
theorem d_M_found_22 : decode c_M_found 22 = .ok (.iconst (-1), 1) := by decide +kernel
theorem d_M_found_23 : decode c_M_found 23 = .ok (.ireturn, 1) := by decide +kernel
abbrev w_M_found : List Cond := mx_ws y_M_found c_M_found 2 (some .int)
abbrev rm_M_found : Room := { frames := 40, cells := 0, slots := 0, locals := 800 }
def t_M_found  (P : Option mx_V → mx_F → Prop) : List (Nat × mx_O) := [
  (0, mx_aload 0 1),
  (1, mx_push (.inl (nI 0)) 2),
  (2, mx_puti 7 0 5),
  (5, mx_aload 0 6),
  (6, mx_iload 1 7),
  (7, mx_cv1 7 sp_M_isWord 0 0 10),
  (10, mx_if_eq 22 13),
  (13, mx_aload 0 14),
  (14, mx_iload 1 15),
  (15, mx_push (.inl (-1)) 16),
  (16, mx_cv2 7 sp_M_place 0 0 19),
  (19, mx_goto 23),
  (22, mx_push (.inl (-1)) 23),
  (23, mx_iret P)]
set_option maxRecDepth 20000 in
theorem a_M_found  {p : Program} {l : Launch} {e : Env} {s : State} {m : MethodId} {args : Array Value} {below : List Frame} {meth : Method} {c : Code} {D : va_G} {tc : Nat → ClassId} {tb : Nat → Nat} {sz : Nat} {a0 : Nat → Nat} {G : mx_F} {P : Option mx_V → mx_F → Prop}  (C : mx_C p s m args c c_M_found y_M_found.cls w_M_found D tc tb (mx_A a0 G sz) 2 (mx_Ok0 a0 G)) (hr : meth.sig.returnType = (some .int)) (hlk : meth.locks = false) : mx_all (mx_W p l e rm_M_found s m args below meth c (MQ below (mx_Q D tc tb a0 G sz P) args s 0 0 (mx_A a0 G sz)) D tc tb (mx_A a0 G sz) 2 (mx_Ok0 a0 G)) (t_M_found  P) :=
  ⟨mx_s_aload_n C d_M_found_0 rfl,
  mx_s_iconst C d_M_found_1 (by decide),
  mx_s_puti (T := T_M) (N := 18) (k := 0) C (fun w h => List.mem_cons_of_mem _ (in_M w h)) rfl ty_M ok_M nm_M (by decide) (List.mem_cons_of_mem _ fk_M_48) rfl rfl (ok_M 0 (by decide)) d_M_found_2,
  mx_s_aload_n C d_M_found_5 rfl,
  mx_s_iload_n C d_M_found_6 rfl,
  mx_s_cv1 C (m_M_isWord l) rfl (cwV 1 C.2.2.2.2.1 (mx_gV (fun w h => List.mem_cons_of_mem _ h) mk_M_75 im_M_isWord se_M_isWord ic_M co_M_isWord) rfl rfl rfl (by decide +kernel) ⟨by decide, by decide⟩) d_M_found_7 ⟨Nat.zero_le _, Nat.zero_le _⟩,
  mx_s_if_eq C d_M_found_10 (by decide),
  mx_s_aload_n C d_M_found_13 rfl,
  mx_s_iload_n C d_M_found_14 rfl,
  mx_s_iconst C d_M_found_15 (by decide),
  mx_s_cv2 C (m_M_place l) rfl (cwV 2 C.2.2.2.2.1 (mx_gV (fun w h => List.mem_cons_of_mem _ h) mk_M_128 im_M_place se_M_place ic_M co_M_place) rfl rfl rfl (by decide +kernel) ⟨by decide, by decide⟩) d_M_found_16 ⟨Nat.zero_le _, Nat.zero_le _⟩,
  mx_s_goto C d_M_found_19 (by decide),
  mx_s_iconst C d_M_found_22 (by decide),
  mx_s_iret C hr hlk d_M_found_23,
  trivial⟩
set_option maxRecDepth 20000 in
set_option maxHeartbeats 2000000 in
theorem m_M_found (l : Launch) : mx_M l y_M_found w_M_found rm_M_found sp_M_found := by
  intro zD ztc ztb zad As F P sz0 h
  obtain ⟨th, sz, sp, wy, kp, sd, n, N, ch, lt, ml, g, w, rfl, h2, h3, hg, h0, hw, ho, hz⟩ := h
  refine mx_run (cc := c_M_found) (maxL := 2) (ret := (some .int)) (tab := t_M_found  P) (by decide) rfl zD ztc ztb zad _ F P sz0 (Nat.le_of_ble_eq_true rfl) (fun p e s m args below meth c C hr hlk => a_M_found  C hr hlk) ?_
  intro Rr go
  have hF := mx_as4 h2 h3 hg h0
  have hX := mx_as3 h2 h3 hg
  rw [hF]
  have hn := hw.1.1
  refine go rfl ⟨_, rfl, ?_⟩
  refine go rfl ?_
  refine go rfl ⟨_, _, _, _, rfl, rfl, (Nat.le_of_ble_eq_true rfl), ?_⟩
  rw [mx_pp]
  refine go rfl ⟨_, rfl, ?_⟩
  refine go rfl ⟨_, rfl, ?_⟩
  refine go rfl ⟨_, _, _, _, rfl, rfl, rfl, rfl, rfl, ⟨_, _, _, _, _, _, n, w, rfl, rfl, fun c => ?_, fun c => ?_⟩⟩
  · refine go rfl ⟨_, _, rfl, fun e => ?_, fun e => ?_⟩
    · refine go rfl ?_
      refine go rfl ⟨_, rfl, rfl, rfl, ?_⟩
      rw [← hX]
      exact hz c
    · exact absurd rfl e
  rcases pk_ix w (n := n) (by omega) with q | q | ⟨j, hj, rfl⟩
  · exact absurd (Or.inl q) c
  · exact absurd (Or.inr q) c
  refine go rfl ⟨_, _, rfl, fun e => ?_, fun e => ?_⟩
  · exact absurd e (by decide)
  refine go rfl ⟨_, rfl, ?_⟩
  refine go rfl ⟨_, rfl, ?_⟩
  refine go rfl ?_
  refine go rfl ⟨_, _, _, _, _, rfl, rfl, rfl, rfl, rfl, ⟨_, _, _, _, _, _, n, N, ch, lt, ml, g, j, _, rfl, rfl, rfl, rfl, rfl, hw, hj, fun p q1 q2 q3 q4 => ?_, fun h => ⟨fun _ => ?_, fun h9 => absurd (by decide) h9⟩⟩⟩
  · exact absurd q3 (nI_m1 (by have := cnt_le (stA g (N j) (ch j)) p; omega))
  refine go rfl ?_
  refine go rfl ⟨_, rfl, rfl, rfl, ?_⟩
  rw [← hX]
  exact ho j hj rfl
-- LadderWordsModel.where(II)I
def sp_M_where : mx_Sp := fun As F P => ∃ (th sz sp : Int32) (wy : Int64) (kp sd : Int32) (n : Nat) (N : Nat → Nat) (ch : Nat → Nat → Int32) (lt ml g : Nat → Int32) (w k : Int32), As = [mx_r 40, mx_i w, mx_i k] ∧ F 42 = some (mx_ia 360 lt) ∧ F 43 = some (mx_ia 60 ml) ∧ F 51 = some (mx_ia 64 g) ∧ F 40 = some (e_M th sz (nI n) sp wy kp sd) ∧ mst n N ch lt ml ∧ (∀ j p, j < n → w = nI j → ¬ k < 0 → p < 512 → stA g (N j) (ch j) p → nI (cnt (stA g (N j) (ch j)) p) = k → (∀ q, q < p → ¬ (stA g (N j) (ch j) q ∧ nI (cnt (stA g (N j) (ch j)) q) = k)) → P (some (mx_i (nI p))) (mx_put F 40 (e_M (nI 0) sz (nI n) sp wy kp sd))) ∧ ((¬ ∃ j p, j < n ∧ w = nI j ∧ ¬ k < 0 ∧ p < 512 ∧ stA g (N j) (ch j) p ∧ nI (cnt (stA g (N j) (ch j)) p) = k) → P (some (mx_i (-1))) (mx_put F 40 (e_M (nI 0) sz (nI n) sp wy kp sd)))
theorem d_M_where_0 : decode c_M_where 0 = .ok (.aload_n 0, 1) := by decide +kernel
theorem d_M_where_1 : decode c_M_where 1 = .ok (.iconst 0, 1) := by decide +kernel
theorem d_M_where_2 : decode c_M_where 2 = .ok (.putfield 48, 3) := by decide +kernel
theorem d_M_where_5 : decode c_M_where 5 = .ok (.aload_n 0, 1) := by decide +kernel
theorem d_M_where_6 : decode c_M_where 6 = .ok (.iload_n 1, 1) := by decide +kernel
theorem d_M_where_7 : decode c_M_where 7 = .ok (.invokevirtual 75, 3) := by decide +kernel
theorem d_M_where_10 : decode c_M_where 10 = .ok (.ifCond .eq 16, 3) := by decide +kernel
theorem d_M_where_13 : decode c_M_where 13 = .ok (.iload_n 2, 1) := by decide +kernel
theorem d_M_where_14 : decode c_M_where 14 = .ok (.ifCond .lt 12, 3) := by decide +kernel
theorem d_M_where_17 : decode c_M_where 17 = .ok (.aload_n 0, 1) := by decide +kernel
theorem d_M_where_18 : decode c_M_where 18 = .ok (.iload_n 1, 1) := by decide +kernel
theorem d_M_where_19 : decode c_M_where 19 = .ok (.iload_n 2, 1) := by decide +kernel
theorem d_M_where_20 : decode c_M_where 20 = .ok (.invokevirtual 128, 3) := by decide +kernel
theorem d_M_where_23 : decode c_M_where 23 = .ok (.goto 4, 3) := by decide +kernel
theorem d_M_where_26 : decode c_M_where 26 = .ok (.iconst (-1), 1) := by decide +kernel
theorem d_M_where_27 : decode c_M_where 27 = .ok (.ireturn, 1) := by decide +kernel
abbrev w_M_where : List Cond := mx_ws y_M_where c_M_where 3 (some .int)
abbrev rm_M_where : Room := { frames := 40, cells := 0, slots := 0, locals := 800 }
def t_M_where  (P : Option mx_V → mx_F → Prop) : List (Nat × mx_O) := [
  (0, mx_aload 0 1),
  (1, mx_push (.inl (nI 0)) 2),
  (2, mx_puti 7 0 5),
  (5, mx_aload 0 6),
  (6, mx_iload 1 7),
  (7, mx_cv1 7 sp_M_isWord 0 0 10),
  (10, mx_if_eq 26 13),
  (13, mx_iload 2 14),
  (14, mx_if_lt 26 17),
  (17, mx_aload 0 18),
  (18, mx_iload 1 19),
  (19, mx_iload 2 20),
  (20, mx_cv2 7 sp_M_place 0 0 23),
  (23, mx_goto 27),
  (26, mx_push (.inl (-1)) 27),
  (27, mx_iret P)]
set_option maxRecDepth 20000 in
theorem a_M_where  {p : Program} {l : Launch} {e : Env} {s : State} {m : MethodId} {args : Array Value} {below : List Frame} {meth : Method} {c : Code} {D : va_G} {tc : Nat → ClassId} {tb : Nat → Nat} {sz : Nat} {a0 : Nat → Nat} {G : mx_F} {P : Option mx_V → mx_F → Prop}  (C : mx_C p s m args c c_M_where y_M_where.cls w_M_where D tc tb (mx_A a0 G sz) 3 (mx_Ok0 a0 G)) (hr : meth.sig.returnType = (some .int)) (hlk : meth.locks = false) : mx_all (mx_W p l e rm_M_where s m args below meth c (MQ below (mx_Q D tc tb a0 G sz P) args s 0 0 (mx_A a0 G sz)) D tc tb (mx_A a0 G sz) 3 (mx_Ok0 a0 G)) (t_M_where  P) :=
  ⟨mx_s_aload_n C d_M_where_0 rfl,
  mx_s_iconst C d_M_where_1 (by decide),
  mx_s_puti (T := T_M) (N := 18) (k := 0) C (fun w h => List.mem_cons_of_mem _ (in_M w h)) rfl ty_M ok_M nm_M (by decide) (List.mem_cons_of_mem _ fk_M_48) rfl rfl (ok_M 0 (by decide)) d_M_where_2,
  mx_s_aload_n C d_M_where_5 rfl,
  mx_s_iload_n C d_M_where_6 rfl,
  mx_s_cv1 C (m_M_isWord l) rfl (cwV 1 C.2.2.2.2.1 (mx_gV (fun w h => List.mem_cons_of_mem _ h) mk_M_75 im_M_isWord se_M_isWord ic_M co_M_isWord) rfl rfl rfl (by decide +kernel) ⟨by decide, by decide⟩) d_M_where_7 ⟨Nat.zero_le _, Nat.zero_le _⟩,
  mx_s_if_eq C d_M_where_10 (by decide),
  mx_s_iload_n C d_M_where_13 rfl,
  mx_s_if_lt C d_M_where_14 (by decide),
  mx_s_aload_n C d_M_where_17 rfl,
  mx_s_iload_n C d_M_where_18 rfl,
  mx_s_iload_n C d_M_where_19 rfl,
  mx_s_cv2 C (m_M_place l) rfl (cwV 2 C.2.2.2.2.1 (mx_gV (fun w h => List.mem_cons_of_mem _ h) mk_M_128 im_M_place se_M_place ic_M co_M_place) rfl rfl rfl (by decide +kernel) ⟨by decide, by decide⟩) d_M_where_20 ⟨Nat.zero_le _, Nat.zero_le _⟩,
  mx_s_goto C d_M_where_23 (by decide),
  mx_s_iconst C d_M_where_26 (by decide),
  mx_s_iret C hr hlk d_M_where_27,
  trivial⟩
set_option maxRecDepth 20000 in
set_option maxHeartbeats 2000000 in
theorem m_M_where (l : Launch) : mx_M l y_M_where w_M_where rm_M_where sp_M_where := by
  intro zD ztc ztb zad As F P sz0 h
  obtain ⟨th, sz, sp, wy, kp, sd, n, N, ch, lt, ml, g, w, k, rfl, h2, h3, hg, h0, hw, ho, hz⟩ := h
  refine mx_run (cc := c_M_where) (maxL := 3) (ret := (some .int)) (tab := t_M_where  P) (by decide) rfl zD ztc ztb zad _ F P sz0 (Nat.le_of_ble_eq_true rfl) (fun p e s m args below meth c C hr hlk => a_M_where  C hr hlk) ?_
  intro Rr go
  have hF := mx_as4 h2 h3 hg h0
  have hX := mx_as3 h2 h3 hg
  rw [hF]
  have hn := hw.1.1
  have z : (¬ ∃ j p, j < n ∧ w = nI j ∧ ¬ k < 0 ∧ p < 512 ∧ stA g (N j) (ch j) p ∧ nI (cnt (stA g (N j) (ch j)) p) = k) → Rr 26 (mx_en [mx_r 40, mx_i w, mx_i k] 3) [] (mx_put (mx_put (mx_put (mx_put F 42 (mx_ia 360 lt)) 43 (mx_ia 60 ml)) 51 (mx_ia 64 g)) 40 (e_M (nI 0) sz (nI n) sp wy kp sd)) 0 0 := by
    intro hc
    refine go rfl ?_
    refine go rfl ⟨_, rfl, rfl, rfl, ?_⟩
    rw [← hX]
    exact hz hc
  refine go rfl ⟨_, rfl, ?_⟩
  refine go rfl ?_
  refine go rfl ⟨_, _, _, _, rfl, rfl, (Nat.le_of_ble_eq_true rfl), ?_⟩
  rw [mx_pp]
  refine go rfl ⟨_, rfl, ?_⟩
  refine go rfl ⟨_, rfl, ?_⟩
  refine go rfl ⟨_, _, _, _, rfl, rfl, rfl, rfl, rfl, ⟨_, _, _, _, _, _, n, w, rfl, rfl, fun c => ?_, fun c => ?_⟩⟩
  · refine go rfl ⟨_, _, rfl, fun e => ?_, fun e => ?_⟩
    · refine z ?_
      rintro ⟨j, p, hj, rfl, _⟩
      rcases c with c | c
      · exact nI_pos (by omega) c
      · exact absurd ((nI_leI (by omega) (by omega)).mp c) (by omega)
    · exact absurd rfl e
  rcases pk_ix w (n := n) (by omega) with q | q | ⟨j, hj, rfl⟩
  · exact absurd (Or.inl q) c
  · exact absurd (Or.inr q) c
  refine go rfl ⟨_, _, rfl, fun e => ?_, fun e => ?_⟩
  · exact absurd e (by decide)
  refine go rfl ⟨_, rfl, ?_⟩
  refine go rfl ⟨_, _, rfl, fun c2 => ?_, fun c2 => ?_⟩
  · refine z ?_
    rintro ⟨j', p, hj', e1, hk, _⟩
    exact hk c2
  refine go rfl ⟨_, rfl, ?_⟩
  refine go rfl ⟨_, rfl, ?_⟩
  refine go rfl ⟨_, rfl, ?_⟩
  refine go rfl ⟨_, _, _, _, _, rfl, rfl, rfl, rfl, rfl, ⟨_, _, _, _, _, _, n, N, ch, lt, ml, g, j, k, rfl, rfl, rfl, rfl, rfl, hw, hj, fun p q1 q2 q3 q4 => ?_, fun h => ⟨fun h9 => absurd h9 c2, fun _ => ?_⟩⟩⟩
  · refine go rfl ?_
    refine go rfl ⟨_, rfl, rfl, rfl, ?_⟩
    rw [← hX]
    exact ho j p hj rfl c2 q1 q2 q3 q4
  · refine go rfl ?_
    refine go rfl ⟨_, rfl, rfl, rfl, ?_⟩
    rw [← hX]
    refine hz ?_
    rintro ⟨j', p, hj', e1, hk, hp, hs, hc⟩
    have e1 := (nI_eq (by omega) (by omega)).mp e1
    subst e1
    exact h p hp ⟨hs, hc⟩
-- LadderWordsModel.wipe()V
def sp_M_wipe : mx_Sp := fun As F P => ∃ (th sz mn sp : Int32) (wy : Int64) (kp sd : Int32) (g : Nat → Int32), As = [mx_r 40] ∧ F 51 = some (mx_ia 64 g) ∧ F 40 = some (e_M th sz mn sp wy kp sd) ∧ P none (mx_put (mx_put F 40 (e_M (nI 0) sz mn sp wy kp sd)) 51 (mx_ia 64 (clr g 64)))
theorem d_M_wipe_0 : decode c_M_wipe 0 = .ok (.aload_n 0, 1) := by decide +kernel
theorem d_M_wipe_1 : decode c_M_wipe 1 = .ok (.iconst 0, 1) := by decide +kernel
theorem d_M_wipe_2 : decode c_M_wipe 2 = .ok (.putfield 48, 3) := by decide +kernel
theorem d_M_wipe_5 : decode c_M_wipe 5 = .ok (.iconst 0, 1) := by decide +kernel
theorem d_M_wipe_6 : decode c_M_wipe 6 = .ok (.istore_n 1, 1) := by decide +kernel
theorem d_M_wipe_7 : decode c_M_wipe 7 = .ok (.iload_n 1, 1) := by decide +kernel
theorem d_M_wipe_8 : decode c_M_wipe 8 = .ok (.bipush 64, 2) := by decide +kernel
theorem d_M_wipe_10 : decode c_M_wipe 10 = .ok (.if_icmp .ge 16, 3) := by decide +kernel
theorem d_M_wipe_13 : decode c_M_wipe 13 = .ok (.aload_n 0, 1) := by decide +kernel
theorem d_M_wipe_14 : decode c_M_wipe 14 = .ok (.getfield 45, 3) := by decide +kernel
theorem d_M_wipe_17 : decode c_M_wipe 17 = .ok (.iload_n 1, 1) := by decide +kernel
theorem d_M_wipe_18 : decode c_M_wipe 18 = .ok (.iconst 0, 1) := by decide +kernel
theorem d_M_wipe_19 : decode c_M_wipe 19 = .ok (.iastore, 1) := by decide +kernel
theorem d_M_wipe_20 : decode c_M_wipe 20 = .ok (.iinc 1 1, 3) := by decide +kernel
theorem d_M_wipe_23 : decode c_M_wipe 23 = .ok (.goto (-16), 3) := by decide +kernel
theorem d_M_wipe_26 : decode c_M_wipe 26 = .ok (.return_, 1) := by decide +kernel
abbrev w_M_wipe : List Cond := mx_ws y_M_wipe c_M_wipe 2 none
abbrev rm_M_wipe : Room := { frames := 10, cells := 0, slots := 0, locals := 200 }
def t_M_wipe  (P : Option mx_V → mx_F → Prop) : List (Nat × mx_O) := [
  (0, mx_aload 0 1),
  (1, mx_push (.inl (nI 0)) 2),
  (2, mx_puti 7 0 5),
  (5, mx_push (.inl (nI 0)) 6),
  (6, mx_istore 1 7),
  (7, mx_iload 1 8),
  (8, mx_push (.inl (nI 64)) 10),
  (10, mx_ic_ge 26 13),
  (13, mx_aload 0 14),
  (14, mx_get 7 17 17),
  (17, mx_iload 1 18),
  (18, mx_push (.inl (nI 0)) 19),
  (19, mx_iast 20),
  (20, mx_iinc 1 (nI 1) 23),
  (23, mx_goto 7),
  (26, mx_ret P)]
set_option maxRecDepth 20000 in
theorem a_M_wipe  {p : Program} {l : Launch} {e : Env} {s : State} {m : MethodId} {args : Array Value} {below : List Frame} {meth : Method} {c : Code} {D : va_G} {tc : Nat → ClassId} {tb : Nat → Nat} {sz : Nat} {a0 : Nat → Nat} {G : mx_F} {P : Option mx_V → mx_F → Prop}  (C : mx_C p s m args c c_M_wipe y_M_wipe.cls w_M_wipe D tc tb (mx_A a0 G sz) 2 (mx_Ok0 a0 G)) (hr : meth.sig.returnType = none) (hlk : meth.locks = false) : mx_all (mx_W p l e rm_M_wipe s m args below meth c (MQ below (mx_Q D tc tb a0 G sz P) args s 0 0 (mx_A a0 G sz)) D tc tb (mx_A a0 G sz) 2 (mx_Ok0 a0 G)) (t_M_wipe  P) :=
  ⟨mx_s_aload_n C d_M_wipe_0 rfl,
  mx_s_iconst C d_M_wipe_1 (by decide),
  mx_s_puti (T := T_M) (N := 18) (k := 0) C (fun w h => List.mem_cons_of_mem _ (in_M w h)) rfl ty_M ok_M nm_M (by decide) (List.mem_cons_of_mem _ fk_M_48) rfl rfl (ok_M 0 (by decide)) d_M_wipe_2,
  mx_s_iconst C d_M_wipe_5 (by decide),
  mx_s_istore_n C d_M_wipe_6 rfl (by decide),
  mx_s_iload_n C d_M_wipe_7 rfl,
  mx_s_bipush C d_M_wipe_8 (by decide),
  mx_s_ic_ge C d_M_wipe_10 (by decide),
  mx_s_aload_n C d_M_wipe_13 rfl,
  mx_s_get (T := T_M) (N := 18) (k := 17) C (fun w h => List.mem_cons_of_mem _ (in_M w h)) rfl (by decide) (List.mem_cons_of_mem _ fk_M_45) rfl d_M_wipe_14,
  mx_s_iload_n C d_M_wipe_17 rfl,
  mx_s_iconst C d_M_wipe_18 (by decide),
  mx_s_iast C d_M_wipe_19,
  mx_s_iinc C d_M_wipe_20 (by decide) (by decide),
  mx_s_goto C d_M_wipe_23 (by decide),
  mx_s_ret C hr hlk d_M_wipe_26,
  trivial⟩
set_option maxRecDepth 20000 in
set_option maxHeartbeats 2000000 in
theorem m_M_wipe (l : Launch) : mx_M l y_M_wipe w_M_wipe rm_M_wipe sp_M_wipe := by
  intro zD ztc ztb zad As F P sz0 h
  obtain ⟨th, sz, mn, sp, wy, kp, sd, g, rfl, hg, h0, hp⟩ := h
  refine mx_run (cc := c_M_wipe) (maxL := 2) (ret := none) (tab := t_M_wipe  P) (by decide) rfl zD ztc ztb zad _ F P sz0 (Nat.le_of_ble_eq_true rfl) (fun p e s m args below meth c C hr hlk => a_M_wipe  C hr hlk) ?_
  intro Rr go
  have hF := mx_as2 hg h0
  rw [hF]
  have loop : ∀ (k i : Nat), i + k = 64 → Rr 7 [some (mx_r 40), some (mx_i (nI i))] [] (mx_put (mx_put F 40 (e_M (nI 0) sz mn sp wy kp sd)) 51 (mx_ia 64 (clr g i))) 0 0 := by
    intro k
    induction k with
    | zero =>
      intro i hi
      refine go rfl ⟨_, rfl, ?_⟩
      refine go rfl ?_
      refine go rfl ⟨_, _, _, rfl, fun c => ?_, fun c => ?_⟩
      · refine go rfl ⟨rfl, rfl, rfl, ?_⟩
        rw [show i = 64 by omega]
        exact hp
      · exact absurd (nI_le (by omega) (by omega)) c
    | succ k ih =>
      intro i hi
      refine go rfl ⟨_, rfl, ?_⟩
      refine go rfl ?_
      refine go rfl ⟨_, _, _, rfl, fun c => ?_, fun c => ?_⟩
      · exact absurd ((nI_leI (by omega) (by omega)).mp c) (by omega)
      refine go rfl ⟨_, rfl, ?_⟩
      refine go rfl ⟨_, _, _, _, rfl, rfl, rfl, ?_⟩
      refine go rfl ⟨_, rfl, ?_⟩
      refine go rfl ?_
      refine go rfl ⟨_, _, _, _, _, _, rfl, rfl, (vp_in_nI (show i < 64 by omega) (by omega)), ?_⟩
      rw [nI_clamp (by omega), mx_pp]
      refine go rfl ⟨_, rfl, ?_⟩
      refine go rfl ?_
      rw [nI_add]
      exact ih (i + 1) (by omega)
  refine go rfl ⟨_, rfl, ?_⟩
  refine go rfl ?_
  refine go rfl ⟨_, _, _, _, rfl, rfl, (Nat.le_of_ble_eq_true rfl), ?_⟩
  refine go rfl ?_
  refine go rfl ⟨_, _, rfl, ?_⟩
  rw [mx_pp, mx_pc _ _ _ (show (40 : Nat) ≠ 51 by decide)]
  exact loop 64 0 (by omega)
