-- LadderWordsModel.unit(I)Z
def sp_M_unit : mx_Sp := fun As F P => ∃ (th mn sp : Int32) (wy : Int64) (kp sd : Int32) (n : Nat) (f : Nat → Int32) (u : Int32), As = [mx_r 40, mx_i u] ∧ F 40 = some (e_M th (nI n) mn sp wy kp sd) ∧ F 41 = some (mx_ia 12 f) ∧ n ≤ 12 ∧ (uc n u → P (some (mx_i (nI 0))) (mx_put F 40 (e_M (nI 0) (nI n) mn sp wy kp sd))) ∧ (¬ uc n u → P (some (mx_i (nI 1))) (mx_put (mx_put (mx_put F 40 (e_M (nI 0) (nI n) mn sp wy kp sd)) 41 (mx_ia 12 (upd f n u))) 40 (e_M (nI 0) (nI (n + 1)) mn sp wy kp sd)))
theorem d_M_unit_0 : decode c_M_unit 0 = .ok (.aload_n 0, 1) := by decide +kernel
theorem d_M_unit_1 : decode c_M_unit 1 = .ok (.iconst 0, 1) := by decide +kernel
theorem d_M_unit_2 : decode c_M_unit 2 = .ok (.putfield 48, 3) := by decide +kernel
theorem d_M_unit_5 : decode c_M_unit 5 = .ok (.iload_n 1, 1) := by decide +kernel
theorem d_M_unit_6 : decode c_M_unit 6 = .ok (.bipush 97, 2) := by decide +kernel
theorem d_M_unit_8 : decode c_M_unit 8 = .ok (.if_icmp .lt 18, 3) := by decide +kernel
theorem d_M_unit_11 : decode c_M_unit 11 = .ok (.iload_n 1, 1) := by decide +kernel
theorem d_M_unit_12 : decode c_M_unit 12 = .ok (.bipush 122, 2) := by decide +kernel
theorem d_M_unit_14 : decode c_M_unit 14 = .ok (.if_icmp .gt 12, 3) := by decide +kernel
theorem d_M_unit_17 : decode c_M_unit 17 = .ok (.aload_n 0, 1) := by decide +kernel
theorem d_M_unit_18 : decode c_M_unit 18 = .ok (.getfield 54, 3) := by decide +kernel
theorem d_M_unit_21 : decode c_M_unit 21 = .ok (.bipush 12, 2) := by decide +kernel
theorem d_M_unit_23 : decode c_M_unit 23 = .ok (.if_icmp .ne 5, 3) := by decide +kernel
theorem d_M_unit_26 : decode c_M_unit 26 = .ok (.iconst 0, 1) := by decide +kernel
theorem d_M_unit_27 : decode c_M_unit 27 = .ok (.ireturn, 1) := by decide +kernel
theorem d_M_unit_28 : decode c_M_unit 28 = .ok (.aload_n 0, 1) := by decide +kernel
theorem d_M_unit_29 : decode c_M_unit 29 = .ok (.getfield 7, 3) := by decide +kernel
theorem d_M_unit_32 : decode c_M_unit 32 = .ok (.aload_n 0, 1) := by decide +kernel
theorem d_M_unit_33 : decode c_M_unit 33 = .ok (.getfield 54, 3) := by decide +kernel
theorem d_M_unit_36 : decode c_M_unit 36 = .ok (.iload_n 1, 1) := by decide +kernel
theorem d_M_unit_37 : decode c_M_unit 37 = .ok (.iastore, 1) := by decide +kernel
theorem d_M_unit_38 : decode c_M_unit 38 = .ok (.aload_n 0, 1) := by decide +kernel
theorem d_M_unit_39 : decode c_M_unit 39 = .ok (.dup, 1) := by decide +kernel
theorem d_M_unit_40 : decode c_M_unit 40 = .ok (.getfield 54, 3) := by decide +kernel
theorem d_M_unit_43 : decode c_M_unit 43 = .ok (.iconst 1, 1) := by decide +kernel
theorem d_M_unit_44 : decode c_M_unit 44 = .ok (.iadd, 1) := by decide +kernel
theorem d_M_unit_45 : decode c_M_unit 45 = .ok (.putfield 54, 3) := by decide +kernel
theorem d_M_unit_48 : decode c_M_unit 48 = .ok (.iconst 1, 1) := by decide +kernel
theorem d_M_unit_49 : decode c_M_unit 49 = .ok (.ireturn, 1) := by decide +kernel
abbrev w_M_unit : List Cond := mx_ws y_M_unit c_M_unit 2 (some .boolean)
abbrev rm_M_unit : Room := { frames := 10, cells := 0, slots := 0, locals := 200 }
def t_M_unit  (P : Option mx_V → mx_F → Prop) : List (Nat × mx_O) := [
  (0, mx_aload 0 1),
  (1, mx_push (.inl (nI 0)) 2),
  (2, mx_puti 7 0 5),
  (5, mx_iload 1 6),
  (6, mx_push (.inl (nI 97)) 8),
  (8, mx_ic_lt 26 11),
  (11, mx_iload 1 12),
  (12, mx_push (.inl (nI 122)) 14),
  (14, mx_ic_gt 26 17),
  (17, mx_aload 0 18),
  (18, mx_get 7 1 21),
  (21, mx_push (.inl (nI 12)) 23),
  (23, mx_ic_ne 28 26),
  (26, mx_push (.inl (nI 0)) 27),
  (27, mx_zret P),
  (28, mx_aload 0 29),
  (29, mx_get 7 2 32),
  (32, mx_aload 0 33),
  (33, mx_get 7 1 36),
  (36, mx_iload 1 37),
  (37, mx_iast 38),
  (38, mx_aload 0 39),
  (39, mx_dup 40),
  (40, mx_get 7 1 43),
  (43, mx_push (.inl (nI 1)) 44),
  (44, mx_iadd 45),
  (45, mx_puti 7 1 48),
  (48, mx_push (.inl (nI 1)) 49),
  (49, mx_zret P)]
set_option maxRecDepth 20000 in
theorem a_M_unit  {p : Program} {l : Launch} {e : Env} {s : State} {m : MethodId} {args : Array Value} {below : List Frame} {meth : Method} {c : Code} {D : va_G} {tc : Nat → ClassId} {tb : Nat → Nat} {sz : Nat} {a0 : Nat → Nat} {G : mx_F} {P : Option mx_V → mx_F → Prop}  (C : mx_C p s m args c c_M_unit y_M_unit.cls w_M_unit D tc tb (mx_A a0 G sz) 2 (mx_Ok0 a0 G)) (hr : meth.sig.returnType = (some .boolean)) (hlk : meth.locks = false) : mx_all (mx_W p l e rm_M_unit s m args below meth c (MQ below (mx_Q D tc tb a0 G sz P) args s 0 0 (mx_A a0 G sz)) D tc tb (mx_A a0 G sz) 2 (mx_Ok0 a0 G)) (t_M_unit  P) :=
  ⟨mx_s_aload_n C d_M_unit_0 rfl,
  mx_s_iconst C d_M_unit_1 (by decide),
  mx_s_puti (T := T_M) (N := 18) (k := 0) C (fun w h => List.mem_cons_of_mem _ (in_M w h)) rfl ty_M ok_M nm_M (by decide) (List.mem_cons_of_mem _ (mx_in0 (by decide +kernel) rfl)) rfl rfl (ok_M 0 (by decide)) d_M_unit_2,
  mx_s_iload_n C d_M_unit_5 rfl,
  mx_s_bipush C d_M_unit_6 (by decide),
  mx_s_ic_lt C d_M_unit_8 (by decide),
  mx_s_iload_n C d_M_unit_11 rfl,
  mx_s_bipush C d_M_unit_12 (by decide),
  mx_s_ic_gt C d_M_unit_14 (by decide),
  mx_s_aload_n C d_M_unit_17 rfl,
  mx_s_get (T := T_M) (N := 18) (k := 1) C (fun w h => List.mem_cons_of_mem _ (in_M w h)) rfl (by decide) (List.mem_cons_of_mem _ (mx_in0 (by decide +kernel) rfl)) rfl d_M_unit_18,
  mx_s_bipush C d_M_unit_21 (by decide),
  mx_s_ic_ne C d_M_unit_23 (by decide),
  mx_s_iconst C d_M_unit_26 (by decide),
  mx_s_zret C hr hlk d_M_unit_27,
  mx_s_aload_n C d_M_unit_28 rfl,
  mx_s_get (T := T_M) (N := 18) (k := 2) C (fun w h => List.mem_cons_of_mem _ (in_M w h)) rfl (by decide) (List.mem_cons_of_mem _ (mx_in0 (by decide +kernel) rfl)) rfl d_M_unit_29,
  mx_s_aload_n C d_M_unit_32 rfl,
  mx_s_get (T := T_M) (N := 18) (k := 1) C (fun w h => List.mem_cons_of_mem _ (in_M w h)) rfl (by decide) (List.mem_cons_of_mem _ (mx_in0 (by decide +kernel) rfl)) rfl d_M_unit_33,
  mx_s_iload_n C d_M_unit_36 rfl,
  mx_s_iast C d_M_unit_37,
  mx_s_aload_n C d_M_unit_38 rfl,
  mx_s_dup C d_M_unit_39,
  mx_s_get (T := T_M) (N := 18) (k := 1) C (fun w h => List.mem_cons_of_mem _ (in_M w h)) rfl (by decide) (List.mem_cons_of_mem _ (mx_in0 (by decide +kernel) rfl)) rfl d_M_unit_40,
  mx_s_iconst C d_M_unit_43 (by decide),
  mx_s_iadd C d_M_unit_44,
  mx_s_puti (T := T_M) (N := 18) (k := 1) C (fun w h => List.mem_cons_of_mem _ (in_M w h)) rfl ty_M ok_M nm_M (by decide) (List.mem_cons_of_mem _ (mx_in0 (by decide +kernel) rfl)) rfl rfl (ok_M 1 (by decide)) d_M_unit_45,
  mx_s_iconst C d_M_unit_48 (by decide),
  mx_s_zret C hr hlk d_M_unit_49,
  trivial⟩
set_option maxRecDepth 20000 in
set_option maxHeartbeats 2000000 in
theorem m_M_unit (l : Launch) : mx_M l y_M_unit w_M_unit rm_M_unit sp_M_unit := by
  intro D tc tb ad As F P sz0 h
  obtain ⟨th, mn, sp, wy, kp, sd, n, f, u, rfl, h1, h2, hn, hz, ho⟩ := h
  refine mx_run (cc := c_M_unit) (maxL := 2) (ret := (some .boolean)) (tab := t_M_unit  P) (by decide) rfl D tc tb ad _ F P sz0 (Nat.le_of_ble_eq_true rfl) (fun p e s m args below meth c C hr hlk => a_M_unit  C hr hlk) ?_
  intro Rr go
  have hF := mx_as2 h1 h2
  rw [hF]
  have z : uc n u → Rr 26 [some (mx_r 40), some (mx_i u)] [] (mx_put (mx_put (mx_put F 40 (e_M th (nI n) mn sp wy kp sd)) 41 (mx_ia 12 f)) 40 (e_M (nI 0) (nI n) mn sp wy kp sd)) 0 0 := by
    intro hc
    refine go rfl ?_
    refine go rfl ⟨_, rfl, rfl, rfl, (Or.inl rfl), ?_⟩
    rw [← hF]
    exact hz hc
  refine go rfl ⟨_, rfl, ?_⟩
  refine go rfl ?_
  refine go rfl ⟨_, _, _, _, rfl, rfl, (Nat.le_of_ble_eq_true rfl), ?_⟩
  refine go rfl ⟨_, rfl, ?_⟩
  refine go rfl ?_
  refine go rfl ⟨_, _, _, rfl, fun c1 => ?_, fun c1 => ?_⟩
  · exact z (Or.inl c1)
  refine go rfl ⟨_, rfl, ?_⟩
  refine go rfl ?_
  refine go rfl ⟨_, _, _, rfl, fun c2 => ?_, fun c2 => ?_⟩
  · exact z (Or.inr (Or.inl c2))
  refine go rfl ⟨_, rfl, ?_⟩
  refine go rfl ⟨_, _, _, _, rfl, rfl, rfl, ?_⟩
  refine go rfl ?_
  refine go rfl ⟨_, _, _, rfl, fun c3 => ?_, fun c3 => ?_⟩
  · have hlt : n < 12 := by
      rcases Nat.lt_or_ge n 12 with q | q
      · exact q
      · exact absurd (by rw [show n = 12 by omega]) c3
    refine go rfl ⟨_, rfl, ?_⟩
    refine go rfl ⟨_, _, _, _, rfl, rfl, rfl, ?_⟩
    refine go rfl ⟨_, rfl, ?_⟩
    refine go rfl ⟨_, _, _, _, rfl, rfl, rfl, ?_⟩
    refine go rfl ⟨_, rfl, ?_⟩
    refine go rfl ⟨_, _, _, _, _, _, rfl, rfl, (vp_in_nI hlt (by omega)), ?_⟩
    rw [nI_clamp (by omega)]
    refine go rfl ⟨_, rfl, ?_⟩
    refine go rfl ⟨_, _, rfl, rfl, ?_⟩
    refine go rfl ⟨_, _, _, _, rfl, rfl, rfl, ?_⟩
    refine go rfl ?_
    refine go rfl ⟨_, _, _, rfl, ?_⟩
    rw [nI_add]
    refine go rfl ⟨_, _, _, _, rfl, rfl, (Nat.le_of_ble_eq_true rfl), ?_⟩
    refine go rfl ?_
    refine go rfl ⟨_, rfl, rfl, rfl, (Or.inr rfl), ?_⟩
    rw [← hF]
    refine ho (fun hc => ?_)
    rcases hc with hc | hc | hc
    · exact c1 hc
    · exact c2 hc
    · exact absurd ((nI_leI (by omega) (by omega)).mp hc) (by omega)
  · exact z (Or.inr (Or.inr (by rw [c3]; decide)))
-- LadderWordsModel.isWord(I)Z
def sp_M_isWord : mx_Sp := fun As F P => ∃ (th sz sp : Int32) (wy : Int64) (kp sd : Int32) (n : Nat) (w : Int32), As = [mx_r 40, mx_i w] ∧ F 40 = some (e_M th sz (nI n) sp wy kp sd) ∧ ((w < 0 ∨ nI n ≤ w) → P (some (mx_i (nI 0))) F) ∧ (¬ (w < 0 ∨ nI n ≤ w) → P (some (mx_i (nI 1))) F)
theorem d_M_isWord_0 : decode c_M_isWord 0 = .ok (.iload_n 1, 1) := by decide +kernel
theorem d_M_isWord_1 : decode c_M_isWord 1 = .ok (.ifCond .lt 15, 3) := by decide +kernel
theorem d_M_isWord_4 : decode c_M_isWord 4 = .ok (.iload_n 1, 1) := by decide +kernel
theorem d_M_isWord_5 : decode c_M_isWord 5 = .ok (.aload_n 0, 1) := by decide +kernel
theorem d_M_isWord_6 : decode c_M_isWord 6 = .ok (.getfield 51, 3) := by decide +kernel
theorem d_M_isWord_9 : decode c_M_isWord 9 = .ok (.if_icmp .ge 7, 3) := by decide +kernel
theorem d_M_isWord_12 : decode c_M_isWord 12 = .ok (.iconst 1, 1) := by decide +kernel
theorem d_M_isWord_13 : decode c_M_isWord 13 = .ok (.goto 4, 3) := by decide +kernel
theorem d_M_isWord_16 : decode c_M_isWord 16 = .ok (.iconst 0, 1) := by decide +kernel
theorem d_M_isWord_17 : decode c_M_isWord 17 = .ok (.ireturn, 1) := by decide +kernel
abbrev w_M_isWord : List Cond := mx_ws y_M_isWord c_M_isWord 2 (some .boolean)
abbrev rm_M_isWord : Room := { frames := 10, cells := 0, slots := 0, locals := 200 }
def t_M_isWord  (P : Option mx_V → mx_F → Prop) : List (Nat × mx_O) := [
  (0, mx_iload 1 1),
  (1, mx_if_lt 16 4),
  (4, mx_iload 1 5),
  (5, mx_aload 0 6),
  (6, mx_get 7 3 9),
  (9, mx_ic_ge 16 12),
  (12, mx_push (.inl (nI 1)) 13),
  (13, mx_goto 17),
  (16, mx_push (.inl (nI 0)) 17),
  (17, mx_zret P)]
set_option maxRecDepth 20000 in
theorem a_M_isWord  {p : Program} {l : Launch} {e : Env} {s : State} {m : MethodId} {args : Array Value} {below : List Frame} {meth : Method} {c : Code} {D : va_G} {tc : Nat → ClassId} {tb : Nat → Nat} {sz : Nat} {a0 : Nat → Nat} {G : mx_F} {P : Option mx_V → mx_F → Prop}  (C : mx_C p s m args c c_M_isWord y_M_isWord.cls w_M_isWord D tc tb (mx_A a0 G sz) 2 (mx_Ok0 a0 G)) (hr : meth.sig.returnType = (some .boolean)) (hlk : meth.locks = false) : mx_all (mx_W p l e rm_M_isWord s m args below meth c (MQ below (mx_Q D tc tb a0 G sz P) args s 0 0 (mx_A a0 G sz)) D tc tb (mx_A a0 G sz) 2 (mx_Ok0 a0 G)) (t_M_isWord  P) :=
  ⟨mx_s_iload_n C d_M_isWord_0 rfl,
  mx_s_if_lt C d_M_isWord_1 (by decide),
  mx_s_iload_n C d_M_isWord_4 rfl,
  mx_s_aload_n C d_M_isWord_5 rfl,
  mx_s_get (T := T_M) (N := 18) (k := 3) C (fun w h => List.mem_cons_of_mem _ (in_M w h)) rfl (by decide) (List.mem_cons_of_mem _ (mx_in0 (by decide +kernel) rfl)) rfl d_M_isWord_6,
  mx_s_ic_ge C d_M_isWord_9 (by decide),
  mx_s_iconst C d_M_isWord_12 (by decide),
  mx_s_goto C d_M_isWord_13 (by decide),
  mx_s_iconst C d_M_isWord_16 (by decide),
  mx_s_zret C hr hlk d_M_isWord_17,
  trivial⟩
set_option maxRecDepth 20000 in
set_option maxHeartbeats 2000000 in
theorem m_M_isWord (l : Launch) : mx_M l y_M_isWord w_M_isWord rm_M_isWord sp_M_isWord := by
  intro D tc tb ad As F P sz0 h
  obtain ⟨th, sz, sp, wy, kp, sd, n, w, rfl, h1, hz, ho⟩ := h
  refine mx_run (cc := c_M_isWord) (maxL := 2) (ret := (some .boolean)) (tab := t_M_isWord  P) (by decide) rfl D tc tb ad _ F P sz0 (Nat.le_of_ble_eq_true rfl) (fun p e s m args below meth c C hr hlk => a_M_isWord  C hr hlk) ?_
  intro Rr go
  have hF := mx_as1 h1
  rw [hF]
  refine go rfl ⟨_, rfl, ?_⟩
  refine go rfl ⟨_, _, rfl, fun c1 => ?_, fun c1 => ?_⟩
  · refine go rfl ?_
    refine go rfl ⟨_, rfl, rfl, rfl, (Or.inl rfl), ?_⟩
    rw [← hF]
    exact hz (Or.inl c1)
  refine go rfl ⟨_, rfl, ?_⟩
  refine go rfl ⟨_, rfl, ?_⟩
  refine go rfl ⟨_, _, _, _, rfl, rfl, rfl, ?_⟩
  refine go rfl ⟨_, _, _, rfl, fun c2 => ?_, fun c2 => ?_⟩
  · refine go rfl ?_
    refine go rfl ⟨_, rfl, rfl, rfl, (Or.inl rfl), ?_⟩
    rw [← hF]
    exact hz (Or.inr c2)
  refine go rfl ?_
  refine go rfl ?_
  refine go rfl ⟨_, rfl, rfl, rfl, (Or.inr rfl), ?_⟩
  rw [← hF]
  exact ho (fun h => h.elim c1 c2)
-- LadderWordsModel.isCell(II)Z
def sp_M_isCell : mx_Sp := fun As F P => ∃ x y : Int32, As = [mx_i x, mx_i y] ∧ (ins x y → P (some (mx_i (nI 1))) F) ∧ (¬ ins x y → P (some (mx_i (nI 0))) F)
theorem d_M_isCell_0 : decode c_M_isCell 0 = .ok (.iload_n 0, 1) := by decide +kernel
theorem d_M_isCell_1 : decode c_M_isCell 1 = .ok (.ifCond .lt 23, 3) := by decide +kernel
theorem d_M_isCell_4 : decode c_M_isCell 4 = .ok (.iload_n 0, 1) := by decide +kernel
theorem d_M_isCell_5 : decode c_M_isCell 5 = .ok (.bipush 8, 2) := by decide +kernel
theorem d_M_isCell_7 : decode c_M_isCell 7 = .ok (.if_icmp .ge 17, 3) := by decide +kernel
theorem d_M_isCell_10 : decode c_M_isCell 10 = .ok (.iload_n 1, 1) := by decide +kernel
theorem d_M_isCell_11 : decode c_M_isCell 11 = .ok (.ifCond .lt 13, 3) := by decide +kernel
theorem d_M_isCell_14 : decode c_M_isCell 14 = .ok (.iload_n 1, 1) := by decide +kernel
theorem d_M_isCell_15 : decode c_M_isCell 15 = .ok (.bipush 8, 2) := by decide +kernel
theorem d_M_isCell_17 : decode c_M_isCell 17 = .ok (.if_icmp .ge 7, 3) := by decide +kernel
theorem d_M_isCell_20 : decode c_M_isCell 20 = .ok (.iconst 1, 1) := by decide +kernel
theorem d_M_isCell_21 : decode c_M_isCell 21 = .ok (.goto 4, 3) := by decide +kernel
theorem d_M_isCell_24 : decode c_M_isCell 24 = .ok (.iconst 0, 1) := by decide +kernel
theorem d_M_isCell_25 : decode c_M_isCell 25 = .ok (.ireturn, 1) := by decide +kernel
abbrev w_M_isCell : List Cond := mx_ws y_M_isCell c_M_isCell 2 (some .boolean)
abbrev rm_M_isCell : Room := { frames := 10, cells := 0, slots := 0, locals := 200 }
def t_M_isCell  (P : Option mx_V → mx_F → Prop) : List (Nat × mx_O) := [
  (0, mx_iload 0 1),
  (1, mx_if_lt 24 4),
  (4, mx_iload 0 5),
  (5, mx_push (.inl (nI 8)) 7),
  (7, mx_ic_ge 24 10),
  (10, mx_iload 1 11),
  (11, mx_if_lt 24 14),
  (14, mx_iload 1 15),
  (15, mx_push (.inl (nI 8)) 17),
  (17, mx_ic_ge 24 20),
  (20, mx_push (.inl (nI 1)) 21),
  (21, mx_goto 25),
  (24, mx_push (.inl (nI 0)) 25),
  (25, mx_zret P)]
set_option maxRecDepth 20000 in
theorem a_M_isCell  {p : Program} {l : Launch} {e : Env} {s : State} {m : MethodId} {args : Array Value} {below : List Frame} {meth : Method} {c : Code} {D : va_G} {tc : Nat → ClassId} {tb : Nat → Nat} {sz : Nat} {a0 : Nat → Nat} {G : mx_F} {P : Option mx_V → mx_F → Prop}  (C : mx_C p s m args c c_M_isCell y_M_isCell.cls w_M_isCell D tc tb (mx_A a0 G sz) 2 (mx_Ok0 a0 G)) (hr : meth.sig.returnType = (some .boolean)) (hlk : meth.locks = false) : mx_all (mx_W p l e rm_M_isCell s m args below meth c (MQ below (mx_Q D tc tb a0 G sz P) args s 0 0 (mx_A a0 G sz)) D tc tb (mx_A a0 G sz) 2 (mx_Ok0 a0 G)) (t_M_isCell  P) :=
  ⟨mx_s_iload_n C d_M_isCell_0 rfl,
  mx_s_if_lt C d_M_isCell_1 (by decide),
  mx_s_iload_n C d_M_isCell_4 rfl,
  mx_s_bipush C d_M_isCell_5 (by decide),
  mx_s_ic_ge C d_M_isCell_7 (by decide),
  mx_s_iload_n C d_M_isCell_10 rfl,
  mx_s_if_lt C d_M_isCell_11 (by decide),
  mx_s_iload_n C d_M_isCell_14 rfl,
  mx_s_bipush C d_M_isCell_15 (by decide),
  mx_s_ic_ge C d_M_isCell_17 (by decide),
  mx_s_iconst C d_M_isCell_20 (by decide),
  mx_s_goto C d_M_isCell_21 (by decide),
  mx_s_iconst C d_M_isCell_24 (by decide),
  mx_s_zret C hr hlk d_M_isCell_25,
  trivial⟩
set_option maxRecDepth 20000 in
set_option maxHeartbeats 2000000 in
theorem m_M_isCell (l : Launch) : mx_M l y_M_isCell w_M_isCell rm_M_isCell sp_M_isCell := by
  intro D tc tb ad As F P sz0 h
  obtain ⟨x, y, rfl, ho, hz⟩ := h
  refine mx_run (cc := c_M_isCell) (maxL := 2) (ret := (some .boolean)) (tab := t_M_isCell  P) (by decide) rfl D tc tb ad _ F P sz0 (Nat.le_of_ble_eq_true rfl) (fun p e s m args below meth c C hr hlk => a_M_isCell  C hr hlk) ?_
  intro Rr go
  have z : ¬ ins x y → Rr 24 [some (mx_i x), some (mx_i y)] [] F 0 0 := by
    intro hc
    refine go rfl ?_
    refine go rfl ⟨_, rfl, rfl, rfl, (Or.inl rfl), ?_⟩
    exact hz hc
  refine go rfl ⟨_, rfl, ?_⟩
  refine go rfl ⟨_, _, rfl, fun c1 => ?_, fun c1 => ?_⟩
  · exact z (fun h => h (Or.inl c1))
  refine go rfl ⟨_, rfl, ?_⟩
  refine go rfl ?_
  refine go rfl ⟨_, _, _, rfl, fun c2 => ?_, fun c2 => ?_⟩
  · exact z (fun h => h (Or.inr (Or.inl c2)))
  refine go rfl ⟨_, rfl, ?_⟩
  refine go rfl ⟨_, _, rfl, fun c3 => ?_, fun c3 => ?_⟩
  · exact z (fun h => h (Or.inr (Or.inr (Or.inl c3))))
  refine go rfl ⟨_, rfl, ?_⟩
  refine go rfl ?_
  refine go rfl ⟨_, _, _, rfl, fun c4 => ?_, fun c4 => ?_⟩
  · exact z (fun h => h (Or.inr (Or.inr (Or.inr c4))))
  refine go rfl ?_
  refine go rfl ?_
  refine go rfl ⟨_, rfl, rfl, rfl, (Or.inr rfl), ?_⟩
  refine ho (fun h => ?_)
  rcases h with h | h | h | h
  · exact c1 h
  · exact c2 h
  · exact c3 h
  · exact c4 h
-- LadderWordsModel.enter()I
/-- the row is empty -/
def sp_M_enter : mx_Sp := fun As F P => ∃ (th mn sp : Int32) (wy : Int64) (kp sd : Int32), As = [mx_r 40] ∧ F 40 = some (e_M th (nI 0) mn sp wy kp sd) ∧ P (some (mx_i (-1))) F
theorem d_M_enter_0 : decode c_M_enter 0 = .ok (.aload_n 0, 1) := by decide +kernel
theorem d_M_enter_1 : decode c_M_enter 1 = .ok (.getfield 54, 3) := by decide +kernel
theorem d_M_enter_4 : decode c_M_enter 4 = .ok (.ifCond .eq 12, 3) := by decide +kernel
theorem d_M_enter_16 : decode c_M_enter 16 = .ok (.iconst (-1), 1) := by decide +kernel
theorem d_M_enter_17 : decode c_M_enter 17 = .ok (.ireturn, 1) := by decide +kernel
abbrev w_M_enter : List Cond := mx_ws y_M_enter c_M_enter 2 (some .int)
abbrev rm_M_enter : Room := { frames := 30, cells := 0, slots := 0, locals := 600 }
def t_M_enter  (P : Option mx_V → mx_F → Prop) : List (Nat × mx_O) := [
  (0, mx_aload 0 1),
  (1, mx_get 7 1 4),
  (4, mx_if_eq 16 7),
  (16, mx_push (.inl (-1)) 17),
  (17, mx_iret P)]
set_option maxRecDepth 20000 in
theorem a_M_enter  {p : Program} {l : Launch} {e : Env} {s : State} {m : MethodId} {args : Array Value} {below : List Frame} {meth : Method} {c : Code} {D : va_G} {tc : Nat → ClassId} {tb : Nat → Nat} {sz : Nat} {a0 : Nat → Nat} {G : mx_F} {P : Option mx_V → mx_F → Prop}  (C : mx_C p s m args c c_M_enter y_M_enter.cls w_M_enter D tc tb (mx_A a0 G sz) 2 (mx_Ok0 a0 G)) (hr : meth.sig.returnType = (some .int)) (hlk : meth.locks = false) : mx_all (mx_W p l e rm_M_enter s m args below meth c (MQ below (mx_Q D tc tb a0 G sz P) args s 0 0 (mx_A a0 G sz)) D tc tb (mx_A a0 G sz) 2 (mx_Ok0 a0 G)) (t_M_enter  P) :=
  ⟨mx_s_aload_n C d_M_enter_0 rfl,
  mx_s_get (T := T_M) (N := 18) (k := 1) C (fun w h => List.mem_cons_of_mem _ (in_M w h)) rfl (by decide) (List.mem_cons_of_mem _ (mx_in0 (by decide +kernel) rfl)) rfl d_M_enter_1,
  mx_s_if_eq C d_M_enter_4 (by decide),
  mx_s_iconst C d_M_enter_16 (by decide),
  mx_s_iret C hr hlk d_M_enter_17,
  trivial⟩
set_option maxRecDepth 20000 in
set_option maxHeartbeats 2000000 in
theorem m_M_enter (l : Launch) : mx_M l y_M_enter w_M_enter rm_M_enter sp_M_enter := by
  intro D tc tb ad As F P sz0 h
  obtain ⟨th, mn, sp, wy, kp, sd, rfl, h1, hp⟩ := h
  refine mx_run (cc := c_M_enter) (maxL := 2) (ret := (some .int)) (tab := t_M_enter  P) (by decide) rfl D tc tb ad _ F P sz0 (Nat.le_of_ble_eq_true rfl) (fun p e s m args below meth c C hr hlk => a_M_enter  C hr hlk) ?_
  intro Rr go
  have hF := mx_as1 h1
  rw [hF]
  refine go rfl ⟨_, rfl, ?_⟩
  refine go rfl ⟨_, _, _, _, rfl, rfl, rfl, ?_⟩
  refine go rfl ⟨_, _, rfl, fun c => ?_, fun c => ?_⟩
  · refine go rfl ?_
    refine go rfl ⟨_, rfl, rfl, rfl, ?_⟩
    rw [← hF]
    exact hp
  · exact absurd rfl c
-- LadderWordsModel.word()I
def sp_M_word : mx_Sp := fun As F P => ∃ (th mn sp : Int32) (wy : Int64) (kp sd : Int32), As = [mx_r 40] ∧ F 40 = some (e_M th (nI 0) mn sp wy kp sd) ∧ ∀ x, P (some (mx_i (-1))) (mx_put F 40 x)
theorem d_M_word_0 : decode c_M_word 0 = .ok (.aload_n 0, 1) := by decide +kernel
theorem d_M_word_1 : decode c_M_word 1 = .ok (.iconst 0, 1) := by decide +kernel
theorem d_M_word_2 : decode c_M_word 2 = .ok (.putfield 48, 3) := by decide +kernel
theorem d_M_word_5 : decode c_M_word 5 = .ok (.aload_n 0, 1) := by decide +kernel
theorem d_M_word_6 : decode c_M_word 6 = .ok (.invokevirtual 71, 3) := by decide +kernel
theorem d_M_word_9 : decode c_M_word 9 = .ok (.istore_n 1, 1) := by decide +kernel
theorem d_M_word_10 : decode c_M_word 10 = .ok (.aload_n 0, 1) := by decide +kernel
theorem d_M_word_11 : decode c_M_word 11 = .ok (.iconst 0, 1) := by decide +kernel
theorem d_M_word_12 : decode c_M_word 12 = .ok (.putfield 54, 3) := by decide +kernel
theorem d_M_word_15 : decode c_M_word 15 = .ok (.iload_n 1, 1) := by decide +kernel
theorem d_M_word_16 : decode c_M_word 16 = .ok (.ireturn, 1) := by decide +kernel
abbrev w_M_word : List Cond := mx_ws y_M_word c_M_word 2 (some .int)
abbrev rm_M_word : Room := { frames := 40, cells := 0, slots := 0, locals := 800 }
def t_M_word  (P : Option mx_V → mx_F → Prop) : List (Nat × mx_O) := [
  (0, mx_aload 0 1),
  (1, mx_push (.inl (nI 0)) 2),
  (2, mx_puti 7 0 5),
  (5, mx_aload 0 6),
  (6, mx_cv0 7 sp_M_enter 0 0 9),
  (9, mx_istore 1 10),
  (10, mx_aload 0 11),
  (11, mx_push (.inl (nI 0)) 12),
  (12, mx_puti 7 1 15),
  (15, mx_iload 1 16),
  (16, mx_iret P)]
set_option maxRecDepth 20000 in
theorem a_M_word  {p : Program} {l : Launch} {e : Env} {s : State} {m : MethodId} {args : Array Value} {below : List Frame} {meth : Method} {c : Code} {D : va_G} {tc : Nat → ClassId} {tb : Nat → Nat} {sz : Nat} {a0 : Nat → Nat} {G : mx_F} {P : Option mx_V → mx_F → Prop}  (C : mx_C p s m args c c_M_word y_M_word.cls w_M_word D tc tb (mx_A a0 G sz) 2 (mx_Ok0 a0 G)) (hr : meth.sig.returnType = (some .int)) (hlk : meth.locks = false) : mx_all (mx_W p l e rm_M_word s m args below meth c (MQ below (mx_Q D tc tb a0 G sz P) args s 0 0 (mx_A a0 G sz)) D tc tb (mx_A a0 G sz) 2 (mx_Ok0 a0 G)) (t_M_word  P) :=
  ⟨mx_s_aload_n C d_M_word_0 rfl,
  mx_s_iconst C d_M_word_1 (by decide),
  mx_s_puti (T := T_M) (N := 18) (k := 0) C (fun w h => List.mem_cons_of_mem _ (in_M w h)) rfl ty_M ok_M nm_M (by decide) (List.mem_cons_of_mem _ (mx_in0 (by decide +kernel) rfl)) rfl rfl (ok_M 0 (by decide)) d_M_word_2,
  mx_s_aload_n C d_M_word_5 rfl,
  mx_s_cv0 C (m_M_enter l) rfl (cwV 0 C.2.2.2.2.1 (mx_gV (fun w h => List.mem_cons_of_mem _ h) (mx_in0 (by decide +kernel) rfl) (mx_in0 (by decide +kernel) rfl) (mx_in0 (by decide +kernel) rfl) (mx_in0 (by decide +kernel) rfl) (mx_in0 (by decide +kernel) rfl)) rfl rfl rfl (by decide +kernel) ⟨by decide, by decide⟩) d_M_word_6 ⟨Nat.zero_le _, Nat.zero_le _⟩,
  mx_s_istore_n C d_M_word_9 rfl (by decide),
  mx_s_aload_n C d_M_word_10 rfl,
  mx_s_iconst C d_M_word_11 (by decide),
  mx_s_puti (T := T_M) (N := 18) (k := 1) C (fun w h => List.mem_cons_of_mem _ (in_M w h)) rfl ty_M ok_M nm_M (by decide) (List.mem_cons_of_mem _ (mx_in0 (by decide +kernel) rfl)) rfl rfl (ok_M 1 (by decide)) d_M_word_12,
  mx_s_iload_n C d_M_word_15 rfl,
  mx_s_iret C hr hlk d_M_word_16,
  trivial⟩
set_option maxRecDepth 20000 in
set_option maxHeartbeats 2000000 in
theorem m_M_word (l : Launch) : mx_M l y_M_word w_M_word rm_M_word sp_M_word := by
  intro D tc tb ad As F P sz0 h
  obtain ⟨th, mn, sp, wy, kp, sd, rfl, h1, hp⟩ := h
  refine mx_run (cc := c_M_word) (maxL := 2) (ret := (some .int)) (tab := t_M_word  P) (by decide) rfl D tc tb ad _ F P sz0 (Nat.le_of_ble_eq_true rfl) (fun p e s m args below meth c C hr hlk => a_M_word  C hr hlk) ?_
  intro Rr go
  have hF := mx_as1 h1
  rw [hF]
  refine go rfl ⟨_, rfl, ?_⟩
  refine go rfl ?_
  refine go rfl ⟨_, _, _, _, rfl, rfl, (Nat.le_of_ble_eq_true rfl), ?_⟩
  refine go rfl ⟨_, rfl, ?_⟩
  refine go rfl ⟨_, _, _, rfl, rfl, rfl, rfl, rfl, ⟨_, _, _, _, _, _, rfl, rfl, ?_⟩⟩
  refine go rfl ⟨_, _, rfl, ?_⟩
  refine go rfl ⟨_, rfl, ?_⟩
  refine go rfl ?_
  refine go rfl ⟨_, _, _, _, rfl, rfl, (Nat.le_of_ble_eq_true rfl), ?_⟩
  refine go rfl ⟨_, rfl, ?_⟩
  refine go rfl ⟨_, rfl, rfl, rfl, ?_⟩
  rw [← hF]
  simp only [mx_pp]
  exact hp _
-- LadderWordsModel.letter(II)I
/-- without words -/
def sp_M_letter : mx_Sp := fun As F P => ∃ (th sz sp : Int32) (wy : Int64) (kp sd : Int32) (w i : Int32), As = [mx_r 40, mx_i w, mx_i i] ∧ F 40 = some (e_M th sz (nI 0) sp wy kp sd) ∧ ∀ x, P (some (mx_i (-1))) (mx_put F 40 x)
theorem d_M_letter_0 : decode c_M_letter 0 = .ok (.aload_n 0, 1) := by decide +kernel
theorem d_M_letter_1 : decode c_M_letter 1 = .ok (.iconst 0, 1) := by decide +kernel
theorem d_M_letter_2 : decode c_M_letter 2 = .ok (.putfield 48, 3) := by decide +kernel
theorem d_M_letter_5 : decode c_M_letter 5 = .ok (.aload_n 0, 1) := by decide +kernel
theorem d_M_letter_6 : decode c_M_letter 6 = .ok (.iload_n 1, 1) := by decide +kernel
theorem d_M_letter_7 : decode c_M_letter 7 = .ok (.invokevirtual 75, 3) := by decide +kernel
theorem d_M_letter_10 : decode c_M_letter 10 = .ok (.ifCond .eq 26, 3) := by decide +kernel
theorem d_M_letter_36 : decode c_M_letter 36 = .ok (.iconst (-1), 1) := by decide +kernel
theorem d_M_letter_37 : decode c_M_letter 37 = .ok (.ireturn, 1) := by decide +kernel
abbrev w_M_letter : List Cond := mx_ws y_M_letter c_M_letter 3 (some .int)
abbrev rm_M_letter : Room := { frames := 20, cells := 0, slots := 0, locals := 400 }
def t_M_letter  (P : Option mx_V → mx_F → Prop) : List (Nat × mx_O) := [
  (0, mx_aload 0 1),
  (1, mx_push (.inl (nI 0)) 2),
  (2, mx_puti 7 0 5),
  (5, mx_aload 0 6),
  (6, mx_iload 1 7),
  (7, mx_cv1 7 sp_M_isWord 0 0 10),
  (10, mx_if_eq 36 13),
  (36, mx_push (.inl (-1)) 37),
  (37, mx_iret P)]
set_option maxRecDepth 20000 in
theorem a_M_letter  {p : Program} {l : Launch} {e : Env} {s : State} {m : MethodId} {args : Array Value} {below : List Frame} {meth : Method} {c : Code} {D : va_G} {tc : Nat → ClassId} {tb : Nat → Nat} {sz : Nat} {a0 : Nat → Nat} {G : mx_F} {P : Option mx_V → mx_F → Prop}  (C : mx_C p s m args c c_M_letter y_M_letter.cls w_M_letter D tc tb (mx_A a0 G sz) 3 (mx_Ok0 a0 G)) (hr : meth.sig.returnType = (some .int)) (hlk : meth.locks = false) : mx_all (mx_W p l e rm_M_letter s m args below meth c (MQ below (mx_Q D tc tb a0 G sz P) args s 0 0 (mx_A a0 G sz)) D tc tb (mx_A a0 G sz) 3 (mx_Ok0 a0 G)) (t_M_letter  P) :=
  ⟨mx_s_aload_n C d_M_letter_0 rfl,
  mx_s_iconst C d_M_letter_1 (by decide),
  mx_s_puti (T := T_M) (N := 18) (k := 0) C (fun w h => List.mem_cons_of_mem _ (in_M w h)) rfl ty_M ok_M nm_M (by decide) (List.mem_cons_of_mem _ (mx_in0 (by decide +kernel) rfl)) rfl rfl (ok_M 0 (by decide)) d_M_letter_2,
  mx_s_aload_n C d_M_letter_5 rfl,
  mx_s_iload_n C d_M_letter_6 rfl,
  mx_s_cv1 C (m_M_isWord l) rfl (cwV 1 C.2.2.2.2.1 (mx_gV (fun w h => List.mem_cons_of_mem _ h) (mx_in0 (by decide +kernel) rfl) (mx_in0 (by decide +kernel) rfl) (mx_in0 (by decide +kernel) rfl) (mx_in0 (by decide +kernel) rfl) (mx_in0 (by decide +kernel) rfl)) rfl rfl rfl (by decide +kernel) ⟨by decide, by decide⟩) d_M_letter_7 ⟨Nat.zero_le _, Nat.zero_le _⟩,
  mx_s_if_eq C d_M_letter_10 (by decide),
  mx_s_iconst C d_M_letter_36 (by decide),
  mx_s_iret C hr hlk d_M_letter_37,
  trivial⟩
set_option maxRecDepth 20000 in
set_option maxHeartbeats 2000000 in
theorem m_M_letter (l : Launch) : mx_M l y_M_letter w_M_letter rm_M_letter sp_M_letter := by
  intro D tc tb ad As F P sz0 h
  obtain ⟨th, sz, sp, wy, kp, sd, w, i, rfl, h1, hp⟩ := h
  refine mx_run (cc := c_M_letter) (maxL := 3) (ret := (some .int)) (tab := t_M_letter  P) (by decide) rfl D tc tb ad _ F P sz0 (Nat.le_of_ble_eq_true rfl) (fun p e s m args below meth c C hr hlk => a_M_letter  C hr hlk) ?_
  intro Rr go
  have hF := mx_as1 h1
  rw [hF]
  refine go rfl ⟨_, rfl, ?_⟩
  refine go rfl ?_
  refine go rfl ⟨_, _, _, _, rfl, rfl, (Nat.le_of_ble_eq_true rfl), ?_⟩
  refine go rfl ⟨_, rfl, ?_⟩
  refine go rfl ⟨_, rfl, ?_⟩
  refine go rfl ⟨_, _, _, _, rfl, rfl, rfl, rfl, rfl, ⟨_, _, _, _, _, _, 0, w, rfl, rfl, fun hc => ?_, fun hc => ?_⟩⟩
  · refine go rfl ⟨_, _, rfl, fun c => ?_, fun c => ?_⟩
    · refine go rfl ?_
      refine go rfl ⟨_, rfl, rfl, rfl, ?_⟩
      rw [← hF]
      try simp only [mx_pp]
      exact hp _
    · exact absurd rfl c
  · exact absurd (Int32.not_lt.mp (fun h => hc (Or.inl h))) (fun h => hc (Or.inr h))
-- LadderWordsModel.ladder(III)I
/-- without words -/
def sp_M_ladder : mx_Sp := fun As F P => ∃ (th sz sp : Int32) (wy : Int64) (kp sd : Int32) (w b k : Int32), As = [mx_r 40, mx_i w, mx_i b, mx_i k] ∧ F 40 = some (e_M th sz (nI 0) sp wy kp sd) ∧ ∀ x, P (some (mx_i (-1))) (mx_put F 40 x)
theorem d_M_ladder_0 : decode c_M_ladder 0 = .ok (.aload_n 0, 1) := by decide +kernel
theorem d_M_ladder_1 : decode c_M_ladder 1 = .ok (.iconst 0, 1) := by decide +kernel
theorem d_M_ladder_2 : decode c_M_ladder 2 = .ok (.putfield 48, 3) := by decide +kernel
theorem d_M_ladder_5 : decode c_M_ladder 5 = .ok (.aload_n 0, 1) := by decide +kernel
theorem d_M_ladder_6 : decode c_M_ladder 6 = .ok (.iconst (-1), 1) := by decide +kernel
theorem d_M_ladder_7 : decode c_M_ladder 7 = .ok (.putfield 19, 3) := by decide +kernel
theorem d_M_ladder_10 : decode c_M_ladder 10 = .ok (.aload_n 0, 1) := by decide +kernel
theorem d_M_ladder_11 : decode c_M_ladder 11 = .ok (.iload_n 1, 1) := by decide +kernel
theorem d_M_ladder_12 : decode c_M_ladder 12 = .ok (.invokevirtual 75, 3) := by decide +kernel
theorem d_M_ladder_15 : decode c_M_ladder 15 = .ok (.ifCond .eq 20, 3) := by decide +kernel
theorem d_M_ladder_35 : decode c_M_ladder 35 = .ok (.iconst (-1), 1) := by decide +kernel
theorem d_M_ladder_36 : decode c_M_ladder 36 = .ok (.ireturn, 1) := by decide +kernel
abbrev w_M_ladder : List Cond := mx_ws y_M_ladder c_M_ladder 8 (some .int)
abbrev rm_M_ladder : Room := { frames := 40, cells := 0, slots := 0, locals := 800 }
def t_M_ladder  (P : Option mx_V → mx_F → Prop) : List (Nat × mx_O) := [
  (0, mx_aload 0 1),
  (1, mx_push (.inl (nI 0)) 2),
  (2, mx_puti 7 0 5),
  (5, mx_aload 0 6),
  (6, mx_push (.inl (-1)) 7),
  (7, mx_puti 7 6 10),
  (10, mx_aload 0 11),
  (11, mx_iload 1 12),
  (12, mx_cv1 7 sp_M_isWord 0 0 15),
  (15, mx_if_eq 35 18),
  (35, mx_push (.inl (-1)) 36),
  (36, mx_iret P)]
set_option maxRecDepth 20000 in
theorem a_M_ladder  {p : Program} {l : Launch} {e : Env} {s : State} {m : MethodId} {args : Array Value} {below : List Frame} {meth : Method} {c : Code} {D : va_G} {tc : Nat → ClassId} {tb : Nat → Nat} {sz : Nat} {a0 : Nat → Nat} {G : mx_F} {P : Option mx_V → mx_F → Prop}  (C : mx_C p s m args c c_M_ladder y_M_ladder.cls w_M_ladder D tc tb (mx_A a0 G sz) 8 (mx_Ok0 a0 G)) (hr : meth.sig.returnType = (some .int)) (hlk : meth.locks = false) : mx_all (mx_W p l e rm_M_ladder s m args below meth c (MQ below (mx_Q D tc tb a0 G sz P) args s 0 0 (mx_A a0 G sz)) D tc tb (mx_A a0 G sz) 8 (mx_Ok0 a0 G)) (t_M_ladder  P) :=
  ⟨mx_s_aload_n C d_M_ladder_0 rfl,
  mx_s_iconst C d_M_ladder_1 (by decide),
  mx_s_puti (T := T_M) (N := 18) (k := 0) C (fun w h => List.mem_cons_of_mem _ (in_M w h)) rfl ty_M ok_M nm_M (by decide) (List.mem_cons_of_mem _ (mx_in0 (by decide +kernel) rfl)) rfl rfl (ok_M 0 (by decide)) d_M_ladder_2,
  mx_s_aload_n C d_M_ladder_5 rfl,
  mx_s_iconst C d_M_ladder_6 (by decide),
  mx_s_puti (T := T_M) (N := 18) (k := 6) C (fun w h => List.mem_cons_of_mem _ (in_M w h)) rfl ty_M ok_M nm_M (by decide) (List.mem_cons_of_mem _ (mx_in0 (by decide +kernel) rfl)) rfl rfl (ok_M 6 (by decide)) d_M_ladder_7,
  mx_s_aload_n C d_M_ladder_10 rfl,
  mx_s_iload_n C d_M_ladder_11 rfl,
  mx_s_cv1 C (m_M_isWord l) rfl (cwV 1 C.2.2.2.2.1 (mx_gV (fun w h => List.mem_cons_of_mem _ h) (mx_in0 (by decide +kernel) rfl) (mx_in0 (by decide +kernel) rfl) (mx_in0 (by decide +kernel) rfl) (mx_in0 (by decide +kernel) rfl) (mx_in0 (by decide +kernel) rfl)) rfl rfl rfl (by decide +kernel) ⟨by decide, by decide⟩) d_M_ladder_12 ⟨Nat.zero_le _, Nat.zero_le _⟩,
  mx_s_if_eq C d_M_ladder_15 (by decide),
  mx_s_iconst C d_M_ladder_35 (by decide),
  mx_s_iret C hr hlk d_M_ladder_36,
  trivial⟩
set_option maxRecDepth 20000 in
set_option maxHeartbeats 2000000 in
theorem m_M_ladder (l : Launch) : mx_M l y_M_ladder w_M_ladder rm_M_ladder sp_M_ladder := by
  intro D tc tb ad As F P sz0 h
  obtain ⟨th, sz, sp, wy, kp, sd, w, b, k, rfl, h1, hp⟩ := h
  refine mx_run (cc := c_M_ladder) (maxL := 8) (ret := (some .int)) (tab := t_M_ladder  P) (by decide) rfl D tc tb ad _ F P sz0 (Nat.le_of_ble_eq_true rfl) (fun p e s m args below meth c C hr hlk => a_M_ladder  C hr hlk) ?_
  intro Rr go
  have hF := mx_as1 h1
  rw [hF]
  refine go rfl ⟨_, rfl, ?_⟩
  refine go rfl ?_
  refine go rfl ⟨_, _, _, _, rfl, rfl, (Nat.le_of_ble_eq_true rfl), ?_⟩
  refine go rfl ⟨_, rfl, ?_⟩
  refine go rfl ?_
  refine go rfl ⟨_, _, _, _, rfl, rfl, (Nat.le_of_ble_eq_true rfl), ?_⟩
  refine go rfl ⟨_, rfl, ?_⟩
  refine go rfl ⟨_, rfl, ?_⟩
  refine go rfl ⟨_, _, _, _, rfl, rfl, rfl, rfl, rfl, ⟨_, _, _, _, _, _, 0, w, rfl, rfl, fun hc => ?_, fun hc => ?_⟩⟩
  · refine go rfl ⟨_, _, rfl, fun c => ?_, fun c => ?_⟩
    · refine go rfl ?_
      refine go rfl ⟨_, rfl, rfl, rfl, ?_⟩
      rw [← hF]
      try simp only [mx_pp]
      exact hp _
    · exact absurd rfl c
  · exact absurd (Int32.not_lt.mp (fun h => hc (Or.inl h))) (fun h => hc (Or.inr h))
-- LadderWordsModel.hide(IIII)Z
/-- without words -/
def sp_M_hide : mx_Sp := fun As F P => ∃ (th sz sp : Int32) (wy : Int64) (kp sd : Int32) (w x y d : Int32), As = [mx_r 40, mx_i w, mx_i x, mx_i y, mx_i d] ∧ F 40 = some (e_M th sz (nI 0) sp wy kp sd) ∧ ∀ x, P (some (mx_i (nI 0))) (mx_put F 40 x)
theorem d_M_hide_0 : decode c_M_hide 0 = .ok (.aload_n 0, 1) := by decide +kernel
theorem d_M_hide_1 : decode c_M_hide 1 = .ok (.iconst 0, 1) := by decide +kernel
theorem d_M_hide_2 : decode c_M_hide 2 = .ok (.putfield 48, 3) := by decide +kernel
theorem d_M_hide_5 : decode c_M_hide 5 = .ok (.aload_n 0, 1) := by decide +kernel
theorem d_M_hide_6 : decode c_M_hide 6 = .ok (.iload_n 1, 1) := by decide +kernel
theorem d_M_hide_7 : decode c_M_hide 7 = .ok (.invokevirtual 75, 3) := by decide +kernel
theorem d_M_hide_10 : decode c_M_hide 10 = .ok (.ifCond .eq 36, 3) := by decide +kernel
theorem d_M_hide_46 : decode c_M_hide 46 = .ok (.iconst 0, 1) := by decide +kernel
theorem d_M_hide_47 : decode c_M_hide 47 = .ok (.ireturn, 1) := by decide +kernel
abbrev w_M_hide : List Cond := mx_ws y_M_hide c_M_hide 6 (some .boolean)
abbrev rm_M_hide : Room := { frames := 30, cells := 0, slots := 0, locals := 600 }
def t_M_hide  (P : Option mx_V → mx_F → Prop) : List (Nat × mx_O) := [
  (0, mx_aload 0 1),
  (1, mx_push (.inl (nI 0)) 2),
  (2, mx_puti 7 0 5),
  (5, mx_aload 0 6),
  (6, mx_iload 1 7),
  (7, mx_cv1 7 sp_M_isWord 0 0 10),
  (10, mx_if_eq 46 13),
  (46, mx_push (.inl (nI 0)) 47),
  (47, mx_zret P)]
set_option maxRecDepth 20000 in
theorem a_M_hide  {p : Program} {l : Launch} {e : Env} {s : State} {m : MethodId} {args : Array Value} {below : List Frame} {meth : Method} {c : Code} {D : va_G} {tc : Nat → ClassId} {tb : Nat → Nat} {sz : Nat} {a0 : Nat → Nat} {G : mx_F} {P : Option mx_V → mx_F → Prop}  (C : mx_C p s m args c c_M_hide y_M_hide.cls w_M_hide D tc tb (mx_A a0 G sz) 6 (mx_Ok0 a0 G)) (hr : meth.sig.returnType = (some .boolean)) (hlk : meth.locks = false) : mx_all (mx_W p l e rm_M_hide s m args below meth c (MQ below (mx_Q D tc tb a0 G sz P) args s 0 0 (mx_A a0 G sz)) D tc tb (mx_A a0 G sz) 6 (mx_Ok0 a0 G)) (t_M_hide  P) :=
  ⟨mx_s_aload_n C d_M_hide_0 rfl,
  mx_s_iconst C d_M_hide_1 (by decide),
  mx_s_puti (T := T_M) (N := 18) (k := 0) C (fun w h => List.mem_cons_of_mem _ (in_M w h)) rfl ty_M ok_M nm_M (by decide) (List.mem_cons_of_mem _ (mx_in0 (by decide +kernel) rfl)) rfl rfl (ok_M 0 (by decide)) d_M_hide_2,
  mx_s_aload_n C d_M_hide_5 rfl,
  mx_s_iload_n C d_M_hide_6 rfl,
  mx_s_cv1 C (m_M_isWord l) rfl (cwV 1 C.2.2.2.2.1 (mx_gV (fun w h => List.mem_cons_of_mem _ h) (mx_in0 (by decide +kernel) rfl) (mx_in0 (by decide +kernel) rfl) (mx_in0 (by decide +kernel) rfl) (mx_in0 (by decide +kernel) rfl) (mx_in0 (by decide +kernel) rfl)) rfl rfl rfl (by decide +kernel) ⟨by decide, by decide⟩) d_M_hide_7 ⟨Nat.zero_le _, Nat.zero_le _⟩,
  mx_s_if_eq C d_M_hide_10 (by decide),
  mx_s_iconst C d_M_hide_46 (by decide),
  mx_s_zret C hr hlk d_M_hide_47,
  trivial⟩
set_option maxRecDepth 20000 in
set_option maxHeartbeats 2000000 in
theorem m_M_hide (l : Launch) : mx_M l y_M_hide w_M_hide rm_M_hide sp_M_hide := by
  intro D tc tb ad As F P sz0 h
  obtain ⟨th, sz, sp, wy, kp, sd, w, x, y, d, rfl, h1, hp⟩ := h
  refine mx_run (cc := c_M_hide) (maxL := 6) (ret := (some .boolean)) (tab := t_M_hide  P) (by decide) rfl D tc tb ad _ F P sz0 (Nat.le_of_ble_eq_true rfl) (fun p e s m args below meth c C hr hlk => a_M_hide  C hr hlk) ?_
  intro Rr go
  have hF := mx_as1 h1
  rw [hF]
  refine go rfl ⟨_, rfl, ?_⟩
  refine go rfl ?_
  refine go rfl ⟨_, _, _, _, rfl, rfl, (Nat.le_of_ble_eq_true rfl), ?_⟩
  refine go rfl ⟨_, rfl, ?_⟩
  refine go rfl ⟨_, rfl, ?_⟩
  refine go rfl ⟨_, _, _, _, rfl, rfl, rfl, rfl, rfl, ⟨_, _, _, _, _, _, 0, w, rfl, rfl, fun hc => ?_, fun hc => ?_⟩⟩
  · refine go rfl ⟨_, _, rfl, fun c => ?_, fun c => ?_⟩
    · refine go rfl ?_
      refine go rfl ⟨_, rfl, rfl, rfl, (Or.inl rfl), ?_⟩
      rw [← hF]
      try simp only [mx_pp]
      exact hp _
    · exact absurd rfl c
  · exact absurd (Int32.not_lt.mp (fun h => hc (Or.inl h))) (fun h => hc (Or.inr h))
-- LadderWordsModel.found(I)I
/-- without words -/
def sp_M_found : mx_Sp := fun As F P => ∃ (th sz sp : Int32) (wy : Int64) (kp sd : Int32) (w : Int32), As = [mx_r 40, mx_i w] ∧ F 40 = some (e_M th sz (nI 0) sp wy kp sd) ∧ ∀ x, P (some (mx_i (-1))) (mx_put F 40 x)
theorem d_M_found_0 : decode c_M_found 0 = .ok (.aload_n 0, 1) := by decide +kernel
theorem d_M_found_1 : decode c_M_found 1 = .ok (.iconst 0, 1) := by decide +kernel
theorem d_M_found_2 : decode c_M_found 2 = .ok (.putfield 48, 3) := by decide +kernel
theorem d_M_found_5 : decode c_M_found 5 = .ok (.aload_n 0, 1) := by decide +kernel
theorem d_M_found_6 : decode c_M_found 6 = .ok (.iload_n 1, 1) := by decide +kernel
theorem d_M_found_7 : decode c_M_found 7 = .ok (.invokevirtual 75, 3) := by decide +kernel
theorem d_M_found_10 : decode c_M_found 10 = .ok (.ifCond .eq 12, 3) := by decide +kernel
theorem d_M_found_22 : decode c_M_found 22 = .ok (.iconst (-1), 1) := by decide +kernel
theorem d_M_found_23 : decode c_M_found 23 = .ok (.ireturn, 1) := by decide +kernel
abbrev w_M_found : List Cond := mx_ws y_M_found c_M_found 2 (some .int)
abbrev rm_M_found : Room := { frames := 40, cells := 0, slots := 0, locals := 800 }
def t_M_found  (P : Option mx_V → mx_F → Prop) : List (Nat × mx_O) := [
  (0, mx_aload 0 1),
  (1, mx_push (.inl (nI 0)) 2),
  (2, mx_puti 7 0 5),
  (5, mx_aload 0 6),
  (6, mx_iload 1 7),
  (7, mx_cv1 7 sp_M_isWord 0 0 10),
  (10, mx_if_eq 22 13),
  (22, mx_push (.inl (-1)) 23),
  (23, mx_iret P)]
set_option maxRecDepth 20000 in
theorem a_M_found  {p : Program} {l : Launch} {e : Env} {s : State} {m : MethodId} {args : Array Value} {below : List Frame} {meth : Method} {c : Code} {D : va_G} {tc : Nat → ClassId} {tb : Nat → Nat} {sz : Nat} {a0 : Nat → Nat} {G : mx_F} {P : Option mx_V → mx_F → Prop}  (C : mx_C p s m args c c_M_found y_M_found.cls w_M_found D tc tb (mx_A a0 G sz) 2 (mx_Ok0 a0 G)) (hr : meth.sig.returnType = (some .int)) (hlk : meth.locks = false) : mx_all (mx_W p l e rm_M_found s m args below meth c (MQ below (mx_Q D tc tb a0 G sz P) args s 0 0 (mx_A a0 G sz)) D tc tb (mx_A a0 G sz) 2 (mx_Ok0 a0 G)) (t_M_found  P) :=
  ⟨mx_s_aload_n C d_M_found_0 rfl,
  mx_s_iconst C d_M_found_1 (by decide),
  mx_s_puti (T := T_M) (N := 18) (k := 0) C (fun w h => List.mem_cons_of_mem _ (in_M w h)) rfl ty_M ok_M nm_M (by decide) (List.mem_cons_of_mem _ (mx_in0 (by decide +kernel) rfl)) rfl rfl (ok_M 0 (by decide)) d_M_found_2,
  mx_s_aload_n C d_M_found_5 rfl,
  mx_s_iload_n C d_M_found_6 rfl,
  mx_s_cv1 C (m_M_isWord l) rfl (cwV 1 C.2.2.2.2.1 (mx_gV (fun w h => List.mem_cons_of_mem _ h) (mx_in0 (by decide +kernel) rfl) (mx_in0 (by decide +kernel) rfl) (mx_in0 (by decide +kernel) rfl) (mx_in0 (by decide +kernel) rfl) (mx_in0 (by decide +kernel) rfl)) rfl rfl rfl (by decide +kernel) ⟨by decide, by decide⟩) d_M_found_7 ⟨Nat.zero_le _, Nat.zero_le _⟩,
  mx_s_if_eq C d_M_found_10 (by decide),
  mx_s_iconst C d_M_found_22 (by decide),
  mx_s_iret C hr hlk d_M_found_23,
  trivial⟩
set_option maxRecDepth 20000 in
set_option maxHeartbeats 2000000 in
theorem m_M_found (l : Launch) : mx_M l y_M_found w_M_found rm_M_found sp_M_found := by
  intro D tc tb ad As F P sz0 h
  obtain ⟨th, sz, sp, wy, kp, sd, w, rfl, h1, hp⟩ := h
  refine mx_run (cc := c_M_found) (maxL := 2) (ret := (some .int)) (tab := t_M_found  P) (by decide) rfl D tc tb ad _ F P sz0 (Nat.le_of_ble_eq_true rfl) (fun p e s m args below meth c C hr hlk => a_M_found  C hr hlk) ?_
  intro Rr go
  have hF := mx_as1 h1
  rw [hF]
  refine go rfl ⟨_, rfl, ?_⟩
  refine go rfl ?_
  refine go rfl ⟨_, _, _, _, rfl, rfl, (Nat.le_of_ble_eq_true rfl), ?_⟩
  refine go rfl ⟨_, rfl, ?_⟩
  refine go rfl ⟨_, rfl, ?_⟩
  refine go rfl ⟨_, _, _, _, rfl, rfl, rfl, rfl, rfl, ⟨_, _, _, _, _, _, 0, w, rfl, rfl, fun hc => ?_, fun hc => ?_⟩⟩
  · refine go rfl ⟨_, _, rfl, fun c => ?_, fun c => ?_⟩
    · refine go rfl ?_
      refine go rfl ⟨_, rfl, rfl, rfl, ?_⟩
      rw [← hF]
      try simp only [mx_pp]
      exact hp _
    · exact absurd rfl c
  · exact absurd (Int32.not_lt.mp (fun h => hc (Or.inl h))) (fun h => hc (Or.inr h))
-- LadderWordsModel.where(II)I
/-- without words -/
def sp_M_where : mx_Sp := fun As F P => ∃ (th sz sp : Int32) (wy : Int64) (kp sd : Int32) (w k : Int32), As = [mx_r 40, mx_i w, mx_i k] ∧ F 40 = some (e_M th sz (nI 0) sp wy kp sd) ∧ ∀ x, P (some (mx_i (-1))) (mx_put F 40 x)
theorem d_M_where_0 : decode c_M_where 0 = .ok (.aload_n 0, 1) := by decide +kernel
theorem d_M_where_1 : decode c_M_where 1 = .ok (.iconst 0, 1) := by decide +kernel
theorem d_M_where_2 : decode c_M_where 2 = .ok (.putfield 48, 3) := by decide +kernel
theorem d_M_where_5 : decode c_M_where 5 = .ok (.aload_n 0, 1) := by decide +kernel
theorem d_M_where_6 : decode c_M_where 6 = .ok (.iload_n 1, 1) := by decide +kernel
theorem d_M_where_7 : decode c_M_where 7 = .ok (.invokevirtual 75, 3) := by decide +kernel
theorem d_M_where_10 : decode c_M_where 10 = .ok (.ifCond .eq 16, 3) := by decide +kernel
theorem d_M_where_26 : decode c_M_where 26 = .ok (.iconst (-1), 1) := by decide +kernel
theorem d_M_where_27 : decode c_M_where 27 = .ok (.ireturn, 1) := by decide +kernel
abbrev w_M_where : List Cond := mx_ws y_M_where c_M_where 3 (some .int)
abbrev rm_M_where : Room := { frames := 40, cells := 0, slots := 0, locals := 800 }
def t_M_where  (P : Option mx_V → mx_F → Prop) : List (Nat × mx_O) := [
  (0, mx_aload 0 1),
  (1, mx_push (.inl (nI 0)) 2),
  (2, mx_puti 7 0 5),
  (5, mx_aload 0 6),
  (6, mx_iload 1 7),
  (7, mx_cv1 7 sp_M_isWord 0 0 10),
  (10, mx_if_eq 26 13),
  (26, mx_push (.inl (-1)) 27),
  (27, mx_iret P)]
set_option maxRecDepth 20000 in
theorem a_M_where  {p : Program} {l : Launch} {e : Env} {s : State} {m : MethodId} {args : Array Value} {below : List Frame} {meth : Method} {c : Code} {D : va_G} {tc : Nat → ClassId} {tb : Nat → Nat} {sz : Nat} {a0 : Nat → Nat} {G : mx_F} {P : Option mx_V → mx_F → Prop}  (C : mx_C p s m args c c_M_where y_M_where.cls w_M_where D tc tb (mx_A a0 G sz) 3 (mx_Ok0 a0 G)) (hr : meth.sig.returnType = (some .int)) (hlk : meth.locks = false) : mx_all (mx_W p l e rm_M_where s m args below meth c (MQ below (mx_Q D tc tb a0 G sz P) args s 0 0 (mx_A a0 G sz)) D tc tb (mx_A a0 G sz) 3 (mx_Ok0 a0 G)) (t_M_where  P) :=
  ⟨mx_s_aload_n C d_M_where_0 rfl,
  mx_s_iconst C d_M_where_1 (by decide),
  mx_s_puti (T := T_M) (N := 18) (k := 0) C (fun w h => List.mem_cons_of_mem _ (in_M w h)) rfl ty_M ok_M nm_M (by decide) (List.mem_cons_of_mem _ (mx_in0 (by decide +kernel) rfl)) rfl rfl (ok_M 0 (by decide)) d_M_where_2,
  mx_s_aload_n C d_M_where_5 rfl,
  mx_s_iload_n C d_M_where_6 rfl,
  mx_s_cv1 C (m_M_isWord l) rfl (cwV 1 C.2.2.2.2.1 (mx_gV (fun w h => List.mem_cons_of_mem _ h) (mx_in0 (by decide +kernel) rfl) (mx_in0 (by decide +kernel) rfl) (mx_in0 (by decide +kernel) rfl) (mx_in0 (by decide +kernel) rfl) (mx_in0 (by decide +kernel) rfl)) rfl rfl rfl (by decide +kernel) ⟨by decide, by decide⟩) d_M_where_7 ⟨Nat.zero_le _, Nat.zero_le _⟩,
  mx_s_if_eq C d_M_where_10 (by decide),
  mx_s_iconst C d_M_where_26 (by decide),
  mx_s_iret C hr hlk d_M_where_27,
  trivial⟩
set_option maxRecDepth 20000 in
set_option maxHeartbeats 2000000 in
theorem m_M_where (l : Launch) : mx_M l y_M_where w_M_where rm_M_where sp_M_where := by
  intro D tc tb ad As F P sz0 h
  obtain ⟨th, sz, sp, wy, kp, sd, w, k, rfl, h1, hp⟩ := h
  refine mx_run (cc := c_M_where) (maxL := 3) (ret := (some .int)) (tab := t_M_where  P) (by decide) rfl D tc tb ad _ F P sz0 (Nat.le_of_ble_eq_true rfl) (fun p e s m args below meth c C hr hlk => a_M_where  C hr hlk) ?_
  intro Rr go
  have hF := mx_as1 h1
  rw [hF]
  refine go rfl ⟨_, rfl, ?_⟩
  refine go rfl ?_
  refine go rfl ⟨_, _, _, _, rfl, rfl, (Nat.le_of_ble_eq_true rfl), ?_⟩
  refine go rfl ⟨_, rfl, ?_⟩
  refine go rfl ⟨_, rfl, ?_⟩
  refine go rfl ⟨_, _, _, _, rfl, rfl, rfl, rfl, rfl, ⟨_, _, _, _, _, _, 0, w, rfl, rfl, fun hc => ?_, fun hc => ?_⟩⟩
  · refine go rfl ⟨_, _, rfl, fun c => ?_, fun c => ?_⟩
    · refine go rfl ?_
      refine go rfl ⟨_, rfl, rfl, rfl, ?_⟩
      rw [← hF]
      try simp only [mx_pp]
      exact hp _
    · exact absurd rfl c
  · exact absurd (Int32.not_lt.mp (fun h => hc (Or.inl h))) (fun h => hc (Or.inr h))
-- LadderWordsModel.step(I)I
/-- no ladder -/
def sp_M_step : mx_Sp := fun As F P => ∃ (th sz mn : Int32) (wy : Int64) (kp sd k : Int32), As = [mx_r 40, mx_i k] ∧ F 40 = some (e_M th sz mn (-1) wy kp sd) ∧ ∀ x, P (some (mx_i (-1))) (mx_put F 40 x)
theorem d_M_step_0 : decode c_M_step 0 = .ok (.aload_n 0, 1) := by decide +kernel
theorem d_M_step_1 : decode c_M_step 1 = .ok (.iconst 0, 1) := by decide +kernel
theorem d_M_step_2 : decode c_M_step 2 = .ok (.putfield 48, 3) := by decide +kernel
theorem d_M_step_5 : decode c_M_step 5 = .ok (.iload_n 1, 1) := by decide +kernel
theorem d_M_step_6 : decode c_M_step 6 = .ok (.ifCond .lt 20, 3) := by decide +kernel
theorem d_M_step_9 : decode c_M_step 9 = .ok (.iload_n 1, 1) := by decide +kernel
theorem d_M_step_10 : decode c_M_step 10 = .ok (.aload_n 0, 1) := by decide +kernel
theorem d_M_step_11 : decode c_M_step 11 = .ok (.getfield 19, 3) := by decide +kernel
theorem d_M_step_14 : decode c_M_step 14 = .ok (.if_icmp .gt 12, 3) := by decide +kernel
theorem d_M_step_26 : decode c_M_step 26 = .ok (.iconst (-1), 1) := by decide +kernel
theorem d_M_step_27 : decode c_M_step 27 = .ok (.ireturn, 1) := by decide +kernel
abbrev w_M_step : List Cond := mx_ws y_M_step c_M_step 2 (some .int)
abbrev rm_M_step : Room := { frames := 10, cells := 0, slots := 0, locals := 200 }
def t_M_step  (P : Option mx_V → mx_F → Prop) : List (Nat × mx_O) := [
  (0, mx_aload 0 1),
  (1, mx_push (.inl (nI 0)) 2),
  (2, mx_puti 7 0 5),
  (5, mx_iload 1 6),
  (6, mx_if_lt 26 9),
  (9, mx_iload 1 10),
  (10, mx_aload 0 11),
  (11, mx_get 7 6 14),
  (14, mx_ic_gt 26 17),
  (26, mx_push (.inl (-1)) 27),
  (27, mx_iret P)]
set_option maxRecDepth 20000 in
theorem a_M_step  {p : Program} {l : Launch} {e : Env} {s : State} {m : MethodId} {args : Array Value} {below : List Frame} {meth : Method} {c : Code} {D : va_G} {tc : Nat → ClassId} {tb : Nat → Nat} {sz : Nat} {a0 : Nat → Nat} {G : mx_F} {P : Option mx_V → mx_F → Prop}  (C : mx_C p s m args c c_M_step y_M_step.cls w_M_step D tc tb (mx_A a0 G sz) 2 (mx_Ok0 a0 G)) (hr : meth.sig.returnType = (some .int)) (hlk : meth.locks = false) : mx_all (mx_W p l e rm_M_step s m args below meth c (MQ below (mx_Q D tc tb a0 G sz P) args s 0 0 (mx_A a0 G sz)) D tc tb (mx_A a0 G sz) 2 (mx_Ok0 a0 G)) (t_M_step  P) :=
  ⟨mx_s_aload_n C d_M_step_0 rfl,
  mx_s_iconst C d_M_step_1 (by decide),
  mx_s_puti (T := T_M) (N := 18) (k := 0) C (fun w h => List.mem_cons_of_mem _ (in_M w h)) rfl ty_M ok_M nm_M (by decide) (List.mem_cons_of_mem _ (mx_in0 (by decide +kernel) rfl)) rfl rfl (ok_M 0 (by decide)) d_M_step_2,
  mx_s_iload_n C d_M_step_5 rfl,
  mx_s_if_lt C d_M_step_6 (by decide),
  mx_s_iload_n C d_M_step_9 rfl,
  mx_s_aload_n C d_M_step_10 rfl,
  mx_s_get (T := T_M) (N := 18) (k := 6) C (fun w h => List.mem_cons_of_mem _ (in_M w h)) rfl (by decide) (List.mem_cons_of_mem _ (mx_in0 (by decide +kernel) rfl)) rfl d_M_step_11,
  mx_s_ic_gt C d_M_step_14 (by decide),
  mx_s_iconst C d_M_step_26 (by decide),
  mx_s_iret C hr hlk d_M_step_27,
  trivial⟩
set_option maxRecDepth 20000 in
set_option maxHeartbeats 2000000 in
theorem m_M_step (l : Launch) : mx_M l y_M_step w_M_step rm_M_step sp_M_step := by
  intro D tc tb ad As F P sz0 h
  obtain ⟨th, sz, mn, wy, kp, sd, k, rfl, h1, hp⟩ := h
  refine mx_run (cc := c_M_step) (maxL := 2) (ret := (some .int)) (tab := t_M_step  P) (by decide) rfl D tc tb ad _ F P sz0 (Nat.le_of_ble_eq_true rfl) (fun p e s m args below meth c C hr hlk => a_M_step  C hr hlk) ?_
  intro Rr go
  have hF := mx_as1 h1
  rw [hF]
  refine go rfl ⟨_, rfl, ?_⟩
  refine go rfl ?_
  refine go rfl ⟨_, _, _, _, rfl, rfl, (Nat.le_of_ble_eq_true rfl), ?_⟩
  refine go rfl ⟨_, rfl, ?_⟩
  refine go rfl ⟨_, _, rfl, fun c1 => ?_, fun c1 => ?_⟩
  · refine go rfl ?_
    refine go rfl ⟨_, rfl, rfl, rfl, ?_⟩
    rw [← hF]
    exact hp _
  refine go rfl ⟨_, rfl, ?_⟩
  refine go rfl ⟨_, rfl, ?_⟩
  refine go rfl ⟨_, _, _, _, rfl, rfl, rfl, ?_⟩
  refine go rfl ⟨_, _, _, rfl, fun c2 => ?_, fun c2 => ?_⟩
  · refine go rfl ?_
    refine go rfl ⟨_, rfl, rfl, rfl, ?_⟩
    rw [← hF]
    exact hp _
  · exact absurd (Int32.lt_of_lt_of_le (show (-1 : Int32) < 0 by decide) (Int32.not_lt.mp c1)) c2
-- LadderWordsModel.ways()J
/-- no ladder -/
def sp_M_ways : mx_Sp := fun As F P => ∃ (th sz mn : Int32) (wy : Int64) (kp sd : Int32), As = [mx_r 40] ∧ F 40 = some (e_M th sz mn (-1) wy kp sd) ∧ ∀ x, P (some (mx_l 0)) (mx_put F 40 x)
theorem d_M_ways_0 : decode c_M_ways 0 = .ok (.aload_n 0, 1) := by decide +kernel
theorem d_M_ways_1 : decode c_M_ways 1 = .ok (.iconst 0, 1) := by decide +kernel
theorem d_M_ways_2 : decode c_M_ways 2 = .ok (.putfield 48, 3) := by decide +kernel
theorem d_M_ways_5 : decode c_M_ways 5 = .ok (.aload_n 0, 1) := by decide +kernel
theorem d_M_ways_6 : decode c_M_ways 6 = .ok (.getfield 19, 3) := by decide +kernel
theorem d_M_ways_9 : decode c_M_ways 9 = .ok (.ifCond .ge 7, 3) := by decide +kernel
theorem d_M_ways_12 : decode c_M_ways 12 = .ok (.lconst 0, 1) := by decide +kernel
theorem d_M_ways_13 : decode c_M_ways 13 = .ok (.goto 7, 3) := by decide +kernel
theorem d_M_ways_20 : decode c_M_ways 20 = .ok (.lreturn, 1) := by decide +kernel
abbrev w_M_ways : List Cond := mx_ws y_M_ways c_M_ways 1 (some .long)
abbrev rm_M_ways : Room := { frames := 10, cells := 0, slots := 0, locals := 200 }
def t_M_ways  (P : Option mx_V → mx_F → Prop) : List (Nat × mx_O) := [
  (0, mx_aload 0 1),
  (1, mx_push (.inl (nI 0)) 2),
  (2, mx_puti 7 0 5),
  (5, mx_aload 0 6),
  (6, mx_get 7 6 9),
  (9, mx_if_ge 16 12),
  (12, mx_push (.inr (.inl 0)) 13),
  (13, mx_goto 20),
  (20, mx_lret P)]
set_option maxRecDepth 20000 in
theorem a_M_ways  {p : Program} {l : Launch} {e : Env} {s : State} {m : MethodId} {args : Array Value} {below : List Frame} {meth : Method} {c : Code} {D : va_G} {tc : Nat → ClassId} {tb : Nat → Nat} {sz : Nat} {a0 : Nat → Nat} {G : mx_F} {P : Option mx_V → mx_F → Prop}  (C : mx_C p s m args c c_M_ways y_M_ways.cls w_M_ways D tc tb (mx_A a0 G sz) 1 (mx_Ok0 a0 G)) (hr : meth.sig.returnType = (some .long)) (hlk : meth.locks = false) : mx_all (mx_W p l e rm_M_ways s m args below meth c (MQ below (mx_Q D tc tb a0 G sz P) args s 0 0 (mx_A a0 G sz)) D tc tb (mx_A a0 G sz) 1 (mx_Ok0 a0 G)) (t_M_ways  P) :=
  ⟨mx_s_aload_n C d_M_ways_0 rfl,
  mx_s_iconst C d_M_ways_1 (by decide),
  mx_s_puti (T := T_M) (N := 18) (k := 0) C (fun w h => List.mem_cons_of_mem _ (in_M w h)) rfl ty_M ok_M nm_M (by decide) (List.mem_cons_of_mem _ (mx_in0 (by decide +kernel) rfl)) rfl rfl (ok_M 0 (by decide)) d_M_ways_2,
  mx_s_aload_n C d_M_ways_5 rfl,
  mx_s_get (T := T_M) (N := 18) (k := 6) C (fun w h => List.mem_cons_of_mem _ (in_M w h)) rfl (by decide) (List.mem_cons_of_mem _ (mx_in0 (by decide +kernel) rfl)) rfl d_M_ways_6,
  mx_s_if_ge C d_M_ways_9 (by decide),
  mx_s_lconst C d_M_ways_12 (by decide),
  mx_s_goto C d_M_ways_13 (by decide),
  mx_s_lret C hr hlk d_M_ways_20,
  trivial⟩
set_option maxRecDepth 20000 in
set_option maxHeartbeats 2000000 in
theorem m_M_ways (l : Launch) : mx_M l y_M_ways w_M_ways rm_M_ways sp_M_ways := by
  intro D tc tb ad As F P sz0 h
  obtain ⟨th, sz, mn, wy, kp, sd, rfl, h1, hp⟩ := h
  refine mx_run (cc := c_M_ways) (maxL := 1) (ret := (some .long)) (tab := t_M_ways  P) (by decide) rfl D tc tb ad _ F P sz0 (Nat.le_of_ble_eq_true rfl) (fun p e s m args below meth c C hr hlk => a_M_ways  C hr hlk) ?_
  intro Rr go
  have hF := mx_as1 h1
  rw [hF]
  refine go rfl ⟨_, rfl, ?_⟩
  refine go rfl ?_
  refine go rfl ⟨_, _, _, _, rfl, rfl, (Nat.le_of_ble_eq_true rfl), ?_⟩
  refine go rfl ⟨_, rfl, ?_⟩
  refine go rfl ⟨_, _, _, _, rfl, rfl, rfl, ?_⟩
  refine go rfl ⟨_, _, rfl, fun c => ?_, fun c => ?_⟩
  · exact absurd c (by decide)
  refine go rfl ?_
  refine go rfl ?_
  refine go rfl ⟨_, rfl, rfl, rfl, ?_⟩
  rw [← hF]
  exact hp _
-- LadderWordsModel.line(I)I
def sp_M_line : mx_Sp := fun As F P => ∃ (th sz mn sp : Int32) (wy : Int64) (kp k : Int32), As = [mx_r 40, mx_i k] ∧ F 40 = some (e_M th sz mn sp wy kp 0) ∧ ∀ x, P (some (mx_i (-1))) (mx_put F 40 x)
theorem d_M_line_0 : decode c_M_line 0 = .ok (.aload_n 0, 1) := by decide +kernel
theorem d_M_line_1 : decode c_M_line 1 = .ok (.iconst 0, 1) := by decide +kernel
theorem d_M_line_2 : decode c_M_line 2 = .ok (.putfield 48, 3) := by decide +kernel
theorem d_M_line_5 : decode c_M_line 5 = .ok (.iload_n 1, 1) := by decide +kernel
theorem d_M_line_6 : decode c_M_line 6 = .ok (.ifCond .lt 20, 3) := by decide +kernel
theorem d_M_line_9 : decode c_M_line 9 = .ok (.iload_n 1, 1) := by decide +kernel
theorem d_M_line_10 : decode c_M_line 10 = .ok (.aload_n 0, 1) := by decide +kernel
theorem d_M_line_11 : decode c_M_line 11 = .ok (.getfield 68, 3) := by decide +kernel
theorem d_M_line_14 : decode c_M_line 14 = .ok (.if_icmp .ge 12, 3) := by decide +kernel
theorem d_M_line_26 : decode c_M_line 26 = .ok (.iconst (-1), 1) := by decide +kernel
theorem d_M_line_27 : decode c_M_line 27 = .ok (.ireturn, 1) := by decide +kernel
abbrev w_M_line : List Cond := mx_ws y_M_line c_M_line 2 (some .int)
abbrev rm_M_line : Room := { frames := 10, cells := 0, slots := 0, locals := 200 }
def t_M_line  (P : Option mx_V → mx_F → Prop) : List (Nat × mx_O) := [
  (0, mx_aload 0 1),
  (1, mx_push (.inl (nI 0)) 2),
  (2, mx_puti 7 0 5),
  (5, mx_iload 1 6),
  (6, mx_if_lt 26 9),
  (9, mx_iload 1 10),
  (10, mx_aload 0 11),
  (11, mx_get 7 15 14),
  (14, mx_ic_ge 26 17),
  (26, mx_push (.inl (-1)) 27),
  (27, mx_iret P)]
set_option maxRecDepth 20000 in
theorem a_M_line  {p : Program} {l : Launch} {e : Env} {s : State} {m : MethodId} {args : Array Value} {below : List Frame} {meth : Method} {c : Code} {D : va_G} {tc : Nat → ClassId} {tb : Nat → Nat} {sz : Nat} {a0 : Nat → Nat} {G : mx_F} {P : Option mx_V → mx_F → Prop}  (C : mx_C p s m args c c_M_line y_M_line.cls w_M_line D tc tb (mx_A a0 G sz) 2 (mx_Ok0 a0 G)) (hr : meth.sig.returnType = (some .int)) (hlk : meth.locks = false) : mx_all (mx_W p l e rm_M_line s m args below meth c (MQ below (mx_Q D tc tb a0 G sz P) args s 0 0 (mx_A a0 G sz)) D tc tb (mx_A a0 G sz) 2 (mx_Ok0 a0 G)) (t_M_line  P) :=
  ⟨mx_s_aload_n C d_M_line_0 rfl,
  mx_s_iconst C d_M_line_1 (by decide),
  mx_s_puti (T := T_M) (N := 18) (k := 0) C (fun w h => List.mem_cons_of_mem _ (in_M w h)) rfl ty_M ok_M nm_M (by decide) (List.mem_cons_of_mem _ (mx_in0 (by decide +kernel) rfl)) rfl rfl (ok_M 0 (by decide)) d_M_line_2,
  mx_s_iload_n C d_M_line_5 rfl,
  mx_s_if_lt C d_M_line_6 (by decide),
  mx_s_iload_n C d_M_line_9 rfl,
  mx_s_aload_n C d_M_line_10 rfl,
  mx_s_get (T := T_M) (N := 18) (k := 15) C (fun w h => List.mem_cons_of_mem _ (in_M w h)) rfl (by decide) (List.mem_cons_of_mem _ (mx_in0 (by decide +kernel) rfl)) rfl d_M_line_11,
  mx_s_ic_ge C d_M_line_14 (by decide),
  mx_s_iconst C d_M_line_26 (by decide),
  mx_s_iret C hr hlk d_M_line_27,
  trivial⟩
set_option maxRecDepth 20000 in
set_option maxHeartbeats 2000000 in
theorem m_M_line (l : Launch) : mx_M l y_M_line w_M_line rm_M_line sp_M_line := by
  intro D tc tb ad As F P sz0 h
  obtain ⟨th, sz, mn, sp, wy, kp, k, rfl, h1, hp⟩ := h
  refine mx_run (cc := c_M_line) (maxL := 2) (ret := (some .int)) (tab := t_M_line  P) (by decide) rfl D tc tb ad _ F P sz0 (Nat.le_of_ble_eq_true rfl) (fun p e s m args below meth c C hr hlk => a_M_line  C hr hlk) ?_
  intro Rr go
  have hF := mx_as1 h1
  rw [hF]
  refine go rfl ⟨_, rfl, ?_⟩
  refine go rfl ?_
  refine go rfl ⟨_, _, _, _, rfl, rfl, (Nat.le_of_ble_eq_true rfl), ?_⟩
  refine go rfl ⟨_, rfl, ?_⟩
  refine go rfl ⟨_, _, rfl, fun c1 => ?_, fun c1 => ?_⟩
  · refine go rfl ?_
    refine go rfl ⟨_, rfl, rfl, rfl, ?_⟩
    rw [← hF]
    exact hp _
  refine go rfl ⟨_, rfl, ?_⟩
  refine go rfl ⟨_, rfl, ?_⟩
  refine go rfl ⟨_, _, _, _, rfl, rfl, rfl, ?_⟩
  refine go rfl ⟨_, _, _, rfl, fun c2 => ?_, fun c2 => ?_⟩
  · refine go rfl ?_
    refine go rfl ⟨_, rfl, rfl, rfl, ?_⟩
    rw [← hF]
    exact hp _
  · exact absurd (Int32.not_lt.mp c1) c2
-- LadderWordsModel.gathered(II)I
def sp_M_gathered : mx_Sp := fun As F P => ∃ (th sz mn sp : Int32) (wy : Int64) (sd k i : Int32), As = [mx_r 40, mx_i k, mx_i i] ∧ F 40 = some (e_M th sz mn sp wy 0 sd) ∧ ∀ x, P (some (mx_i (-1))) (mx_put F 40 x)
theorem d_M_gathered_0 : decode c_M_gathered 0 = .ok (.aload_n 0, 1) := by decide +kernel
theorem d_M_gathered_1 : decode c_M_gathered 1 = .ok (.iconst 0, 1) := by decide +kernel
theorem d_M_gathered_2 : decode c_M_gathered 2 = .ok (.putfield 48, 3) := by decide +kernel
theorem d_M_gathered_5 : decode c_M_gathered 5 = .ok (.iload_n 1, 1) := by decide +kernel
theorem d_M_gathered_6 : decode c_M_gathered 6 = .ok (.ifCond .lt 33, 3) := by decide +kernel
theorem d_M_gathered_9 : decode c_M_gathered 9 = .ok (.iload_n 1, 1) := by decide +kernel
theorem d_M_gathered_10 : decode c_M_gathered 10 = .ok (.aload_n 0, 1) := by decide +kernel
theorem d_M_gathered_11 : decode c_M_gathered 11 = .ok (.getfield 65, 3) := by decide +kernel
theorem d_M_gathered_14 : decode c_M_gathered 14 = .ok (.if_icmp .ge 25, 3) := by decide +kernel
theorem d_M_gathered_39 : decode c_M_gathered 39 = .ok (.iconst (-1), 1) := by decide +kernel
theorem d_M_gathered_40 : decode c_M_gathered 40 = .ok (.ireturn, 1) := by decide +kernel
abbrev w_M_gathered : List Cond := mx_ws y_M_gathered c_M_gathered 3 (some .int)
abbrev rm_M_gathered : Room := { frames := 10, cells := 0, slots := 0, locals := 200 }
def t_M_gathered  (P : Option mx_V → mx_F → Prop) : List (Nat × mx_O) := [
  (0, mx_aload 0 1),
  (1, mx_push (.inl (nI 0)) 2),
  (2, mx_puti 7 0 5),
  (5, mx_iload 1 6),
  (6, mx_if_lt 39 9),
  (9, mx_iload 1 10),
  (10, mx_aload 0 11),
  (11, mx_get 7 11 14),
  (14, mx_ic_ge 39 17),
  (39, mx_push (.inl (-1)) 40),
  (40, mx_iret P)]
set_option maxRecDepth 20000 in
theorem a_M_gathered  {p : Program} {l : Launch} {e : Env} {s : State} {m : MethodId} {args : Array Value} {below : List Frame} {meth : Method} {c : Code} {D : va_G} {tc : Nat → ClassId} {tb : Nat → Nat} {sz : Nat} {a0 : Nat → Nat} {G : mx_F} {P : Option mx_V → mx_F → Prop}  (C : mx_C p s m args c c_M_gathered y_M_gathered.cls w_M_gathered D tc tb (mx_A a0 G sz) 3 (mx_Ok0 a0 G)) (hr : meth.sig.returnType = (some .int)) (hlk : meth.locks = false) : mx_all (mx_W p l e rm_M_gathered s m args below meth c (MQ below (mx_Q D tc tb a0 G sz P) args s 0 0 (mx_A a0 G sz)) D tc tb (mx_A a0 G sz) 3 (mx_Ok0 a0 G)) (t_M_gathered  P) :=
  ⟨mx_s_aload_n C d_M_gathered_0 rfl,
  mx_s_iconst C d_M_gathered_1 (by decide),
  mx_s_puti (T := T_M) (N := 18) (k := 0) C (fun w h => List.mem_cons_of_mem _ (in_M w h)) rfl ty_M ok_M nm_M (by decide) (List.mem_cons_of_mem _ (mx_in0 (by decide +kernel) rfl)) rfl rfl (ok_M 0 (by decide)) d_M_gathered_2,
  mx_s_iload_n C d_M_gathered_5 rfl,
  mx_s_if_lt C d_M_gathered_6 (by decide),
  mx_s_iload_n C d_M_gathered_9 rfl,
  mx_s_aload_n C d_M_gathered_10 rfl,
  mx_s_get (T := T_M) (N := 18) (k := 11) C (fun w h => List.mem_cons_of_mem _ (in_M w h)) rfl (by decide) (List.mem_cons_of_mem _ (mx_in0 (by decide +kernel) rfl)) rfl d_M_gathered_11,
  mx_s_ic_ge C d_M_gathered_14 (by decide),
  mx_s_iconst C d_M_gathered_39 (by decide),
  mx_s_iret C hr hlk d_M_gathered_40,
  trivial⟩
set_option maxRecDepth 20000 in
set_option maxHeartbeats 2000000 in
theorem m_M_gathered (l : Launch) : mx_M l y_M_gathered w_M_gathered rm_M_gathered sp_M_gathered := by
  intro D tc tb ad As F P sz0 h
  obtain ⟨th, sz, mn, sp, wy, sd, k, i, rfl, h1, hp⟩ := h
  refine mx_run (cc := c_M_gathered) (maxL := 3) (ret := (some .int)) (tab := t_M_gathered  P) (by decide) rfl D tc tb ad _ F P sz0 (Nat.le_of_ble_eq_true rfl) (fun p e s m args below meth c C hr hlk => a_M_gathered  C hr hlk) ?_
  intro Rr go
  have hF := mx_as1 h1
  rw [hF]
  refine go rfl ⟨_, rfl, ?_⟩
  refine go rfl ?_
  refine go rfl ⟨_, _, _, _, rfl, rfl, (Nat.le_of_ble_eq_true rfl), ?_⟩
  refine go rfl ⟨_, rfl, ?_⟩
  refine go rfl ⟨_, _, rfl, fun c1 => ?_, fun c1 => ?_⟩
  · refine go rfl ?_
    refine go rfl ⟨_, rfl, rfl, rfl, ?_⟩
    rw [← hF]
    exact hp _
  refine go rfl ⟨_, rfl, ?_⟩
  refine go rfl ⟨_, rfl, ?_⟩
  refine go rfl ⟨_, _, _, _, rfl, rfl, rfl, ?_⟩
  refine go rfl ⟨_, _, _, rfl, fun c2 => ?_, fun c2 => ?_⟩
  · refine go rfl ?_
    refine go rfl ⟨_, rfl, rfl, rfl, ?_⟩
    rw [← hF]
    exact hp _
  · exact absurd (Int32.not_lt.mp c1) c2
-- LadderWordsModel.fill(J)I
/-- without words -/
def sp_M_fill : mx_Sp := fun As F P => ∃ (th sz sp : Int32) (wy : Int64) (kp sd : Int32) (x : Int64), As = [mx_r 40, mx_l x] ∧ F 40 = some (e_M th sz (nI 0) sp wy kp sd) ∧ ∀ x, P (some (mx_i (-1))) (mx_put F 40 x)
theorem d_M_fill_0 : decode c_M_fill 0 = .ok (.aload_n 0, 1) := by decide +kernel
theorem d_M_fill_1 : decode c_M_fill 1 = .ok (.iconst 0, 1) := by decide +kernel
theorem d_M_fill_2 : decode c_M_fill 2 = .ok (.putfield 48, 3) := by decide +kernel
theorem d_M_fill_5 : decode c_M_fill 5 = .ok (.aload_n 0, 1) := by decide +kernel
theorem d_M_fill_6 : decode c_M_fill 6 = .ok (.getfield 51, 3) := by decide +kernel
theorem d_M_fill_9 : decode c_M_fill 9 = .ok (.ifCond .ne 5, 3) := by decide +kernel
theorem d_M_fill_12 : decode c_M_fill 12 = .ok (.iconst (-1), 1) := by decide +kernel
theorem d_M_fill_13 : decode c_M_fill 13 = .ok (.ireturn, 1) := by decide +kernel
abbrev w_M_fill : List Cond := mx_ws y_M_fill c_M_fill 8 (some .int)
abbrev rm_M_fill : Room := { frames := 30, cells := 0, slots := 0, locals := 600 }
def t_M_fill  (P : Option mx_V → mx_F → Prop) : List (Nat × mx_O) := [
  (0, mx_aload 0 1),
  (1, mx_push (.inl (nI 0)) 2),
  (2, mx_puti 7 0 5),
  (5, mx_aload 0 6),
  (6, mx_get 7 3 9),
  (9, mx_if_ne 14 12),
  (12, mx_push (.inl (-1)) 13),
  (13, mx_iret P)]
set_option maxRecDepth 20000 in
theorem a_M_fill  {p : Program} {l : Launch} {e : Env} {s : State} {m : MethodId} {args : Array Value} {below : List Frame} {meth : Method} {c : Code} {D : va_G} {tc : Nat → ClassId} {tb : Nat → Nat} {sz : Nat} {a0 : Nat → Nat} {G : mx_F} {P : Option mx_V → mx_F → Prop}  (C : mx_C p s m args c c_M_fill y_M_fill.cls w_M_fill D tc tb (mx_A a0 G sz) 8 (mx_Ok0 a0 G)) (hr : meth.sig.returnType = (some .int)) (hlk : meth.locks = false) : mx_all (mx_W p l e rm_M_fill s m args below meth c (MQ below (mx_Q D tc tb a0 G sz P) args s 0 0 (mx_A a0 G sz)) D tc tb (mx_A a0 G sz) 8 (mx_Ok0 a0 G)) (t_M_fill  P) :=
  ⟨mx_s_aload_n C d_M_fill_0 rfl,
  mx_s_iconst C d_M_fill_1 (by decide),
  mx_s_puti (T := T_M) (N := 18) (k := 0) C (fun w h => List.mem_cons_of_mem _ (in_M w h)) rfl ty_M ok_M nm_M (by decide) (List.mem_cons_of_mem _ (mx_in0 (by decide +kernel) rfl)) rfl rfl (ok_M 0 (by decide)) d_M_fill_2,
  mx_s_aload_n C d_M_fill_5 rfl,
  mx_s_get (T := T_M) (N := 18) (k := 3) C (fun w h => List.mem_cons_of_mem _ (in_M w h)) rfl (by decide) (List.mem_cons_of_mem _ (mx_in0 (by decide +kernel) rfl)) rfl d_M_fill_6,
  mx_s_if_ne C d_M_fill_9 (by decide),
  mx_s_iconst C d_M_fill_12 (by decide),
  mx_s_iret C hr hlk d_M_fill_13,
  trivial⟩
set_option maxRecDepth 20000 in
set_option maxHeartbeats 2000000 in
theorem m_M_fill (l : Launch) : mx_M l y_M_fill w_M_fill rm_M_fill sp_M_fill := by
  intro D tc tb ad As F P sz0 h
  obtain ⟨th, sz, sp, wy, kp, sd, x, rfl, h1, hp⟩ := h
  refine mx_run (cc := c_M_fill) (maxL := 8) (ret := (some .int)) (tab := t_M_fill  P) (by decide) rfl D tc tb ad _ F P sz0 (Nat.le_of_ble_eq_true rfl) (fun p e s m args below meth c C hr hlk => a_M_fill  C hr hlk) ?_
  intro Rr go
  have hF := mx_as1 h1
  rw [hF]
  refine go rfl ⟨_, rfl, ?_⟩
  refine go rfl ?_
  refine go rfl ⟨_, _, _, _, rfl, rfl, (Nat.le_of_ble_eq_true rfl), ?_⟩
  refine go rfl ⟨_, rfl, ?_⟩
  refine go rfl ⟨_, _, _, _, rfl, rfl, rfl, ?_⟩
  refine go rfl ⟨_, _, rfl, fun c => ?_, fun c => ?_⟩
  · exact absurd rfl c
  refine go rfl ?_
  refine go rfl ⟨_, rfl, rfl, rfl, ?_⟩
  rw [← hF]
  exact hp _
-- LadderWordsModel.cell(II)I
def sp_M_cell : mx_Sp := fun As F P => ∃ (th sz mn sp : Int32) (wy : Int64) (kp sd : Int32) (f : Nat → Int32) (x y : Int32), As = [mx_r 40, mx_i x, mx_i y] ∧ F 40 = some (e_M th sz mn sp wy kp sd) ∧ F 51 = some (mx_ia 64 f) ∧ (∀ i j : Nat, i < 8 → j < 8 → x = nI i → y = nI j → ∀ z, P (some (mx_i (f (i + 8 * j)))) (mx_put F 40 z)) ∧ (¬ ins x y → ∀ z, P (some (mx_i (-1))) (mx_put F 40 z))
theorem d_M_cell_0 : decode c_M_cell 0 = .ok (.aload_n 0, 1) := by decide +kernel
theorem d_M_cell_1 : decode c_M_cell 1 = .ok (.iconst 0, 1) := by decide +kernel
theorem d_M_cell_2 : decode c_M_cell 2 = .ok (.putfield 48, 3) := by decide +kernel
theorem d_M_cell_5 : decode c_M_cell 5 = .ok (.iload_n 1, 1) := by decide +kernel
theorem d_M_cell_6 : decode c_M_cell 6 = .ok (.iload_n 2, 1) := by decide +kernel
theorem d_M_cell_7 : decode c_M_cell 7 = .ok (.invokestatic 114, 3) := by decide +kernel
theorem d_M_cell_10 : decode c_M_cell 10 = .ok (.ifCond .eq 17, 3) := by decide +kernel
theorem d_M_cell_13 : decode c_M_cell 13 = .ok (.aload_n 0, 1) := by decide +kernel
theorem d_M_cell_14 : decode c_M_cell 14 = .ok (.getfield 45, 3) := by decide +kernel
theorem d_M_cell_17 : decode c_M_cell 17 = .ok (.iload_n 1, 1) := by decide +kernel
theorem d_M_cell_18 : decode c_M_cell 18 = .ok (.bipush 8, 2) := by decide +kernel
theorem d_M_cell_20 : decode c_M_cell 20 = .ok (.iload_n 2, 1) := by decide +kernel
theorem d_M_cell_21 : decode c_M_cell 21 = .ok (.imul, 1) := by decide +kernel
theorem d_M_cell_22 : decode c_M_cell 22 = .ok (.iadd, 1) := by decide +kernel
theorem d_M_cell_23 : decode c_M_cell 23 = .ok (.iaload, 1) := by decide +kernel
theorem d_M_cell_24 : decode c_M_cell 24 = .ok (.goto 4, 3) := by decide +kernel
theorem d_M_cell_27 : decode c_M_cell 27 = .ok (.iconst (-1), 1) := by decide +kernel
theorem d_M_cell_28 : decode c_M_cell 28 = .ok (.ireturn, 1) := by decide +kernel
abbrev w_M_cell : List Cond := mx_ws y_M_cell c_M_cell 3 (some .int)
abbrev rm_M_cell : Room := { frames := 20, cells := 0, slots := 0, locals := 400 }
def t_M_cell  (P : Option mx_V → mx_F → Prop) : List (Nat × mx_O) := [
  (0, mx_aload 0 1),
  (1, mx_push (.inl (nI 0)) 2),
  (2, mx_puti 7 0 5),
  (5, mx_iload 1 6),
  (6, mx_iload 2 7),
  (7, mx_cs2 sp_M_isCell 0 0 10),
  (10, mx_if_eq 27 13),
  (13, mx_aload 0 14),
  (14, mx_get 7 17 17),
  (17, mx_iload 1 18),
  (18, mx_push (.inl (nI 8)) 20),
  (20, mx_iload 2 21),
  (21, mx_imul 22),
  (22, mx_iadd 23),
  (23, mx_iald 24),
  (24, mx_goto 28),
  (27, mx_push (.inl (-1)) 28),
  (28, mx_iret P)]
set_option maxRecDepth 20000 in
theorem a_M_cell  {p : Program} {l : Launch} {e : Env} {s : State} {m : MethodId} {args : Array Value} {below : List Frame} {meth : Method} {c : Code} {D : va_G} {tc : Nat → ClassId} {tb : Nat → Nat} {sz : Nat} {a0 : Nat → Nat} {G : mx_F} {P : Option mx_V → mx_F → Prop}  (C : mx_C p s m args c c_M_cell y_M_cell.cls w_M_cell D tc tb (mx_A a0 G sz) 3 (mx_Ok0 a0 G)) (hr : meth.sig.returnType = (some .int)) (hlk : meth.locks = false) : mx_all (mx_W p l e rm_M_cell s m args below meth c (MQ below (mx_Q D tc tb a0 G sz P) args s 0 0 (mx_A a0 G sz)) D tc tb (mx_A a0 G sz) 3 (mx_Ok0 a0 G)) (t_M_cell  P) :=
  ⟨mx_s_aload_n C d_M_cell_0 rfl,
  mx_s_iconst C d_M_cell_1 (by decide),
  mx_s_puti (T := T_M) (N := 18) (k := 0) C (fun w h => List.mem_cons_of_mem _ (in_M w h)) rfl ty_M ok_M nm_M (by decide) (List.mem_cons_of_mem _ (mx_in0 (by decide +kernel) rfl)) rfl rfl (ok_M 0 (by decide)) d_M_cell_2,
  mx_s_iload_n C d_M_cell_5 rfl,
  mx_s_iload_n C d_M_cell_6 rfl,
  mx_s_cs2 C (m_M_isCell l) (cwS 2 C.2.2.2.2.1 (mx_gS (fun w h => List.mem_cons_of_mem _ h) (mx_in0 (by decide +kernel) rfl) (mx_in0 (by decide +kernel) rfl) (mx_in0 (by decide +kernel) rfl) (mx_in0 (by decide +kernel) rfl)) rfl rfl rfl (by decide +kernel) ⟨by decide, by decide⟩) d_M_cell_7 ⟨Nat.zero_le _, Nat.zero_le _⟩,
  mx_s_if_eq C d_M_cell_10 (by decide),
  mx_s_aload_n C d_M_cell_13 rfl,
  mx_s_get (T := T_M) (N := 18) (k := 17) C (fun w h => List.mem_cons_of_mem _ (in_M w h)) rfl (by decide) (List.mem_cons_of_mem _ (mx_in0 (by decide +kernel) rfl)) rfl d_M_cell_14,
  mx_s_iload_n C d_M_cell_17 rfl,
  mx_s_bipush C d_M_cell_18 (by decide),
  mx_s_iload_n C d_M_cell_20 rfl,
  mx_s_imul C d_M_cell_21,
  mx_s_iadd C d_M_cell_22,
  mx_s_iald C d_M_cell_23,
  mx_s_goto C d_M_cell_24 (by decide),
  mx_s_iconst C d_M_cell_27 (by decide),
  mx_s_iret C hr hlk d_M_cell_28,
  trivial⟩
set_option maxRecDepth 20000 in
set_option maxHeartbeats 2000000 in
theorem m_M_cell (l : Launch) : mx_M l y_M_cell w_M_cell rm_M_cell sp_M_cell := by
  intro D tc tb ad As F P sz0 h
  obtain ⟨th, sz, mn, sp, wy, kp, sd, f, x, y, rfl, h1, h2, ho, hz⟩ := h
  refine mx_run (cc := c_M_cell) (maxL := 3) (ret := (some .int)) (tab := t_M_cell  P) (by decide) rfl D tc tb ad _ F P sz0 (Nat.le_of_ble_eq_true rfl) (fun p e s m args below meth c C hr hlk => a_M_cell  C hr hlk) ?_
  intro Rr go
  have hF := mx_as2 h1 h2
  rw [hF]
  refine go rfl ⟨_, rfl, ?_⟩
  refine go rfl ?_
  refine go rfl ⟨_, _, _, _, rfl, rfl, (Nat.le_of_ble_eq_true rfl), ?_⟩
  refine go rfl ⟨_, rfl, ?_⟩
  refine go rfl ⟨_, rfl, ?_⟩
  refine go rfl ⟨_, _, _, rfl, rfl, rfl, rfl, ⟨x, y, rfl, fun hc => ?_, fun hc => ?_⟩⟩
  · obtain ⟨i, j, hi, hj, rfl, rfl⟩ := ins_at hc
    refine go rfl ⟨_, _, rfl, fun c1 => ?_, fun c1 => ?_⟩
    · exact absurd c1 (by decide)
    refine go rfl ⟨_, rfl, ?_⟩
    refine go rfl ⟨_, _, _, _, rfl, rfl, rfl, ?_⟩
    refine go rfl ⟨_, rfl, ?_⟩
    refine go rfl ?_
    refine go rfl ⟨_, rfl, ?_⟩
    refine go rfl ⟨_, _, _, rfl, ?_⟩
    rw [pk_mul]
    refine go rfl ⟨_, _, _, rfl, ?_⟩
    rw [nI_add]
    refine go rfl ⟨_, _, _, _, _, rfl, rfl, (vp_in_nI (show i + 8 * j < 64 by omega) (by omega)), ?_⟩
    rw [nI_clamp (by omega)]
    refine go rfl ?_
    refine go rfl ⟨_, rfl, rfl, rfl, ?_⟩
    rw [← hF]
    exact ho i j hi hj rfl rfl _
  · refine go rfl ⟨_, _, rfl, fun c1 => ?_, fun c1 => ?_⟩
    · refine go rfl ?_
      refine go rfl ⟨_, rfl, rfl, rfl, ?_⟩
      rw [← hF]
      exact hz hc _
    · exact absurd rfl c1
-- LadderWordsModel.wipe()V
def sp_M_wipe : mx_Sp := fun As F P => ∃ (th sz mn sp : Int32) (wy : Int64) (kp sd : Int32) (f : Nat → Int32), As = [mx_r 40] ∧ F 40 = some (e_M th sz mn sp wy kp sd) ∧ F 51 = some (mx_ia 64 f) ∧ ∀ x y, P none (mx_put (mx_put F 40 x) 51 y)
theorem d_M_wipe_0 : decode c_M_wipe 0 = .ok (.aload_n 0, 1) := by decide +kernel
theorem d_M_wipe_1 : decode c_M_wipe 1 = .ok (.iconst 0, 1) := by decide +kernel
theorem d_M_wipe_2 : decode c_M_wipe 2 = .ok (.putfield 48, 3) := by decide +kernel
theorem d_M_wipe_5 : decode c_M_wipe 5 = .ok (.iconst 0, 1) := by decide +kernel
theorem d_M_wipe_6 : decode c_M_wipe 6 = .ok (.istore_n 1, 1) := by decide +kernel
theorem d_M_wipe_7 : decode c_M_wipe 7 = .ok (.iload_n 1, 1) := by decide +kernel
theorem d_M_wipe_8 : decode c_M_wipe 8 = .ok (.bipush 64, 2) := by decide +kernel
theorem d_M_wipe_10 : decode c_M_wipe 10 = .ok (.if_icmp .ge 16, 3) := by decide +kernel
theorem d_M_wipe_13 : decode c_M_wipe 13 = .ok (.aload_n 0, 1) := by decide +kernel
theorem d_M_wipe_14 : decode c_M_wipe 14 = .ok (.getfield 45, 3) := by decide +kernel
theorem d_M_wipe_17 : decode c_M_wipe 17 = .ok (.iload_n 1, 1) := by decide +kernel
theorem d_M_wipe_18 : decode c_M_wipe 18 = .ok (.iconst 0, 1) := by decide +kernel
theorem d_M_wipe_19 : decode c_M_wipe 19 = .ok (.iastore, 1) := by decide +kernel
theorem d_M_wipe_20 : decode c_M_wipe 20 = .ok (.iinc 1 1, 3) := by decide +kernel
theorem d_M_wipe_23 : decode c_M_wipe 23 = .ok (.goto (-16), 3) := by decide +kernel
theorem d_M_wipe_26 : decode c_M_wipe 26 = .ok (.return_, 1) := by decide +kernel
abbrev w_M_wipe : List Cond := mx_ws y_M_wipe c_M_wipe 2 none
abbrev rm_M_wipe : Room := { frames := 10, cells := 0, slots := 0, locals := 200 }
def t_M_wipe  (P : Option mx_V → mx_F → Prop) : List (Nat × mx_O) := [
  (0, mx_aload 0 1),
  (1, mx_push (.inl (nI 0)) 2),
  (2, mx_puti 7 0 5),
  (5, mx_push (.inl (nI 0)) 6),
  (6, mx_istore 1 7),
  (7, mx_iload 1 8),
  (8, mx_push (.inl (nI 64)) 10),
  (10, mx_ic_ge 26 13),
  (13, mx_aload 0 14),
  (14, mx_get 7 17 17),
  (17, mx_iload 1 18),
  (18, mx_push (.inl (nI 0)) 19),
  (19, mx_iast 20),
  (20, mx_iinc 1 (nI 1) 23),
  (23, mx_goto 7),
  (26, mx_ret P)]
set_option maxRecDepth 20000 in
theorem a_M_wipe  {p : Program} {l : Launch} {e : Env} {s : State} {m : MethodId} {args : Array Value} {below : List Frame} {meth : Method} {c : Code} {D : va_G} {tc : Nat → ClassId} {tb : Nat → Nat} {sz : Nat} {a0 : Nat → Nat} {G : mx_F} {P : Option mx_V → mx_F → Prop}  (C : mx_C p s m args c c_M_wipe y_M_wipe.cls w_M_wipe D tc tb (mx_A a0 G sz) 2 (mx_Ok0 a0 G)) (hr : meth.sig.returnType = none) (hlk : meth.locks = false) : mx_all (mx_W p l e rm_M_wipe s m args below meth c (MQ below (mx_Q D tc tb a0 G sz P) args s 0 0 (mx_A a0 G sz)) D tc tb (mx_A a0 G sz) 2 (mx_Ok0 a0 G)) (t_M_wipe  P) :=
  ⟨mx_s_aload_n C d_M_wipe_0 rfl,
  mx_s_iconst C d_M_wipe_1 (by decide),
  mx_s_puti (T := T_M) (N := 18) (k := 0) C (fun w h => List.mem_cons_of_mem _ (in_M w h)) rfl ty_M ok_M nm_M (by decide) (List.mem_cons_of_mem _ (mx_in0 (by decide +kernel) rfl)) rfl rfl (ok_M 0 (by decide)) d_M_wipe_2,
  mx_s_iconst C d_M_wipe_5 (by decide),
  mx_s_istore_n C d_M_wipe_6 rfl (by decide),
  mx_s_iload_n C d_M_wipe_7 rfl,
  mx_s_bipush C d_M_wipe_8 (by decide),
  mx_s_ic_ge C d_M_wipe_10 (by decide),
  mx_s_aload_n C d_M_wipe_13 rfl,
  mx_s_get (T := T_M) (N := 18) (k := 17) C (fun w h => List.mem_cons_of_mem _ (in_M w h)) rfl (by decide) (List.mem_cons_of_mem _ (mx_in0 (by decide +kernel) rfl)) rfl d_M_wipe_14,
  mx_s_iload_n C d_M_wipe_17 rfl,
  mx_s_iconst C d_M_wipe_18 (by decide),
  mx_s_iast C d_M_wipe_19,
  mx_s_iinc C d_M_wipe_20 (by decide) (by decide),
  mx_s_goto C d_M_wipe_23 (by decide),
  mx_s_ret C hr hlk d_M_wipe_26,
  trivial⟩
set_option maxRecDepth 20000 in
set_option maxHeartbeats 2000000 in
theorem m_M_wipe (l : Launch) : mx_M l y_M_wipe w_M_wipe rm_M_wipe sp_M_wipe := by
  intro D tc tb ad As F P sz0 h
  obtain ⟨th, sz, mn, sp, wy, kp, sd, f, rfl, h1, h2, hp⟩ := h
  refine mx_run (cc := c_M_wipe) (maxL := 2) (ret := none) (tab := t_M_wipe  P) (by decide) rfl D tc tb ad _ F P sz0 (Nat.le_of_ble_eq_true rfl) (fun p e s m args below meth c C hr hlk => a_M_wipe  C hr hlk) ?_
  intro Rr go
  have hF := mx_as2 h1 h2
  rw [hF]
  have loop : ∀ (k i : Nat) (f : Nat → Int32), i + k = 64 → Rr 7 [some (mx_r 40), some (mx_i (nI i))] [] (mx_put (mx_put F 40 (e_M (nI 0) sz mn sp wy kp sd)) 51 (mx_ia 64 f)) 0 0 := by
    intro k
    induction k with
    | zero =>
      intro i f hi
      refine go rfl ⟨_, rfl, ?_⟩
      refine go rfl ?_
      refine go rfl ⟨_, _, _, rfl, fun c => ?_, fun c => ?_⟩
      · refine go rfl ⟨rfl, rfl, rfl, ?_⟩
        exact hp _ _
      · exact absurd (nI_le (by omega) (by omega)) c
    | succ k ih =>
      intro i f hi
      refine go rfl ⟨_, rfl, ?_⟩
      refine go rfl ?_
      refine go rfl ⟨_, _, _, rfl, fun c => ?_, fun c => ?_⟩
      · exact absurd ((nI_leI (by omega) (by omega)).mp c) (by omega)
      · refine go rfl ⟨_, rfl, ?_⟩
        refine go rfl ⟨_, _, _, _, rfl, rfl, rfl, ?_⟩
        refine go rfl ⟨_, rfl, ?_⟩
        refine go rfl ?_
        refine go rfl ⟨_, _, _, _, _, _, rfl, rfl, (vp_in_nI (by omega) (by omega)), ?_⟩
        rw [mx_pp]
        refine go rfl ⟨_, rfl, ?_⟩
        refine go rfl ?_
        rw [nI_add]
        exact ih (i + 1) _ (by omega)
  refine go rfl ⟨_, rfl, ?_⟩
  refine go rfl ?_
  refine go rfl ⟨_, _, _, _, rfl, rfl, (Nat.le_of_ble_eq_true rfl), ?_⟩
  rw [mx_pc _ _ _ (show (40 : Nat) ≠ 51 by decide), mx_pp]
  refine go rfl ?_
  refine go rfl ⟨_, _, rfl, ?_⟩
  exact loop 64 0 f rfl
-- LadderWordsModel.gather(I)I
def sp_M_gather : mx_Sp := fun As F P => ∃ (th mn sp : Int32) (wy : Int64) (kp sd : Int32) (f : Nat → Int32) (most : Int32), As = [mx_r 40, mx_i most] ∧ F 40 = some (e_M th (nI 0) mn sp wy kp sd) ∧ F 49 = some (mx_ia 26 f) ∧ (gm most → ∀ x y, P (some (mx_i (-1))) (mx_put (mx_put F 40 x) 49 y)) ∧ (¬ gm most → ∀ x y, P (some (mx_i (nI 0))) (mx_put (mx_put F 40 x) 49 y))
theorem d_M_gather_0 : decode c_M_gather 0 = .ok (.aload_n 0, 1) := by decide +kernel
theorem d_M_gather_1 : decode c_M_gather 1 = .ok (.iconst 0, 1) := by decide +kernel
theorem d_M_gather_2 : decode c_M_gather 2 = .ok (.putfield 48, 3) := by decide +kernel
theorem d_M_gather_5 : decode c_M_gather 5 = .ok (.iload_n 1, 1) := by decide +kernel
theorem d_M_gather_6 : decode c_M_gather 6 = .ok (.iconst 1, 1) := by decide +kernel
theorem d_M_gather_7 : decode c_M_gather 7 = .ok (.if_icmp .lt 8, 3) := by decide +kernel
theorem d_M_gather_10 : decode c_M_gather 10 = .ok (.iload_n 1, 1) := by decide +kernel
theorem d_M_gather_11 : decode c_M_gather 11 = .ok (.iconst 4, 1) := by decide +kernel
theorem d_M_gather_12 : decode c_M_gather 12 = .ok (.if_icmp .le 5, 3) := by decide +kernel
theorem d_M_gather_15 : decode c_M_gather 15 = .ok (.iconst (-1), 1) := by decide +kernel
theorem d_M_gather_16 : decode c_M_gather 16 = .ok (.ireturn, 1) := by decide +kernel
theorem d_M_gather_17 : decode c_M_gather 17 = .ok (.aload_n 0, 1) := by decide +kernel
theorem d_M_gather_18 : decode c_M_gather 18 = .ok (.iconst 0, 1) := by decide +kernel
theorem d_M_gather_19 : decode c_M_gather 19 = .ok (.putfield 65, 3) := by decide +kernel
theorem d_M_gather_22 : decode c_M_gather 22 = .ok (.iconst 0, 1) := by decide +kernel
theorem d_M_gather_23 : decode c_M_gather 23 = .ok (.istore_n 2, 1) := by decide +kernel
theorem d_M_gather_24 : decode c_M_gather 24 = .ok (.iload_n 2, 1) := by decide +kernel
theorem d_M_gather_25 : decode c_M_gather 25 = .ok (.bipush 26, 2) := by decide +kernel
theorem d_M_gather_27 : decode c_M_gather 27 = .ok (.if_icmp .ge 16, 3) := by decide +kernel
theorem d_M_gather_30 : decode c_M_gather 30 = .ok (.aload_n 0, 1) := by decide +kernel
theorem d_M_gather_31 : decode c_M_gather 31 = .ok (.getfield 39, 3) := by decide +kernel
theorem d_M_gather_34 : decode c_M_gather 34 = .ok (.iload_n 2, 1) := by decide +kernel
theorem d_M_gather_35 : decode c_M_gather 35 = .ok (.iconst 0, 1) := by decide +kernel
theorem d_M_gather_36 : decode c_M_gather 36 = .ok (.iastore, 1) := by decide +kernel
theorem d_M_gather_37 : decode c_M_gather 37 = .ok (.iinc 2 1, 3) := by decide +kernel
theorem d_M_gather_40 : decode c_M_gather 40 = .ok (.goto (-16), 3) := by decide +kernel
theorem d_M_gather_43 : decode c_M_gather 43 = .ok (.iconst 0, 1) := by decide +kernel
theorem d_M_gather_44 : decode c_M_gather 44 = .ok (.istore_n 2, 1) := by decide +kernel
theorem d_M_gather_45 : decode c_M_gather 45 = .ok (.iload_n 2, 1) := by decide +kernel
theorem d_M_gather_46 : decode c_M_gather 46 = .ok (.aload_n 0, 1) := by decide +kernel
theorem d_M_gather_47 : decode c_M_gather 47 = .ok (.getfield 54, 3) := by decide +kernel
theorem d_M_gather_50 : decode c_M_gather 50 = .ok (.if_icmp .ge 27, 3) := by decide +kernel
theorem d_M_gather_77 : decode c_M_gather 77 = .ok (.aload_n 0, 1) := by decide +kernel
theorem d_M_gather_78 : decode c_M_gather 78 = .ok (.getfield 54, 3) := by decide +kernel
theorem d_M_gather_81 : decode c_M_gather 81 = .ok (.ifCond .ne 5, 3) := by decide +kernel
theorem d_M_gather_84 : decode c_M_gather 84 = .ok (.iconst 0, 1) := by decide +kernel
theorem d_M_gather_85 : decode c_M_gather 85 = .ok (.ireturn, 1) := by decide +kernel
abbrev w_M_gather : List Cond := mx_ws y_M_gather c_M_gather 5 (some .int)
abbrev rm_M_gather : Room := { frames := 30, cells := 0, slots := 0, locals := 600 }
def t_M_gather  (P : Option mx_V → mx_F → Prop) : List (Nat × mx_O) := [
  (0, mx_aload 0 1),
  (1, mx_push (.inl (nI 0)) 2),
  (2, mx_puti 7 0 5),
  (5, mx_iload 1 6),
  (6, mx_push (.inl (nI 1)) 7),
  (7, mx_ic_lt 15 10),
  (10, mx_iload 1 11),
  (11, mx_push (.inl (nI 4)) 12),
  (12, mx_ic_le 17 15),
  (15, mx_push (.inl (-1)) 16),
  (16, mx_iret P),
  (17, mx_aload 0 18),
  (18, mx_push (.inl (nI 0)) 19),
  (19, mx_puti 7 11 22),
  (22, mx_push (.inl (nI 0)) 23),
  (23, mx_istore 2 24),
  (24, mx_iload 2 25),
  (25, mx_push (.inl (nI 26)) 27),
  (27, mx_ic_ge 43 30),
  (30, mx_aload 0 31),
  (31, mx_get 7 14 34),
  (34, mx_iload 2 35),
  (35, mx_push (.inl (nI 0)) 36),
  (36, mx_iast 37),
  (37, mx_iinc 2 (nI 1) 40),
  (40, mx_goto 24),
  (43, mx_push (.inl (nI 0)) 44),
  (44, mx_istore 2 45),
  (45, mx_iload 2 46),
  (46, mx_aload 0 47),
  (47, mx_get 7 1 50),
  (50, mx_ic_ge 77 53),
  (77, mx_aload 0 78),
  (78, mx_get 7 1 81),
  (81, mx_if_ne 86 84),
  (84, mx_push (.inl (nI 0)) 85),
  (85, mx_iret P)]
set_option maxRecDepth 20000 in
theorem a_M_gather  {p : Program} {l : Launch} {e : Env} {s : State} {m : MethodId} {args : Array Value} {below : List Frame} {meth : Method} {c : Code} {D : va_G} {tc : Nat → ClassId} {tb : Nat → Nat} {sz : Nat} {a0 : Nat → Nat} {G : mx_F} {P : Option mx_V → mx_F → Prop}  (C : mx_C p s m args c c_M_gather y_M_gather.cls w_M_gather D tc tb (mx_A a0 G sz) 5 (mx_Ok0 a0 G)) (hr : meth.sig.returnType = (some .int)) (hlk : meth.locks = false) : mx_all (mx_W p l e rm_M_gather s m args below meth c (MQ below (mx_Q D tc tb a0 G sz P) args s 0 0 (mx_A a0 G sz)) D tc tb (mx_A a0 G sz) 5 (mx_Ok0 a0 G)) (t_M_gather  P) :=
  ⟨mx_s_aload_n C d_M_gather_0 rfl,
  mx_s_iconst C d_M_gather_1 (by decide),
  mx_s_puti (T := T_M) (N := 18) (k := 0) C (fun w h => List.mem_cons_of_mem _ (in_M w h)) rfl ty_M ok_M nm_M (by decide) (List.mem_cons_of_mem _ (mx_in0 (by decide +kernel) rfl)) rfl rfl (ok_M 0 (by decide)) d_M_gather_2,
  mx_s_iload_n C d_M_gather_5 rfl,
  mx_s_iconst C d_M_gather_6 (by decide),
  mx_s_ic_lt C d_M_gather_7 (by decide),
  mx_s_iload_n C d_M_gather_10 rfl,
  mx_s_iconst C d_M_gather_11 (by decide),
  mx_s_ic_le C d_M_gather_12 (by decide),
  mx_s_iconst C d_M_gather_15 (by decide),
  mx_s_iret C hr hlk d_M_gather_16,
  mx_s_aload_n C d_M_gather_17 rfl,
  mx_s_iconst C d_M_gather_18 (by decide),
  mx_s_puti (T := T_M) (N := 18) (k := 11) C (fun w h => List.mem_cons_of_mem _ (in_M w h)) rfl ty_M ok_M nm_M (by decide) (List.mem_cons_of_mem _ (mx_in0 (by decide +kernel) rfl)) rfl rfl (ok_M 11 (by decide)) d_M_gather_19,
  mx_s_iconst C d_M_gather_22 (by decide),
  mx_s_istore_n C d_M_gather_23 rfl (by decide),
  mx_s_iload_n C d_M_gather_24 rfl,
  mx_s_bipush C d_M_gather_25 (by decide),
  mx_s_ic_ge C d_M_gather_27 (by decide),
  mx_s_aload_n C d_M_gather_30 rfl,
  mx_s_get (T := T_M) (N := 18) (k := 14) C (fun w h => List.mem_cons_of_mem _ (in_M w h)) rfl (by decide) (List.mem_cons_of_mem _ (mx_in0 (by decide +kernel) rfl)) rfl d_M_gather_31,
  mx_s_iload_n C d_M_gather_34 rfl,
  mx_s_iconst C d_M_gather_35 (by decide),
  mx_s_iast C d_M_gather_36,
  mx_s_iinc C d_M_gather_37 (by decide) (by decide),
  mx_s_goto C d_M_gather_40 (by decide),
  mx_s_iconst C d_M_gather_43 (by decide),
  mx_s_istore_n C d_M_gather_44 rfl (by decide),
  mx_s_iload_n C d_M_gather_45 rfl,
  mx_s_aload_n C d_M_gather_46 rfl,
  mx_s_get (T := T_M) (N := 18) (k := 1) C (fun w h => List.mem_cons_of_mem _ (in_M w h)) rfl (by decide) (List.mem_cons_of_mem _ (mx_in0 (by decide +kernel) rfl)) rfl d_M_gather_47,
  mx_s_ic_ge C d_M_gather_50 (by decide),
  mx_s_aload_n C d_M_gather_77 rfl,
  mx_s_get (T := T_M) (N := 18) (k := 1) C (fun w h => List.mem_cons_of_mem _ (in_M w h)) rfl (by decide) (List.mem_cons_of_mem _ (mx_in0 (by decide +kernel) rfl)) rfl d_M_gather_78,
  mx_s_if_ne C d_M_gather_81 (by decide),
  mx_s_iconst C d_M_gather_84 (by decide),
  mx_s_iret C hr hlk d_M_gather_85,
  trivial⟩
set_option maxRecDepth 20000 in
set_option maxHeartbeats 2000000 in
theorem m_M_gather (l : Launch) : mx_M l y_M_gather w_M_gather rm_M_gather sp_M_gather := by
  intro D tc tb ad As F P sz0 h
  obtain ⟨th, mn, sp, wy, kp, sd, f, most, rfl, h1, h2, hz, ho⟩ := h
  refine mx_run (cc := c_M_gather) (maxL := 5) (ret := (some .int)) (tab := t_M_gather  P) (by decide) rfl D tc tb ad _ F P sz0 (Nat.le_of_ble_eq_true rfl) (fun p e s m args below meth c C hr hlk => a_M_gather  C hr hlk) ?_
  intro Rr go
  have hF := mx_as2 h1 h2
  rw [hF]
  have z : gm most → Rr 15 (mx_en [mx_r 40, mx_i most] 5) [] (mx_put (mx_put F 40 (e_M (nI 0) (nI 0) mn sp wy kp sd)) 49 (mx_ia 26 f)) 0 0 := by
    intro hc
    refine go rfl ?_
    refine go rfl ⟨_, rfl, rfl, rfl, ?_⟩
    exact hz hc _ _
  have loop : ¬ gm most → ∀ (k i : Nat) (f : Nat → Int32), i + k = 26 → Rr 24 [some (mx_r 40), some (mx_i most), some (mx_i (nI i)), none, none] [] (mx_put (mx_put F 40 (e_M (nI 0) (nI 0) mn sp wy (nI 0) sd)) 49 (mx_ia 26 f)) 0 0 := by
    intro hc k
    induction k with
    | zero =>
      intro i f hi
      refine go rfl ⟨_, rfl, ?_⟩
      refine go rfl ?_
      refine go rfl ⟨_, _, _, rfl, fun c => ?_, fun c => ?_⟩
      · refine go rfl ?_
        refine go rfl ⟨_, _, rfl, ?_⟩
        refine go rfl ⟨_, rfl, ?_⟩
        refine go rfl ⟨_, rfl, ?_⟩
        refine go rfl ⟨_, _, _, _, rfl, rfl, rfl, ?_⟩
        refine go rfl ⟨_, _, _, rfl, fun c4 => ?_, fun c4 => ?_⟩
        · refine go rfl ⟨_, rfl, ?_⟩
          refine go rfl ⟨_, _, _, _, rfl, rfl, rfl, ?_⟩
          refine go rfl ⟨_, _, rfl, fun c5 => ?_, fun c5 => ?_⟩
          · exact absurd rfl c5
          refine go rfl ?_
          refine go rfl ⟨_, rfl, rfl, rfl, ?_⟩
          exact ho hc _ _
        · exact absurd (nI_le (Nat.le_refl _) (by decide)) c4
      · exact absurd (nI_le (by omega) (by omega)) c
    | succ k ih =>
      intro i f hi
      refine go rfl ⟨_, rfl, ?_⟩
      refine go rfl ?_
      refine go rfl ⟨_, _, _, rfl, fun c => ?_, fun c => ?_⟩
      · exact absurd ((nI_leI (by omega) (by omega)).mp c) (by omega)
      · refine go rfl ⟨_, rfl, ?_⟩
        refine go rfl ⟨_, _, _, _, rfl, rfl, rfl, ?_⟩
        refine go rfl ⟨_, rfl, ?_⟩
        refine go rfl ?_
        refine go rfl ⟨_, _, _, _, _, _, rfl, rfl, (vp_in_nI (by omega) (by omega)), ?_⟩
        rw [mx_pp]
        refine go rfl ⟨_, rfl, ?_⟩
        refine go rfl ?_
        rw [nI_add]
        exact ih (i + 1) _ (by omega)
  refine go rfl ⟨_, rfl, ?_⟩
  refine go rfl ?_
  refine go rfl ⟨_, _, _, _, rfl, rfl, (Nat.le_of_ble_eq_true rfl), ?_⟩
  rw [mx_pc _ _ _ (show (40 : Nat) ≠ 49 by decide), mx_pp]
  refine go rfl ⟨_, rfl, ?_⟩
  refine go rfl ?_
  refine go rfl ⟨_, _, _, rfl, fun c1 => ?_, fun c1 => ?_⟩
  · exact z (Or.inl c1)
  refine go rfl ⟨_, rfl, ?_⟩
  refine go rfl ?_
  refine go rfl ⟨_, _, _, rfl, fun c2 => ?_, fun c2 => ?_⟩
  · refine go rfl ⟨_, rfl, ?_⟩
    refine go rfl ?_
    refine go rfl ⟨_, _, _, _, rfl, rfl, (Nat.le_of_ble_eq_true rfl), ?_⟩
    rw [mx_pc _ _ _ (show (40 : Nat) ≠ 49 by decide), mx_pp]
    refine go rfl ?_
    refine go rfl ⟨_, _, rfl, ?_⟩
    exact loop (fun h => h.elim c1 (fun q => q c2)) 26 0 f rfl
  · exact z (Or.inr c2)
-- LadderWordsModel.square(I)Z
def sp_M_square : mx_Sp := fun As F P => ∃ (th sz sp : Int32) (wy : Int64) (kp sd : Int32) (f : Nat → Int32) (n : Int32), As = [mx_r 40, mx_i n] ∧ F 40 = some (e_M th sz (nI 0) sp wy kp sd) ∧ F 50 = some (mx_ia 6 f) ∧ ∀ x y, P (some (mx_i (nI 0))) (mx_put (mx_put F 40 x) 50 y)
theorem d_M_square_0 : decode c_M_square 0 = .ok (.aload_n 0, 1) := by decide +kernel
theorem d_M_square_1 : decode c_M_square 1 = .ok (.iconst 0, 1) := by decide +kernel
theorem d_M_square_2 : decode c_M_square 2 = .ok (.putfield 48, 3) := by decide +kernel
theorem d_M_square_5 : decode c_M_square 5 = .ok (.aload_n 0, 1) := by decide +kernel
theorem d_M_square_6 : decode c_M_square 6 = .ok (.iconst 0, 1) := by decide +kernel
theorem d_M_square_7 : decode c_M_square 7 = .ok (.putfield 68, 3) := by decide +kernel
theorem d_M_square_10 : decode c_M_square 10 = .ok (.iload_n 1, 1) := by decide +kernel
theorem d_M_square_11 : decode c_M_square 11 = .ok (.iconst 2, 1) := by decide +kernel
theorem d_M_square_12 : decode c_M_square 12 = .ok (.if_icmp .lt 8, 3) := by decide +kernel
theorem d_M_square_15 : decode c_M_square 15 = .ok (.iload_n 1, 1) := by decide +kernel
theorem d_M_square_16 : decode c_M_square 16 = .ok (.iconst 5, 1) := by decide +kernel
theorem d_M_square_17 : decode c_M_square 17 = .ok (.if_icmp .le 5, 3) := by decide +kernel
theorem d_M_square_20 : decode c_M_square 20 = .ok (.iconst 0, 1) := by decide +kernel
theorem d_M_square_21 : decode c_M_square 21 = .ok (.ireturn, 1) := by decide +kernel
theorem d_M_square_22 : decode c_M_square 22 = .ok (.iconst 0, 1) := by decide +kernel
theorem d_M_square_23 : decode c_M_square 23 = .ok (.istore_n 2, 1) := by decide +kernel
theorem d_M_square_24 : decode c_M_square 24 = .ok (.aload_n 0, 1) := by decide +kernel
theorem d_M_square_25 : decode c_M_square 25 = .ok (.getfield 42, 3) := by decide +kernel
theorem d_M_square_28 : decode c_M_square 28 = .ok (.iconst 0, 1) := by decide +kernel
theorem d_M_square_29 : decode c_M_square 29 = .ok (.iconst (-1), 1) := by decide +kernel
theorem d_M_square_30 : decode c_M_square 30 = .ok (.iastore, 1) := by decide +kernel
theorem d_M_square_31 : decode c_M_square 31 = .ok (.iload_n 2, 1) := by decide +kernel
theorem d_M_square_32 : decode c_M_square 32 = .ok (.ifCond .lt 91, 3) := by decide +kernel
theorem d_M_square_35 : decode c_M_square 35 = .ok (.iload_n 2, 1) := by decide +kernel
theorem d_M_square_36 : decode c_M_square 36 = .ok (.iload_n 1, 1) := by decide +kernel
theorem d_M_square_37 : decode c_M_square 37 = .ok (.if_icmp .ge 86, 3) := by decide +kernel
theorem d_M_square_40 : decode c_M_square 40 = .ok (.aload_n 0, 1) := by decide +kernel
theorem d_M_square_41 : decode c_M_square 41 = .ok (.getfield 42, 3) := by decide +kernel
theorem d_M_square_44 : decode c_M_square 44 = .ok (.iload_n 2, 1) := by decide +kernel
theorem d_M_square_45 : decode c_M_square 45 = .ok (.dup2, 1) := by decide +kernel
theorem d_M_square_46 : decode c_M_square 46 = .ok (.iaload, 1) := by decide +kernel
theorem d_M_square_47 : decode c_M_square 47 = .ok (.iconst 1, 1) := by decide +kernel
theorem d_M_square_48 : decode c_M_square 48 = .ok (.iadd, 1) := by decide +kernel
theorem d_M_square_49 : decode c_M_square 49 = .ok (.iastore, 1) := by decide +kernel
theorem d_M_square_50 : decode c_M_square 50 = .ok (.aload_n 0, 1) := by decide +kernel
theorem d_M_square_51 : decode c_M_square 51 = .ok (.getfield 42, 3) := by decide +kernel
theorem d_M_square_54 : decode c_M_square 54 = .ok (.iload_n 2, 1) := by decide +kernel
theorem d_M_square_55 : decode c_M_square 55 = .ok (.iaload, 1) := by decide +kernel
theorem d_M_square_56 : decode c_M_square 56 = .ok (.aload_n 0, 1) := by decide +kernel
theorem d_M_square_57 : decode c_M_square 57 = .ok (.getfield 51, 3) := by decide +kernel
theorem d_M_square_60 : decode c_M_square 60 = .ok (.if_icmp .ge 31, 3) := by decide +kernel
theorem d_M_square_91 : decode c_M_square 91 = .ok (.aload_n 0, 1) := by decide +kernel
theorem d_M_square_92 : decode c_M_square 92 = .ok (.getfield 42, 3) := by decide +kernel
theorem d_M_square_95 : decode c_M_square 95 = .ok (.iload_n 2, 1) := by decide +kernel
theorem d_M_square_96 : decode c_M_square 96 = .ok (.iaload, 1) := by decide +kernel
theorem d_M_square_97 : decode c_M_square 97 = .ok (.aload_n 0, 1) := by decide +kernel
theorem d_M_square_98 : decode c_M_square 98 = .ok (.getfield 51, 3) := by decide +kernel
theorem d_M_square_101 : decode c_M_square 101 = .ok (.if_icmp .ne 9, 3) := by decide +kernel
theorem d_M_square_104 : decode c_M_square 104 = .ok (.iinc 2 (-1), 3) := by decide +kernel
theorem d_M_square_107 : decode c_M_square 107 = .ok (.goto (-76), 3) := by decide +kernel
theorem d_M_square_123 : decode c_M_square 123 = .ok (.aload_n 0, 1) := by decide +kernel
theorem d_M_square_124 : decode c_M_square 124 = .ok (.iload_n 2, 1) := by decide +kernel
theorem d_M_square_125 : decode c_M_square 125 = .ok (.ifCond .ge 7, 3) := by decide +kernel
theorem d_M_square_128 : decode c_M_square 128 = .ok (.iconst 0, 1) := by decide +kernel
theorem d_M_square_129 : decode c_M_square 129 = .ok (.goto 4, 3) := by decide +kernel
theorem d_M_square_133 : decode c_M_square 133 = .ok (.putfield 68, 3) := by decide +kernel
theorem d_M_square_136 : decode c_M_square 136 = .ok (.iload_n 2, 1) := by decide +kernel
theorem d_M_square_137 : decode c_M_square 137 = .ok (.iload_n 1, 1) := by decide +kernel
theorem d_M_square_138 : decode c_M_square 138 = .ok (.if_icmp .ne 7, 3) := by decide +kernel
theorem d_M_square_145 : decode c_M_square 145 = .ok (.iconst 0, 1) := by decide +kernel
theorem d_M_square_146 : decode c_M_square 146 = .ok (.ireturn, 1) := by decide +kernel
abbrev w_M_square : List Cond := mx_ws y_M_square c_M_square 3 (some .boolean)
abbrev rm_M_square : Room := { frames := 30, cells := 0, slots := 0, locals := 600 }
def t_M_square  (P : Option mx_V → mx_F → Prop) : List (Nat × mx_O) := [
  (0, mx_aload 0 1),
  (1, mx_push (.inl (nI 0)) 2),
  (2, mx_puti 7 0 5),
  (5, mx_aload 0 6),
  (6, mx_push (.inl (nI 0)) 7),
  (7, mx_puti 7 15 10),
  (10, mx_iload 1 11),
  (11, mx_push (.inl (nI 2)) 12),
  (12, mx_ic_lt 20 15),
  (15, mx_iload 1 16),
  (16, mx_push (.inl (nI 5)) 17),
  (17, mx_ic_le 22 20),
  (20, mx_push (.inl (nI 0)) 21),
  (21, mx_zret P),
  (22, mx_push (.inl (nI 0)) 23),
  (23, mx_istore 2 24),
  (24, mx_aload 0 25),
  (25, mx_get 7 16 28),
  (28, mx_push (.inl (nI 0)) 29),
  (29, mx_push (.inl (-1)) 30),
  (30, mx_iast 31),
  (31, mx_iload 2 32),
  (32, mx_if_lt 123 35),
  (35, mx_iload 2 36),
  (36, mx_iload 1 37),
  (37, mx_ic_ge 123 40),
  (40, mx_aload 0 41),
  (41, mx_get 7 16 44),
  (44, mx_iload 2 45),
  (45, mx_dup2 46),
  (46, mx_iald 47),
  (47, mx_push (.inl (nI 1)) 48),
  (48, mx_iadd 49),
  (49, mx_iast 50),
  (50, mx_aload 0 51),
  (51, mx_get 7 16 54),
  (54, mx_iload 2 55),
  (55, mx_iald 56),
  (56, mx_aload 0 57),
  (57, mx_get 7 3 60),
  (60, mx_ic_ge 91 63),
  (91, mx_aload 0 92),
  (92, mx_get 7 16 95),
  (95, mx_iload 2 96),
  (96, mx_iald 97),
  (97, mx_aload 0 98),
  (98, mx_get 7 3 101),
  (101, mx_ic_ne 110 104),
  (104, mx_iinc 2 (-1) 107),
  (107, mx_goto 31),
  (123, mx_aload 0 124),
  (124, mx_iload 2 125),
  (125, mx_if_ge 132 128),
  (128, mx_push (.inl (nI 0)) 129),
  (129, mx_goto 133),
  (133, mx_puti 7 15 136),
  (136, mx_iload 2 137),
  (137, mx_iload 1 138),
  (138, mx_ic_ne 145 141),
  (145, mx_push (.inl (nI 0)) 146),
  (146, mx_zret P)]
set_option maxRecDepth 20000 in
theorem a_M_square  {p : Program} {l : Launch} {e : Env} {s : State} {m : MethodId} {args : Array Value} {below : List Frame} {meth : Method} {c : Code} {D : va_G} {tc : Nat → ClassId} {tb : Nat → Nat} {sz : Nat} {a0 : Nat → Nat} {G : mx_F} {P : Option mx_V → mx_F → Prop}  (C : mx_C p s m args c c_M_square y_M_square.cls w_M_square D tc tb (mx_A a0 G sz) 3 (mx_Ok0 a0 G)) (hr : meth.sig.returnType = (some .boolean)) (hlk : meth.locks = false) : mx_all (mx_W p l e rm_M_square s m args below meth c (MQ below (mx_Q D tc tb a0 G sz P) args s 0 0 (mx_A a0 G sz)) D tc tb (mx_A a0 G sz) 3 (mx_Ok0 a0 G)) (t_M_square  P) :=
  ⟨mx_s_aload_n C d_M_square_0 rfl,
  mx_s_iconst C d_M_square_1 (by decide),
  mx_s_puti (T := T_M) (N := 18) (k := 0) C (fun w h => List.mem_cons_of_mem _ (in_M w h)) rfl ty_M ok_M nm_M (by decide) (List.mem_cons_of_mem _ (mx_in0 (by decide +kernel) rfl)) rfl rfl (ok_M 0 (by decide)) d_M_square_2,
  mx_s_aload_n C d_M_square_5 rfl,
  mx_s_iconst C d_M_square_6 (by decide),
  mx_s_puti (T := T_M) (N := 18) (k := 15) C (fun w h => List.mem_cons_of_mem _ (in_M w h)) rfl ty_M ok_M nm_M (by decide) (List.mem_cons_of_mem _ (mx_in0 (by decide +kernel) rfl)) rfl rfl (ok_M 15 (by decide)) d_M_square_7,
  mx_s_iload_n C d_M_square_10 rfl,
  mx_s_iconst C d_M_square_11 (by decide),
  mx_s_ic_lt C d_M_square_12 (by decide),
  mx_s_iload_n C d_M_square_15 rfl,
  mx_s_iconst C d_M_square_16 (by decide),
  mx_s_ic_le C d_M_square_17 (by decide),
  mx_s_iconst C d_M_square_20 (by decide),
  mx_s_zret C hr hlk d_M_square_21,
  mx_s_iconst C d_M_square_22 (by decide),
  mx_s_istore_n C d_M_square_23 rfl (by decide),
  mx_s_aload_n C d_M_square_24 rfl,
  mx_s_get (T := T_M) (N := 18) (k := 16) C (fun w h => List.mem_cons_of_mem _ (in_M w h)) rfl (by decide) (List.mem_cons_of_mem _ (mx_in0 (by decide +kernel) rfl)) rfl d_M_square_25,
  mx_s_iconst C d_M_square_28 (by decide),
  mx_s_iconst C d_M_square_29 (by decide),
  mx_s_iast C d_M_square_30,
  mx_s_iload_n C d_M_square_31 rfl,
  mx_s_if_lt C d_M_square_32 (by decide),
  mx_s_iload_n C d_M_square_35 rfl,
  mx_s_iload_n C d_M_square_36 rfl,
  mx_s_ic_ge C d_M_square_37 (by decide),
  mx_s_aload_n C d_M_square_40 rfl,
  mx_s_get (T := T_M) (N := 18) (k := 16) C (fun w h => List.mem_cons_of_mem _ (in_M w h)) rfl (by decide) (List.mem_cons_of_mem _ (mx_in0 (by decide +kernel) rfl)) rfl d_M_square_41,
  mx_s_iload_n C d_M_square_44 rfl,
  mx_s_dup2 C d_M_square_45,
  mx_s_iald C d_M_square_46,
  mx_s_iconst C d_M_square_47 (by decide),
  mx_s_iadd C d_M_square_48,
  mx_s_iast C d_M_square_49,
  mx_s_aload_n C d_M_square_50 rfl,
  mx_s_get (T := T_M) (N := 18) (k := 16) C (fun w h => List.mem_cons_of_mem _ (in_M w h)) rfl (by decide) (List.mem_cons_of_mem _ (mx_in0 (by decide +kernel) rfl)) rfl d_M_square_51,
  mx_s_iload_n C d_M_square_54 rfl,
  mx_s_iald C d_M_square_55,
  mx_s_aload_n C d_M_square_56 rfl,
  mx_s_get (T := T_M) (N := 18) (k := 3) C (fun w h => List.mem_cons_of_mem _ (in_M w h)) rfl (by decide) (List.mem_cons_of_mem _ (mx_in0 (by decide +kernel) rfl)) rfl d_M_square_57,
  mx_s_ic_ge C d_M_square_60 (by decide),
  mx_s_aload_n C d_M_square_91 rfl,
  mx_s_get (T := T_M) (N := 18) (k := 16) C (fun w h => List.mem_cons_of_mem _ (in_M w h)) rfl (by decide) (List.mem_cons_of_mem _ (mx_in0 (by decide +kernel) rfl)) rfl d_M_square_92,
  mx_s_iload_n C d_M_square_95 rfl,
  mx_s_iald C d_M_square_96,
  mx_s_aload_n C d_M_square_97 rfl,
  mx_s_get (T := T_M) (N := 18) (k := 3) C (fun w h => List.mem_cons_of_mem _ (in_M w h)) rfl (by decide) (List.mem_cons_of_mem _ (mx_in0 (by decide +kernel) rfl)) rfl d_M_square_98,
  mx_s_ic_ne C d_M_square_101 (by decide),
  mx_s_iinc C d_M_square_104 (by decide) (by decide),
  mx_s_goto C d_M_square_107 (by decide),
  mx_s_aload_n C d_M_square_123 rfl,
  mx_s_iload_n C d_M_square_124 rfl,
  mx_s_if_ge C d_M_square_125 (by decide),
  mx_s_iconst C d_M_square_128 (by decide),
  mx_s_goto C d_M_square_129 (by decide),
  mx_s_puti (T := T_M) (N := 18) (k := 15) C (fun w h => List.mem_cons_of_mem _ (in_M w h)) rfl ty_M ok_M nm_M (by decide) (List.mem_cons_of_mem _ (mx_in0 (by decide +kernel) rfl)) rfl rfl (ok_M 15 (by decide)) d_M_square_133,
  mx_s_iload_n C d_M_square_136 rfl,
  mx_s_iload_n C d_M_square_137 rfl,
  mx_s_ic_ne C d_M_square_138 (by decide),
  mx_s_iconst C d_M_square_145 (by decide),
  mx_s_zret C hr hlk d_M_square_146,
  trivial⟩
set_option maxRecDepth 20000 in
set_option maxHeartbeats 2000000 in
theorem m_M_square (l : Launch) : mx_M l y_M_square w_M_square rm_M_square sp_M_square := by
  intro D tc tb ad As F P sz0 h
  obtain ⟨th, sz, sp, wy, kp, sd, f, n, rfl, h1, h2, hp⟩ := h
  refine mx_run (cc := c_M_square) (maxL := 3) (ret := (some .boolean)) (tab := t_M_square  P) (by decide) rfl D tc tb ad _ F P sz0 (Nat.le_of_ble_eq_true rfl) (fun p e s m args below meth c C hr hlk => a_M_square  C hr hlk) ?_
  intro Rr go
  have hF := mx_as2 h1 h2
  rw [hF]
  refine go rfl ⟨_, rfl, ?_⟩
  refine go rfl ?_
  refine go rfl ⟨_, _, _, _, rfl, rfl, (Nat.le_of_ble_eq_true rfl), ?_⟩
  refine go rfl ⟨_, rfl, ?_⟩
  refine go rfl ?_
  refine go rfl ⟨_, _, _, _, rfl, rfl, (Nat.le_of_ble_eq_true rfl), ?_⟩
  rw [mx_pp, mx_pc _ _ _ (show (40 : Nat) ≠ 50 by decide), mx_pp]
  refine go rfl ⟨_, rfl, ?_⟩
  refine go rfl ?_
  refine go rfl ⟨_, _, _, rfl, fun c1 => ?_, fun c1 => ?_⟩
  · refine go rfl ?_
    refine go rfl ⟨_, rfl, rfl, rfl, (Or.inl rfl), ?_⟩
    exact hp _ _
  refine go rfl ⟨_, rfl, ?_⟩
  refine go rfl ?_
  refine go rfl ⟨_, _, _, rfl, fun c2 => ?_, fun c2 => ?_⟩
  · refine go rfl ?_
    refine go rfl ⟨_, _, rfl, ?_⟩
    refine go rfl ⟨_, rfl, ?_⟩
    refine go rfl ⟨_, _, _, _, rfl, rfl, rfl, ?_⟩
    refine go rfl ?_
    refine go rfl ?_
    refine go rfl ⟨_, _, _, _, _, _, rfl, rfl, (vp_in_nI (by decide) (by decide)), ?_⟩
    rw [mx_pp]
    refine go rfl ⟨_, rfl, ?_⟩
    refine go rfl ⟨_, _, rfl, fun c3 => ?_, fun c3 => ?_⟩
    · exact absurd c3 (by decide)
    refine go rfl ⟨_, rfl, ?_⟩
    refine go rfl ⟨_, rfl, ?_⟩
    refine go rfl ⟨_, _, _, rfl, fun c4 => ?_, fun c4 => ?_⟩
    · exact absurd (Int32.lt_of_le_of_lt c4 (show nI 0 < nI 2 by decide)) c1
    refine go rfl ⟨_, rfl, ?_⟩
    refine go rfl ⟨_, _, _, _, rfl, rfl, rfl, ?_⟩
    refine go rfl ⟨_, rfl, ?_⟩
    refine go rfl ⟨_, _, _, rfl, rfl, rfl, ?_⟩
    refine go rfl ⟨_, _, _, _, _, rfl, rfl, (vp_in_nI (by decide) (by decide)), ?_⟩
    refine go rfl ?_
    refine go rfl ⟨_, _, _, rfl, ?_⟩
    refine go rfl ⟨_, _, _, _, _, _, rfl, rfl, (vp_in_nI (by decide) (by decide)), ?_⟩
    rw [mx_pp]
    refine go rfl ⟨_, rfl, ?_⟩
    refine go rfl ⟨_, _, _, _, rfl, rfl, rfl, ?_⟩
    refine go rfl ⟨_, rfl, ?_⟩
    refine go rfl ⟨_, _, _, _, _, rfl, rfl, (vp_in_nI (by decide) (by decide)), ?_⟩
    refine go rfl ⟨_, rfl, ?_⟩
    refine go rfl ⟨_, _, _, _, rfl, rfl, rfl, ?_⟩
    refine go rfl ⟨_, _, _, rfl, fun c5 => ?_, fun c5 => ?_⟩
    · refine go rfl ⟨_, rfl, ?_⟩
      refine go rfl ⟨_, _, _, _, rfl, rfl, rfl, ?_⟩
      refine go rfl ⟨_, rfl, ?_⟩
      refine go rfl ⟨_, _, _, _, _, rfl, rfl, (vp_in_nI (by decide) (by decide)), ?_⟩
      refine go rfl ⟨_, rfl, ?_⟩
      refine go rfl ⟨_, _, _, _, rfl, rfl, rfl, ?_⟩
      refine go rfl ⟨_, _, _, rfl, fun c6 => ?_, fun c6 => ?_⟩
      · exact absurd (by rw [pk_us, pk_us]; decide) c6
      refine go rfl ⟨_, rfl, ?_⟩
      refine go rfl ?_
      refine go rfl ⟨_, rfl, ?_⟩
      refine go rfl ⟨_, _, rfl, fun c7 => ?_, fun c7 => ?_⟩
      · refine go rfl ⟨_, rfl, ?_⟩
        refine go rfl ⟨_, rfl, ?_⟩
        refine go rfl ⟨_, _, rfl, fun c8 => ?_, fun c8 => ?_⟩
        · exact absurd c8 (by decide)
        refine go rfl ?_
        refine go rfl ?_
        refine go rfl ⟨_, _, _, _, rfl, rfl, (Nat.le_of_ble_eq_true rfl), ?_⟩
        refine go rfl ⟨_, rfl, ?_⟩
        refine go rfl ⟨_, rfl, ?_⟩
        refine go rfl ⟨_, _, _, rfl, fun c9 => ?_, fun c9 => ?_⟩
        · refine go rfl ?_
          refine go rfl ⟨_, rfl, rfl, rfl, (Or.inl rfl), ?_⟩
          rw [mx_pc _ _ _ (show (40 : Nat) ≠ 50 by decide), mx_pp]
          exact hp _ _
        · exact absurd (show n < nI 2 by rw [← c9]; decide) c1
      · exact absurd (by decide) c7
    · exact absurd (by rw [pk_us, pk_us]; decide) c5
  · refine go rfl ?_
    refine go rfl ⟨_, rfl, rfl, rfl, (Or.inl rfl), ?_⟩
    exact hp _ _
