abbrev ins (x y : Int32) : Prop := ¬ (x < 0 ∨ nI 8 ≤ x ∨ y < 0 ∨ nI 8 ≤ y)
/-- the reference's words: n of them, of N w letters each -/
def mok (n : Nat) (N : Nat → Nat) (ml : Nat → Int32) : Prop := n ≤ 60 ∧ (∀ w, w < n → 1 ≤ N w ∧ N w ≤ 6) ∧ ∀ w, w < n → ml w = nI (N w)
def msame (N : Nat → Nat) (lt rl : Nat → Int32) (rn j : Nat) : Prop := N j = rn ∧ ∀ i, i < rn → lt (6 * j + i) = rl i
-- LadderWordsModel.unit(I)Z
def sp_M_unit : mx_Sp := fun As F P => ∃ (th mn sp : Int32) (wy : Int64) (kp sd : Int32) (n : Nat) (f : Nat → Int32) (u : Int32), As = [mx_r 40, mx_i u] ∧ F 40 = some (e_M th (nI n) mn sp wy kp sd) ∧ F 41 = some (mx_ia 12 f) ∧ n ≤ 12 ∧ (uc n u → P (some (mx_i (nI 0))) (mx_put F 40 (e_M (nI 0) (nI n) mn sp wy kp sd))) ∧ (¬ uc n u → P (some (mx_i (nI 1))) (mx_put (mx_put (mx_put F 40 (e_M (nI 0) (nI n) mn sp wy kp sd)) 41 (mx_ia 12 (upd f n u))) 40 (e_M (nI 0) (nI (n + 1)) mn sp wy kp sd)))
theorem d_M_unit_0 : decode c_M_unit 0 = .ok (.aload_n 0, 1) := by decide +kernel
theorem d_M_unit_1 : decode c_M_unit 1 = .ok (.iconst 0, 1) := by decide +kernel
theorem d_M_unit_2 : decode c_M_unit 2 = .ok (.putfield 48, 3) := by decide +kernel
theorem d_M_unit_5 : decode c_M_unit 5 = .ok (.iload_n 1, 1) := by decide +kernel
theorem d_M_unit_6 : decode c_M_unit 6 = .ok (.bipush 97, 2) := by decide +kernel
theorem d_M_unit_8 : decode c_M_unit 8 = .ok (.if_icmp .lt 18, 3) := by decide +kernel
theorem d_M_unit_11 : decode c_M_unit 11 = .ok (.iload_n 1, 1) := by decide +kernel
theorem d_M_unit_12 : decode c_M_unit 12 = .ok (.bipush 122, 2) := by decide +kernel
theorem d_M_unit_14 : decode c_M_unit 14 = .ok (.if_icmp .gt 12, 3) := by decide +kernel
theorem d_M_unit_17 : decode c_M_unit 17 = .ok (.aload_n 0, 1) := by decide +kernel
theorem d_M_unit_18 : decode c_M_unit 18 = .ok (.getfield 54, 3) := by decide +kernel
theorem d_M_unit_21 : decode c_M_unit 21 = .ok (.bipush 12, 2) := by decide +kernel
theorem d_M_unit_23 : decode c_M_unit 23 = .ok (.if_icmp .ne 5, 3) := by decide +kernel
theorem d_M_unit_26 : decode c_M_unit 26 = .ok (.iconst 0, 1) := by decide +kernel
theorem d_M_unit_27 : decode c_M_unit 27 = .ok (.ireturn, 1) := by decide +kernel
theorem d_M_unit_28 : decode c_M_unit 28 = .ok (.aload_n 0, 1) := by decide +kernel
theorem d_M_unit_29 : decode c_M_unit 29 = .ok (.getfield 7, 3) := by decide +kernel
theorem d_M_unit_32 : decode c_M_unit 32 = .ok (.aload_n 0, 1) := by decide +kernel
theorem d_M_unit_33 : decode c_M_unit 33 = .ok (.getfield 54, 3) := by decide +kernel
theorem d_M_unit_36 : decode c_M_unit 36 = .ok (.iload_n 1, 1) := by decide +kernel
theorem d_M_unit_37 : decode c_M_unit 37 = .ok (.iastore, 1) := by decide +kernel
theorem d_M_unit_38 : decode c_M_unit 38 = .ok (.aload_n 0, 1) := by decide +kernel
theorem d_M_unit_39 : decode c_M_unit 39 = .ok (.dup, 1) := by decide +kernel
theorem d_M_unit_40 : decode c_M_unit 40 = .ok (.getfield 54, 3) := by decide +kernel
theorem d_M_unit_43 : decode c_M_unit 43 = .ok (.iconst 1, 1) := by decide +kernel
theorem d_M_unit_44 : decode c_M_unit 44 = .ok (.iadd, 1) := by decide +kernel
theorem d_M_unit_45 : decode c_M_unit 45 = .ok (.putfield 54, 3) := by decide +kernel
theorem d_M_unit_48 : decode c_M_unit 48 = .ok (.iconst 1, 1) := by decide +kernel
theorem d_M_unit_49 : decode c_M_unit 49 = .ok (.ireturn, 1) := by decide +kernel
abbrev w_M_unit : List Cond := mx_ws y_M_unit c_M_unit 2 (some .boolean)
abbrev rm_M_unit : Room := { frames := 10, cells := 0, slots := 0, locals := 200 }
def t_M_unit  (P : Option mx_V → mx_F → Prop) : List (Nat × mx_O) := [
  (0, mx_aload 0 1),
  (1, mx_push (.inl (nI 0)) 2),
  (2, mx_puti 7 0 5),
  (5, mx_iload 1 6),
  (6, mx_push (.inl (nI 97)) 8),
  (8, mx_ic_lt 26 11),
  (11, mx_iload 1 12),
  (12, mx_push (.inl (nI 122)) 14),
  (14, mx_ic_gt 26 17),
  (17, mx_aload 0 18),
  (18, mx_get 7 1 21),
  (21, mx_push (.inl (nI 12)) 23),
  (23, mx_ic_ne 28 26),
  (26, mx_push (.inl (nI 0)) 27),
  (27, mx_zret P),
  (28, mx_aload 0 29),
  (29, mx_get 7 2 32),
  (32, mx_aload 0 33),
  (33, mx_get 7 1 36),
  (36, mx_iload 1 37),
  (37, mx_iast 38),
  (38, mx_aload 0 39),
  (39, mx_dup 40),
  (40, mx_get 7 1 43),
  (43, mx_push (.inl (nI 1)) 44),
  (44, mx_iadd 45),
  (45, mx_puti 7 1 48),
  (48, mx_push (.inl (nI 1)) 49),
  (49, mx_zret P)]
set_option maxRecDepth 20000 in
theorem a_M_unit  {p : Program} {l : Launch} {e : Env} {s : State} {m : MethodId} {args : Array Value} {below : List Frame} {meth : Method} {c : Code} {D : va_G} {tc : Nat → ClassId} {tb : Nat → Nat} {sz : Nat} {a0 : Nat → Nat} {G : mx_F} {P : Option mx_V → mx_F → Prop}  (C : mx_C p s m args c c_M_unit y_M_unit.cls w_M_unit D tc tb (mx_A a0 G sz) 2 (mx_Ok0 a0 G)) (hr : meth.sig.returnType = (some .boolean)) (hlk : meth.locks = false) : mx_all (mx_W p l e rm_M_unit s m args below meth c (MQ below (mx_Q D tc tb a0 G sz P) args s 0 0 (mx_A a0 G sz)) D tc tb (mx_A a0 G sz) 2 (mx_Ok0 a0 G)) (t_M_unit  P) :=
  ⟨mx_s_aload_n C d_M_unit_0 rfl,
  mx_s_iconst C d_M_unit_1 (by decide),
  mx_s_puti (T := T_M) (N := 18) (k := 0) C (fun w h => List.mem_cons_of_mem _ (in_M w h)) rfl ty_M ok_M nm_M (by decide) (List.mem_cons_of_mem _ fk_M_48) rfl rfl (ok_M 0 (by decide)) d_M_unit_2,
  mx_s_iload_n C d_M_unit_5 rfl,
  mx_s_bipush C d_M_unit_6 (by decide),
  mx_s_ic_lt C d_M_unit_8 (by decide),
  mx_s_iload_n C d_M_unit_11 rfl,
  mx_s_bipush C d_M_unit_12 (by decide),
  mx_s_ic_gt C d_M_unit_14 (by decide),
  mx_s_aload_n C d_M_unit_17 rfl,
  mx_s_get (T := T_M) (N := 18) (k := 1) C (fun w h => List.mem_cons_of_mem _ (in_M w h)) rfl (by decide) (List.mem_cons_of_mem _ fk_M_54) rfl d_M_unit_18,
  mx_s_bipush C d_M_unit_21 (by decide),
  mx_s_ic_ne C d_M_unit_23 (by decide),
  mx_s_iconst C d_M_unit_26 (by decide),
  mx_s_zret C hr hlk d_M_unit_27,
  mx_s_aload_n C d_M_unit_28 rfl,
  mx_s_get (T := T_M) (N := 18) (k := 2) C (fun w h => List.mem_cons_of_mem _ (in_M w h)) rfl (by decide) (List.mem_cons_of_mem _ fk_M_7) rfl d_M_unit_29,
  mx_s_aload_n C d_M_unit_32 rfl,
  mx_s_get (T := T_M) (N := 18) (k := 1) C (fun w h => List.mem_cons_of_mem _ (in_M w h)) rfl (by decide) (List.mem_cons_of_mem _ fk_M_54) rfl d_M_unit_33,
  mx_s_iload_n C d_M_unit_36 rfl,
  mx_s_iast C d_M_unit_37,
  mx_s_aload_n C d_M_unit_38 rfl,
  mx_s_dup C d_M_unit_39,
  mx_s_get (T := T_M) (N := 18) (k := 1) C (fun w h => List.mem_cons_of_mem _ (in_M w h)) rfl (by decide) (List.mem_cons_of_mem _ fk_M_54) rfl d_M_unit_40,
  mx_s_iconst C d_M_unit_43 (by decide),
  mx_s_iadd C d_M_unit_44,
  mx_s_puti (T := T_M) (N := 18) (k := 1) C (fun w h => List.mem_cons_of_mem _ (in_M w h)) rfl ty_M ok_M nm_M (by decide) (List.mem_cons_of_mem _ fk_M_54) rfl rfl (ok_M 1 (by decide)) d_M_unit_45,
  mx_s_iconst C d_M_unit_48 (by decide),
  mx_s_zret C hr hlk d_M_unit_49,
  trivial⟩
set_option maxRecDepth 20000 in
set_option maxHeartbeats 2000000 in
theorem m_M_unit (l : Launch) : mx_M l y_M_unit w_M_unit rm_M_unit sp_M_unit := by
  intro zD ztc ztb zad As F P sz0 h
  obtain ⟨th, mn, sp, wy, kp, sd, n, f, u, rfl, h1, h2, hn, hz, ho⟩ := h
  refine mx_run (cc := c_M_unit) (maxL := 2) (ret := (some .boolean)) (tab := t_M_unit  P) (by decide) rfl zD ztc ztb zad _ F P sz0 (Nat.le_of_ble_eq_true rfl) (fun p e s m args below meth c C hr hlk => a_M_unit  C hr hlk) ?_
  intro Rr go
  have hF := mx_as2 h1 h2
  rw [hF]
  have z : uc n u → Rr 26 [some (mx_r 40), some (mx_i u)] [] (mx_put (mx_put (mx_put F 40 (e_M th (nI n) mn sp wy kp sd)) 41 (mx_ia 12 f)) 40 (e_M (nI 0) (nI n) mn sp wy kp sd)) 0 0 := by
    intro hc
    refine go rfl ?_
    refine go rfl ⟨_, rfl, rfl, rfl, (Or.inl rfl), ?_⟩
    rw [← hF]
    exact hz hc
  refine go rfl ⟨_, rfl, ?_⟩
  refine go rfl ?_
  refine go rfl ⟨_, _, _, _, rfl, rfl, (Nat.le_of_ble_eq_true rfl), ?_⟩
  refine go rfl ⟨_, rfl, ?_⟩
  refine go rfl ?_
  refine go rfl ⟨_, _, _, rfl, fun c1 => ?_, fun c1 => ?_⟩
  · exact z (Or.inl c1)
  refine go rfl ⟨_, rfl, ?_⟩
  refine go rfl ?_
  refine go rfl ⟨_, _, _, rfl, fun c2 => ?_, fun c2 => ?_⟩
  · exact z (Or.inr (Or.inl c2))
  refine go rfl ⟨_, rfl, ?_⟩
  refine go rfl ⟨_, _, _, _, rfl, rfl, rfl, ?_⟩
  refine go rfl ?_
  refine go rfl ⟨_, _, _, rfl, fun c3 => ?_, fun c3 => ?_⟩
  · have hlt : n < 12 := by
      rcases Nat.lt_or_ge n 12 with q | q
      · exact q
      · exact absurd (by rw [show n = 12 by omega]) c3
    refine go rfl ⟨_, rfl, ?_⟩
    refine go rfl ⟨_, _, _, _, rfl, rfl, rfl, ?_⟩
    refine go rfl ⟨_, rfl, ?_⟩
    refine go rfl ⟨_, _, _, _, rfl, rfl, rfl, ?_⟩
    refine go rfl ⟨_, rfl, ?_⟩
    refine go rfl ⟨_, _, _, _, _, _, rfl, rfl, (vp_in_nI hlt (by omega)), ?_⟩
    rw [nI_clamp (by omega)]
    refine go rfl ⟨_, rfl, ?_⟩
    refine go rfl ⟨_, _, rfl, rfl, ?_⟩
    refine go rfl ⟨_, _, _, _, rfl, rfl, rfl, ?_⟩
    refine go rfl ?_
    refine go rfl ⟨_, _, _, rfl, ?_⟩
    rw [nI_add]
    refine go rfl ⟨_, _, _, _, rfl, rfl, (Nat.le_of_ble_eq_true rfl), ?_⟩
    refine go rfl ?_
    refine go rfl ⟨_, rfl, rfl, rfl, (Or.inr rfl), ?_⟩
    rw [← hF]
    refine ho (fun hc => ?_)
    rcases hc with hc | hc | hc
    · exact c1 hc
    · exact c2 hc
    · exact absurd ((nI_leI (by omega) (by omega)).mp hc) (by omega)
  · exact z (Or.inr (Or.inr (by rw [c3]; decide)))
-- LadderWordsModel.isWord(I)Z
def sp_M_isWord : mx_Sp := fun As F P => ∃ (th sz sp : Int32) (wy : Int64) (kp sd : Int32) (n : Nat) (w : Int32), As = [mx_r 40, mx_i w] ∧ F 40 = some (e_M th sz (nI n) sp wy kp sd) ∧ ((w < 0 ∨ nI n ≤ w) → P (some (mx_i (nI 0))) F) ∧ (¬ (w < 0 ∨ nI n ≤ w) → P (some (mx_i (nI 1))) F)
theorem d_M_isWord_0 : decode c_M_isWord 0 = .ok (.iload_n 1, 1) := by decide +kernel
theorem d_M_isWord_1 : decode c_M_isWord 1 = .ok (.ifCond .lt 15, 3) := by decide +kernel
theorem d_M_isWord_4 : decode c_M_isWord 4 = .ok (.iload_n 1, 1) := by decide +kernel
theorem d_M_isWord_5 : decode c_M_isWord 5 = .ok (.aload_n 0, 1) := by decide +kernel
theorem d_M_isWord_6 : decode c_M_isWord 6 = .ok (.getfield 51, 3) := by decide +kernel
theorem d_M_isWord_9 : decode c_M_isWord 9 = .ok (.if_icmp .ge 7, 3) := by decide +kernel
theorem d_M_isWord_12 : decode c_M_isWord 12 = .ok (.iconst 1, 1) := by decide +kernel
theorem d_M_isWord_13 : decode c_M_isWord 13 = .ok (.goto 4, 3) := by decide +kernel
theorem d_M_isWord_16 : decode c_M_isWord 16 = .ok (.iconst 0, 1) := by decide +kernel
theorem d_M_isWord_17 : decode c_M_isWord 17 = .ok (.ireturn, 1) := by decide +kernel
abbrev w_M_isWord : List Cond := mx_ws y_M_isWord c_M_isWord 2 (some .boolean)
abbrev rm_M_isWord : Room := { frames := 10, cells := 0, slots := 0, locals := 200 }
def t_M_isWord  (P : Option mx_V → mx_F → Prop) : List (Nat × mx_O) := [
  (0, mx_iload 1 1),
  (1, mx_if_lt 16 4),
  (4, mx_iload 1 5),
  (5, mx_aload 0 6),
  (6, mx_get 7 3 9),
  (9, mx_ic_ge 16 12),
  (12, mx_push (.inl (nI 1)) 13),
  (13, mx_goto 17),
  (16, mx_push (.inl (nI 0)) 17),
  (17, mx_zret P)]
set_option maxRecDepth 20000 in
theorem a_M_isWord  {p : Program} {l : Launch} {e : Env} {s : State} {m : MethodId} {args : Array Value} {below : List Frame} {meth : Method} {c : Code} {D : va_G} {tc : Nat → ClassId} {tb : Nat → Nat} {sz : Nat} {a0 : Nat → Nat} {G : mx_F} {P : Option mx_V → mx_F → Prop}  (C : mx_C p s m args c c_M_isWord y_M_isWord.cls w_M_isWord D tc tb (mx_A a0 G sz) 2 (mx_Ok0 a0 G)) (hr : meth.sig.returnType = (some .boolean)) (hlk : meth.locks = false) : mx_all (mx_W p l e rm_M_isWord s m args below meth c (MQ below (mx_Q D tc tb a0 G sz P) args s 0 0 (mx_A a0 G sz)) D tc tb (mx_A a0 G sz) 2 (mx_Ok0 a0 G)) (t_M_isWord  P) :=
  ⟨mx_s_iload_n C d_M_isWord_0 rfl,
  mx_s_if_lt C d_M_isWord_1 (by decide),
  mx_s_iload_n C d_M_isWord_4 rfl,
  mx_s_aload_n C d_M_isWord_5 rfl,
  mx_s_get (T := T_M) (N := 18) (k := 3) C (fun w h => List.mem_cons_of_mem _ (in_M w h)) rfl (by decide) (List.mem_cons_of_mem _ fk_M_51) rfl d_M_isWord_6,
  mx_s_ic_ge C d_M_isWord_9 (by decide),
  mx_s_iconst C d_M_isWord_12 (by decide),
  mx_s_goto C d_M_isWord_13 (by decide),
  mx_s_iconst C d_M_isWord_16 (by decide),
  mx_s_zret C hr hlk d_M_isWord_17,
  trivial⟩
set_option maxRecDepth 20000 in
set_option maxHeartbeats 2000000 in
theorem m_M_isWord (l : Launch) : mx_M l y_M_isWord w_M_isWord rm_M_isWord sp_M_isWord := by
  intro zD ztc ztb zad As F P sz0 h
  obtain ⟨th, sz, sp, wy, kp, sd, n, w, rfl, h1, hz, ho⟩ := h
  refine mx_run (cc := c_M_isWord) (maxL := 2) (ret := (some .boolean)) (tab := t_M_isWord  P) (by decide) rfl zD ztc ztb zad _ F P sz0 (Nat.le_of_ble_eq_true rfl) (fun p e s m args below meth c C hr hlk => a_M_isWord  C hr hlk) ?_
  intro Rr go
  have hF := mx_as1 h1
  rw [hF]
  refine go rfl ⟨_, rfl, ?_⟩
  refine go rfl ⟨_, _, rfl, fun c1 => ?_, fun c1 => ?_⟩
  · refine go rfl ?_
    refine go rfl ⟨_, rfl, rfl, rfl, (Or.inl rfl), ?_⟩
    rw [← hF]
    exact hz (Or.inl c1)
  refine go rfl ⟨_, rfl, ?_⟩
  refine go rfl ⟨_, rfl, ?_⟩
  refine go rfl ⟨_, _, _, _, rfl, rfl, rfl, ?_⟩
  refine go rfl ⟨_, _, _, rfl, fun c2 => ?_, fun c2 => ?_⟩
  · refine go rfl ?_
    refine go rfl ⟨_, rfl, rfl, rfl, (Or.inl rfl), ?_⟩
    rw [← hF]
    exact hz (Or.inr c2)
  refine go rfl ?_
  refine go rfl ?_
  refine go rfl ⟨_, rfl, rfl, rfl, (Or.inr rfl), ?_⟩
  rw [← hF]
  exact ho (fun h => h.elim c1 c2)
-- LadderWordsModel.isCell(II)Z
def sp_M_isCell : mx_Sp := fun As F P => ∃ x y : Int32, As = [mx_i x, mx_i y] ∧ (ins x y → P (some (mx_i (nI 1))) F) ∧ (¬ ins x y → P (some (mx_i (nI 0))) F)
theorem d_M_isCell_0 : decode c_M_isCell 0 = .ok (.iload_n 0, 1) := by decide +kernel
theorem d_M_isCell_1 : decode c_M_isCell 1 = .ok (.ifCond .lt 23, 3) := by decide +kernel
theorem d_M_isCell_4 : decode c_M_isCell 4 = .ok (.iload_n 0, 1) := by decide +kernel
theorem d_M_isCell_5 : decode c_M_isCell 5 = .ok (.bipush 8, 2) := by decide +kernel
theorem d_M_isCell_7 : decode c_M_isCell 7 = .ok (.if_icmp .ge 17, 3) := by decide +kernel
theorem d_M_isCell_10 : decode c_M_isCell 10 = .ok (.iload_n 1, 1) := by decide +kernel
theorem d_M_isCell_11 : decode c_M_isCell 11 = .ok (.ifCond .lt 13, 3) := by decide +kernel
theorem d_M_isCell_14 : decode c_M_isCell 14 = .ok (.iload_n 1, 1) := by decide +kernel
theorem d_M_isCell_15 : decode c_M_isCell 15 = .ok (.bipush 8, 2) := by decide +kernel
theorem d_M_isCell_17 : decode c_M_isCell 17 = .ok (.if_icmp .ge 7, 3) := by decide +kernel
theorem d_M_isCell_20 : decode c_M_isCell 20 = .ok (.iconst 1, 1) := by decide +kernel
theorem d_M_isCell_21 : decode c_M_isCell 21 = .ok (.goto 4, 3) := by decide +kernel
theorem d_M_isCell_24 : decode c_M_isCell 24 = .ok (.iconst 0, 1) := by decide +kernel
theorem d_M_isCell_25 : decode c_M_isCell 25 = .ok (.ireturn, 1) := by decide +kernel
abbrev w_M_isCell : List Cond := mx_ws y_M_isCell c_M_isCell 2 (some .boolean)
abbrev rm_M_isCell : Room := { frames := 10, cells := 0, slots := 0, locals := 200 }
def t_M_isCell  (P : Option mx_V → mx_F → Prop) : List (Nat × mx_O) := [
  (0, mx_iload 0 1),
  (1, mx_if_lt 24 4),
  (4, mx_iload 0 5),
  (5, mx_push (.inl (nI 8)) 7),
  (7, mx_ic_ge 24 10),
  (10, mx_iload 1 11),
  (11, mx_if_lt 24 14),
  (14, mx_iload 1 15),
  (15, mx_push (.inl (nI 8)) 17),
  (17, mx_ic_ge 24 20),
  (20, mx_push (.inl (nI 1)) 21),
  (21, mx_goto 25),
  (24, mx_push (.inl (nI 0)) 25),
  (25, mx_zret P)]
set_option maxRecDepth 20000 in
theorem a_M_isCell  {p : Program} {l : Launch} {e : Env} {s : State} {m : MethodId} {args : Array Value} {below : List Frame} {meth : Method} {c : Code} {D : va_G} {tc : Nat → ClassId} {tb : Nat → Nat} {sz : Nat} {a0 : Nat → Nat} {G : mx_F} {P : Option mx_V → mx_F → Prop}  (C : mx_C p s m args c c_M_isCell y_M_isCell.cls w_M_isCell D tc tb (mx_A a0 G sz) 2 (mx_Ok0 a0 G)) (hr : meth.sig.returnType = (some .boolean)) (hlk : meth.locks = false) : mx_all (mx_W p l e rm_M_isCell s m args below meth c (MQ below (mx_Q D tc tb a0 G sz P) args s 0 0 (mx_A a0 G sz)) D tc tb (mx_A a0 G sz) 2 (mx_Ok0 a0 G)) (t_M_isCell  P) :=
  ⟨mx_s_iload_n C d_M_isCell_0 rfl,
  mx_s_if_lt C d_M_isCell_1 (by decide),
  mx_s_iload_n C d_M_isCell_4 rfl,
  mx_s_bipush C d_M_isCell_5 (by decide),
  mx_s_ic_ge C d_M_isCell_7 (by decide),
  mx_s_iload_n C d_M_isCell_10 rfl,
  mx_s_if_lt C d_M_isCell_11 (by decide),
  mx_s_iload_n C d_M_isCell_14 rfl,
  mx_s_bipush C d_M_isCell_15 (by decide),
  mx_s_ic_ge C d_M_isCell_17 (by decide),
  mx_s_iconst C d_M_isCell_20 (by decide),
  mx_s_goto C d_M_isCell_21 (by decide),
  mx_s_iconst C d_M_isCell_24 (by decide),
  mx_s_zret C hr hlk d_M_isCell_25,
  trivial⟩
set_option maxRecDepth 20000 in
set_option maxHeartbeats 2000000 in
theorem m_M_isCell (l : Launch) : mx_M l y_M_isCell w_M_isCell rm_M_isCell sp_M_isCell := by
  intro zD ztc ztb zad As F P sz0 h
  obtain ⟨x, y, rfl, ho, hz⟩ := h
  refine mx_run (cc := c_M_isCell) (maxL := 2) (ret := (some .boolean)) (tab := t_M_isCell  P) (by decide) rfl zD ztc ztb zad _ F P sz0 (Nat.le_of_ble_eq_true rfl) (fun p e s m args below meth c C hr hlk => a_M_isCell  C hr hlk) ?_
  intro Rr go
  have z : ¬ ins x y → Rr 24 [some (mx_i x), some (mx_i y)] [] F 0 0 := by
    intro hc
    refine go rfl ?_
    refine go rfl ⟨_, rfl, rfl, rfl, (Or.inl rfl), ?_⟩
    exact hz hc
  refine go rfl ⟨_, rfl, ?_⟩
  refine go rfl ⟨_, _, rfl, fun c1 => ?_, fun c1 => ?_⟩
  · exact z (fun h => h (Or.inl c1))
  refine go rfl ⟨_, rfl, ?_⟩
  refine go rfl ?_
  refine go rfl ⟨_, _, _, rfl, fun c2 => ?_, fun c2 => ?_⟩
  · exact z (fun h => h (Or.inr (Or.inl c2)))
  refine go rfl ⟨_, rfl, ?_⟩
  refine go rfl ⟨_, _, rfl, fun c3 => ?_, fun c3 => ?_⟩
  · exact z (fun h => h (Or.inr (Or.inr (Or.inl c3))))
  refine go rfl ⟨_, rfl, ?_⟩
  refine go rfl ?_
  refine go rfl ⟨_, _, _, rfl, fun c4 => ?_, fun c4 => ?_⟩
  · exact z (fun h => h (Or.inr (Or.inr (Or.inr c4))))
  refine go rfl ?_
  refine go rfl ?_
  refine go rfl ⟨_, rfl, rfl, rfl, (Or.inr rfl), ?_⟩
  refine ho (fun h => ?_)
  rcases h with h | h | h | h
  · exact c1 h
  · exact c2 h
  · exact c3 h
  · exact c4 h
-- LadderWordsModel.at(II)I
def sp_M_at : mx_Sp := fun As F P => ∃ (th sz mn sp : Int32) (wy : Int64) (kp sd : Int32) (lt : Nat → Int32) (w i : Nat), As = [mx_r 40, mx_i (nI w), mx_i (nI i)] ∧ F 40 = some (e_M th sz mn sp wy kp sd) ∧ F 42 = some (mx_ia 360 lt) ∧ w < 60 ∧ i < 6 ∧ P (some (mx_i (lt (6 * w + i)))) F
theorem d_M_at_0 : decode c_M_at 0 = .ok (.aload_n 0, 1) := by decide +kernel
theorem d_M_at_1 : decode c_M_at 1 = .ok (.getfield 13, 3) := by decide +kernel
theorem d_M_at_4 : decode c_M_at 4 = .ok (.bipush 6, 2) := by decide +kernel
theorem d_M_at_6 : decode c_M_at 6 = .ok (.iload_n 1, 1) := by decide +kernel
theorem d_M_at_7 : decode c_M_at 7 = .ok (.imul, 1) := by decide +kernel
theorem d_M_at_8 : decode c_M_at 8 = .ok (.iload_n 2, 1) := by decide +kernel
theorem d_M_at_9 : decode c_M_at 9 = .ok (.iadd, 1) := by decide +kernel
theorem d_M_at_10 : decode c_M_at 10 = .ok (.iaload, 1) := by decide +kernel
theorem d_M_at_11 : decode c_M_at 11 = .ok (.ireturn, 1) := by decide +kernel
abbrev w_M_at : List Cond := mx_ws y_M_at c_M_at 3 (some .int)
abbrev rm_M_at : Room := { frames := 10, cells := 0, slots := 0, locals := 200 }
def t_M_at  (P : Option mx_V → mx_F → Prop) : List (Nat × mx_O) := [
  (0, mx_aload 0 1),
  (1, mx_get 7 4 4),
  (4, mx_push (.inl (nI 6)) 6),
  (6, mx_iload 1 7),
  (7, mx_imul 8),
  (8, mx_iload 2 9),
  (9, mx_iadd 10),
  (10, mx_iald 11),
  (11, mx_iret P)]
set_option maxRecDepth 20000 in
theorem a_M_at  {p : Program} {l : Launch} {e : Env} {s : State} {m : MethodId} {args : Array Value} {below : List Frame} {meth : Method} {c : Code} {D : va_G} {tc : Nat → ClassId} {tb : Nat → Nat} {sz : Nat} {a0 : Nat → Nat} {G : mx_F} {P : Option mx_V → mx_F → Prop}  (C : mx_C p s m args c c_M_at y_M_at.cls w_M_at D tc tb (mx_A a0 G sz) 3 (mx_Ok0 a0 G)) (hr : meth.sig.returnType = (some .int)) (hlk : meth.locks = false) : mx_all (mx_W p l e rm_M_at s m args below meth c (MQ below (mx_Q D tc tb a0 G sz P) args s 0 0 (mx_A a0 G sz)) D tc tb (mx_A a0 G sz) 3 (mx_Ok0 a0 G)) (t_M_at  P) :=
  ⟨mx_s_aload_n C d_M_at_0 rfl,
  mx_s_get (T := T_M) (N := 18) (k := 4) C (fun w h => List.mem_cons_of_mem _ (in_M w h)) rfl (by decide) (List.mem_cons_of_mem _ fk_M_13) rfl d_M_at_1,
  mx_s_bipush C d_M_at_4 (by decide),
  mx_s_iload_n C d_M_at_6 rfl,
  mx_s_imul C d_M_at_7,
  mx_s_iload_n C d_M_at_8 rfl,
  mx_s_iadd C d_M_at_9,
  mx_s_iald C d_M_at_10,
  mx_s_iret C hr hlk d_M_at_11,
  trivial⟩
set_option maxRecDepth 20000 in
set_option maxHeartbeats 2000000 in
theorem m_M_at (l : Launch) : mx_M l y_M_at w_M_at rm_M_at sp_M_at := by
  intro zD ztc ztb zad As F P sz0 h
  obtain ⟨th, sz, mn, sp, wy, kp, sd, lt, w, i, rfl, h0, h1, hw, hi, hp⟩ := h
  refine mx_run (cc := c_M_at) (maxL := 3) (ret := (some .int)) (tab := t_M_at  P) (by decide) rfl zD ztc ztb zad _ F P sz0 (Nat.le_of_ble_eq_true rfl) (fun p e s m args below meth c C hr hlk => a_M_at  C hr hlk) ?_
  intro Rr go
  have hF := mx_as2 h0 h1
  rw [hF]
  refine go rfl ⟨_, rfl, ?_⟩
  refine go rfl ⟨_, _, _, _, rfl, rfl, rfl, ?_⟩
  refine go rfl ?_
  refine go rfl ⟨_, rfl, ?_⟩
  refine go rfl ⟨_, _, _, rfl, ?_⟩
  rw [pk_mul]
  refine go rfl ⟨_, rfl, ?_⟩
  refine go rfl ⟨_, _, _, rfl, ?_⟩
  rw [nI_add]
  refine go rfl ⟨_, _, _, _, _, rfl, rfl, (vp_in_nI (show 6 * w + i < 360 by omega) (by omega)), ?_⟩
  rw [nI_clamp (by omega)]
  refine go rfl ⟨_, rfl, rfl, rfl, ?_⟩
  rw [← hF]
  exact hp
-- LadderWordsModel.isRow(I)Z
def sp_M_isRow : mx_Sp := fun As F P => ∃ (th : Int32) (sp : Int32) (wy : Int64) (kp sd : Int32) (rn n j : Nat) (N : Nat → Nat) (rl lt ml : Nat → Int32), As = [mx_r 40, mx_i (nI j)] ∧ F 40 = some (e_M th (nI rn) (nI n) sp wy kp sd) ∧ F 41 = some (mx_ia 12 rl) ∧ F 42 = some (mx_ia 360 lt) ∧ F 43 = some (mx_ia 60 ml) ∧ rn ≤ 12 ∧ mok n N ml ∧ j < n ∧ (msame N lt rl rn j → P (some (mx_i (nI 1))) F) ∧ (¬ msame N lt rl rn j → P (some (mx_i (nI 0))) F)
theorem d_M_isRow_0 : decode c_M_isRow 0 = .ok (.aload_n 0, 1) := by decide +kernel
theorem d_M_isRow_1 : decode c_M_isRow 1 = .ok (.getfield 16, 3) := by decide +kernel
theorem d_M_isRow_4 : decode c_M_isRow 4 = .ok (.iload_n 1, 1) := by decide +kernel
theorem d_M_isRow_5 : decode c_M_isRow 5 = .ok (.iaload, 1) := by decide +kernel
theorem d_M_isRow_6 : decode c_M_isRow 6 = .ok (.aload_n 0, 1) := by decide +kernel
theorem d_M_isRow_7 : decode c_M_isRow 7 = .ok (.getfield 54, 3) := by decide +kernel
theorem d_M_isRow_10 : decode c_M_isRow 10 = .ok (.if_icmp .eq 5, 3) := by decide +kernel
theorem d_M_isRow_13 : decode c_M_isRow 13 = .ok (.iconst 0, 1) := by decide +kernel
theorem d_M_isRow_14 : decode c_M_isRow 14 = .ok (.ireturn, 1) := by decide +kernel
theorem d_M_isRow_15 : decode c_M_isRow 15 = .ok (.iconst 0, 1) := by decide +kernel
theorem d_M_isRow_16 : decode c_M_isRow 16 = .ok (.istore_n 2, 1) := by decide +kernel
theorem d_M_isRow_17 : decode c_M_isRow 17 = .ok (.iload_n 2, 1) := by decide +kernel
theorem d_M_isRow_18 : decode c_M_isRow 18 = .ok (.aload_n 0, 1) := by decide +kernel
theorem d_M_isRow_19 : decode c_M_isRow 19 = .ok (.getfield 54, 3) := by decide +kernel
theorem d_M_isRow_22 : decode c_M_isRow 22 = .ok (.if_icmp .ge 26, 3) := by decide +kernel
theorem d_M_isRow_25 : decode c_M_isRow 25 = .ok (.aload_n 0, 1) := by decide +kernel
theorem d_M_isRow_26 : decode c_M_isRow 26 = .ok (.iload_n 1, 1) := by decide +kernel
theorem d_M_isRow_27 : decode c_M_isRow 27 = .ok (.iload_n 2, 1) := by decide +kernel
theorem d_M_isRow_28 : decode c_M_isRow 28 = .ok (.invokevirtual 57, 3) := by decide +kernel
theorem d_M_isRow_31 : decode c_M_isRow 31 = .ok (.aload_n 0, 1) := by decide +kernel
theorem d_M_isRow_32 : decode c_M_isRow 32 = .ok (.getfield 7, 3) := by decide +kernel
theorem d_M_isRow_35 : decode c_M_isRow 35 = .ok (.iload_n 2, 1) := by decide +kernel
theorem d_M_isRow_36 : decode c_M_isRow 36 = .ok (.iaload, 1) := by decide +kernel
theorem d_M_isRow_37 : decode c_M_isRow 37 = .ok (.if_icmp .eq 5, 3) := by decide +kernel
theorem d_M_isRow_40 : decode c_M_isRow 40 = .ok (.iconst 0, 1) := by decide +kernel
theorem d_M_isRow_41 : decode c_M_isRow 41 = .ok (.ireturn, 1) := by decide +kernel
theorem d_M_isRow_42 : decode c_M_isRow 42 = .ok (.iinc 2 1, 3) := by decide +kernel
theorem d_M_isRow_45 : decode c_M_isRow 45 = .ok (.goto (-28), 3) := by decide +kernel
theorem d_M_isRow_48 : decode c_M_isRow 48 = .ok (.iconst 1, 1) := by decide +kernel
theorem d_M_isRow_49 : decode c_M_isRow 49 = .ok (.ireturn, 1) := by decide +kernel
abbrev w_M_isRow : List Cond := mx_ws y_M_isRow c_M_isRow 3 (some .boolean)
abbrev rm_M_isRow : Room := { frames := 20, cells := 0, slots := 0, locals := 400 }
def t_M_isRow  (P : Option mx_V → mx_F → Prop) : List (Nat × mx_O) := [
  (0, mx_aload 0 1),
  (1, mx_get 7 5 4),
  (4, mx_iload 1 5),
  (5, mx_iald 6),
  (6, mx_aload 0 7),
  (7, mx_get 7 1 10),
  (10, mx_ic_eq 15 13),
  (13, mx_push (.inl (nI 0)) 14),
  (14, mx_zret P),
  (15, mx_push (.inl (nI 0)) 16),
  (16, mx_istore 2 17),
  (17, mx_iload 2 18),
  (18, mx_aload 0 19),
  (19, mx_get 7 1 22),
  (22, mx_ic_ge 48 25),
  (25, mx_aload 0 26),
  (26, mx_iload 1 27),
  (27, mx_iload 2 28),
  (28, mx_cv2 7 sp_M_at 0 0 31),
  (31, mx_aload 0 32),
  (32, mx_get 7 2 35),
  (35, mx_iload 2 36),
  (36, mx_iald 37),
  (37, mx_ic_eq 42 40),
  (40, mx_push (.inl (nI 0)) 41),
  (41, mx_zret P),
  (42, mx_iinc 2 (nI 1) 45),
  (45, mx_goto 17),
  (48, mx_push (.inl (nI 1)) 49),
  (49, mx_zret P)]
set_option maxRecDepth 20000 in
theorem a_M_isRow  {p : Program} {l : Launch} {e : Env} {s : State} {m : MethodId} {args : Array Value} {below : List Frame} {meth : Method} {c : Code} {D : va_G} {tc : Nat → ClassId} {tb : Nat → Nat} {sz : Nat} {a0 : Nat → Nat} {G : mx_F} {P : Option mx_V → mx_F → Prop}  (C : mx_C p s m args c c_M_isRow y_M_isRow.cls w_M_isRow D tc tb (mx_A a0 G sz) 3 (mx_Ok0 a0 G)) (hr : meth.sig.returnType = (some .boolean)) (hlk : meth.locks = false) : mx_all (mx_W p l e rm_M_isRow s m args below meth c (MQ below (mx_Q D tc tb a0 G sz P) args s 0 0 (mx_A a0 G sz)) D tc tb (mx_A a0 G sz) 3 (mx_Ok0 a0 G)) (t_M_isRow  P) :=
  ⟨mx_s_aload_n C d_M_isRow_0 rfl,
  mx_s_get (T := T_M) (N := 18) (k := 5) C (fun w h => List.mem_cons_of_mem _ (in_M w h)) rfl (by decide) (List.mem_cons_of_mem _ fk_M_16) rfl d_M_isRow_1,
  mx_s_iload_n C d_M_isRow_4 rfl,
  mx_s_iald C d_M_isRow_5,
  mx_s_aload_n C d_M_isRow_6 rfl,
  mx_s_get (T := T_M) (N := 18) (k := 1) C (fun w h => List.mem_cons_of_mem _ (in_M w h)) rfl (by decide) (List.mem_cons_of_mem _ fk_M_54) rfl d_M_isRow_7,
  mx_s_ic_eq C d_M_isRow_10 (by decide),
  mx_s_iconst C d_M_isRow_13 (by decide),
  mx_s_zret C hr hlk d_M_isRow_14,
  mx_s_iconst C d_M_isRow_15 (by decide),
  mx_s_istore_n C d_M_isRow_16 rfl (by decide),
  mx_s_iload_n C d_M_isRow_17 rfl,
  mx_s_aload_n C d_M_isRow_18 rfl,
  mx_s_get (T := T_M) (N := 18) (k := 1) C (fun w h => List.mem_cons_of_mem _ (in_M w h)) rfl (by decide) (List.mem_cons_of_mem _ fk_M_54) rfl d_M_isRow_19,
  mx_s_ic_ge C d_M_isRow_22 (by decide),
  mx_s_aload_n C d_M_isRow_25 rfl,
  mx_s_iload_n C d_M_isRow_26 rfl,
  mx_s_iload_n C d_M_isRow_27 rfl,
  mx_s_cv2 C (m_M_at l) rfl (cwV 2 C.2.2.2.2.1 (mx_gV (fun w h => List.mem_cons_of_mem _ h) mk_M_57 im_M_at se_M_at ic_M co_M_at) rfl rfl rfl (by decide +kernel) ⟨by decide, by decide⟩) d_M_isRow_28 ⟨Nat.zero_le _, Nat.zero_le _⟩,
  mx_s_aload_n C d_M_isRow_31 rfl,
  mx_s_get (T := T_M) (N := 18) (k := 2) C (fun w h => List.mem_cons_of_mem _ (in_M w h)) rfl (by decide) (List.mem_cons_of_mem _ fk_M_7) rfl d_M_isRow_32,
  mx_s_iload_n C d_M_isRow_35 rfl,
  mx_s_iald C d_M_isRow_36,
  mx_s_ic_eq C d_M_isRow_37 (by decide),
  mx_s_iconst C d_M_isRow_40 (by decide),
  mx_s_zret C hr hlk d_M_isRow_41,
  mx_s_iinc C d_M_isRow_42 (by decide) (by decide),
  mx_s_goto C d_M_isRow_45 (by decide),
  mx_s_iconst C d_M_isRow_48 (by decide),
  mx_s_zret C hr hlk d_M_isRow_49,
  trivial⟩
set_option maxRecDepth 20000 in
set_option maxHeartbeats 2000000 in
theorem m_M_isRow (l : Launch) : mx_M l y_M_isRow w_M_isRow rm_M_isRow sp_M_isRow := by
  intro zD ztc ztb zad As F P sz0 h
  obtain ⟨th, sp, wy, kp, sd, rn, n, j, N, rl, lt, ml, rfl, h0, h1, h2, h3, hr, hw, hj, ho, hz⟩ := h
  refine mx_run (cc := c_M_isRow) (maxL := 3) (ret := (some .boolean)) (tab := t_M_isRow  P) (by decide) rfl zD ztc ztb zad _ F P sz0 (Nat.le_of_ble_eq_true rfl) (fun p e s m args below meth c C hr hlk => a_M_isRow  C hr hlk) ?_
  intro Rr go
  have hF := mx_as4 h0 h1 h2 h3
  rw [hF]
  have hn := hw.1
  have hN := hw.2.1 j hj
  refine go rfl ⟨_, rfl, ?_⟩
  refine go rfl ⟨_, _, _, _, rfl, rfl, rfl, ?_⟩
  refine go rfl ⟨_, rfl, ?_⟩
  refine go rfl ⟨_, _, _, _, _, rfl, rfl, (vp_in_nI (show j < 60 by omega) (by omega)), ?_⟩
  rw [nI_clamp (by omega), hw.2.2 j hj]
  refine go rfl ⟨_, rfl, ?_⟩
  refine go rfl ⟨_, _, _, _, rfl, rfl, rfl, ?_⟩
  refine go rfl ⟨_, _, _, rfl, fun c1 => ?_, fun c1 => ?_⟩
  rotate_left
  · refine go rfl ?_
    refine go rfl ⟨_, rfl, rfl, rfl, (Or.inl rfl), ?_⟩
    rw [← hF]
    exact hz (fun h => c1 (by rw [h.1]))
  have hlen : N j = rn := (nI_eq (by omega) (by omega)).mp c1
  have loop : ∀ (k i : Nat), i + k = rn → (∀ q, q < i → lt (6 * j + q) = rl q) → Rr 17 [some (mx_r 40), some (mx_i (nI j)), some (mx_i (nI i))] [] (mx_put (mx_put (mx_put (mx_put F 40 (e_M th (nI rn) (nI n) sp wy kp sd)) 41 (mx_ia 12 rl)) 42 (mx_ia 360 lt)) 43 (mx_ia 60 ml)) 0 0 := by
    intro k
    induction k with
    | zero =>
      intro i hi hq
      refine go rfl ⟨_, rfl, ?_⟩
      refine go rfl ⟨_, rfl, ?_⟩
      refine go rfl ⟨_, _, _, _, rfl, rfl, rfl, ?_⟩
      refine go rfl ⟨_, _, _, rfl, fun c => ?_, fun c => ?_⟩
      · refine go rfl ?_
        refine go rfl ⟨_, rfl, rfl, rfl, (Or.inr rfl), ?_⟩
        rw [← hF]
        exact ho ⟨hlen, fun q hq2 => hq q (by omega)⟩
      · exact absurd (nI_le (by omega) (by omega)) c
    | succ k ih =>
      intro i hi hq
      refine go rfl ⟨_, rfl, ?_⟩
      refine go rfl ⟨_, rfl, ?_⟩
      refine go rfl ⟨_, _, _, _, rfl, rfl, rfl, ?_⟩
      refine go rfl ⟨_, _, _, rfl, fun c => ?_, fun c => ?_⟩
      · exact absurd ((nI_leI (by omega) (by omega)).mp c) (by omega)
      refine go rfl ⟨_, rfl, ?_⟩
      refine go rfl ⟨_, rfl, ?_⟩
      refine go rfl ⟨_, rfl, ?_⟩
      refine go rfl ⟨_, _, _, _, _, rfl, rfl, rfl, rfl, rfl, ⟨_, _, _, _, _, _, _, lt, j, i, rfl, rfl, rfl, by omega, by omega, ?_⟩⟩
      refine go rfl ⟨_, rfl, ?_⟩
      refine go rfl ⟨_, _, _, _, rfl, rfl, rfl, ?_⟩
      refine go rfl ⟨_, rfl, ?_⟩
      refine go rfl ⟨_, _, _, _, _, rfl, rfl, (vp_in_nI (show i < 12 by omega) (by omega)), ?_⟩
      rw [nI_clamp (by omega)]
      refine go rfl ⟨_, _, _, rfl, fun d => ?_, fun d => ?_⟩
      · refine go rfl ⟨_, rfl, ?_⟩
        refine go rfl ?_
        rw [nI_add]
        refine ih (i + 1) (by omega) (fun q hq2 => ?_)
        rcases Nat.lt_or_ge q i with w | w
        · exact hq q w
        · rw [show q = i by omega]
          exact d
      · refine go rfl ?_
        refine go rfl ⟨_, rfl, rfl, rfl, (Or.inl rfl), ?_⟩
        rw [← hF]
        exact hz (fun h => d (h.2 i (by omega)))
  refine go rfl ?_
  refine go rfl ⟨_, _, rfl, ?_⟩
  exact loop rn 0 (by omega) (fun q hq => absurd hq (Nat.not_lt_zero q))
-- LadderWordsModel.enter()I
def sp_M_enter : mx_Sp := fun As F P => ∃ (th : Int32) (sp : Int32) (wy : Int64) (kp sd : Int32) (rn n : Nat) (N : Nat → Nat) (rl lt ml : Nat → Int32), As = [mx_r 40] ∧ F 40 = some (e_M th (nI rn) (nI n) sp wy kp sd) ∧ F 41 = some (mx_ia 12 rl) ∧ F 42 = some (mx_ia 360 lt) ∧ F 43 = some (mx_ia 60 ml) ∧ rn ≤ 12 ∧ mok n N ml ∧ ((rn = 0 ∨ 6 < rn) → P (some (mx_i (-1))) F) ∧ (∀ j, 1 ≤ rn → rn ≤ 6 → j < n → msame N lt rl rn j → (∀ k, k < j → ¬ msame N lt rl rn k) → P (some (mx_i (nI j))) F) ∧ (1 ≤ rn → rn ≤ 6 → (∀ j, j < n → ¬ msame N lt rl rn j) → 60 ≤ n → P (some (mx_i (-1))) F) ∧ (1 ≤ rn → rn ≤ 6 → (∀ j, j < n → ¬ msame N lt rl rn j) → n < 60 → ∀ lt', (∀ q, q < 6 * n → lt' q = lt q) → (∀ i, i < rn → lt' (6 * n + i) = rl i) → P (some (mx_i (nI n))) (mx_put (mx_put (mx_put F 42 (mx_ia 360 lt')) 43 (mx_ia 60 (upd ml n (nI rn)))) 40 (e_M th (nI rn) (nI (n + 1)) (-1) wy (nI 0) (nI 0))))
theorem d_M_enter_0 : decode c_M_enter 0 = .ok (.aload_n 0, 1) := by decide +kernel
theorem d_M_enter_1 : decode c_M_enter 1 = .ok (.getfield 54, 3) := by decide +kernel
theorem d_M_enter_4 : decode c_M_enter 4 = .ok (.ifCond .eq 12, 3) := by decide +kernel
theorem d_M_enter_7 : decode c_M_enter 7 = .ok (.aload_n 0, 1) := by decide +kernel
theorem d_M_enter_8 : decode c_M_enter 8 = .ok (.getfield 54, 3) := by decide +kernel
theorem d_M_enter_11 : decode c_M_enter 11 = .ok (.bipush 6, 2) := by decide +kernel
theorem d_M_enter_13 : decode c_M_enter 13 = .ok (.if_icmp .le 5, 3) := by decide +kernel
theorem d_M_enter_16 : decode c_M_enter 16 = .ok (.iconst (-1), 1) := by decide +kernel
theorem d_M_enter_17 : decode c_M_enter 17 = .ok (.ireturn, 1) := by decide +kernel
theorem d_M_enter_18 : decode c_M_enter 18 = .ok (.iconst 0, 1) := by decide +kernel
theorem d_M_enter_19 : decode c_M_enter 19 = .ok (.istore_n 1, 1) := by decide +kernel
theorem d_M_enter_20 : decode c_M_enter 20 = .ok (.iload_n 1, 1) := by decide +kernel
theorem d_M_enter_21 : decode c_M_enter 21 = .ok (.aload_n 0, 1) := by decide +kernel
theorem d_M_enter_22 : decode c_M_enter 22 = .ok (.getfield 51, 3) := by decide +kernel
theorem d_M_enter_25 : decode c_M_enter 25 = .ok (.if_icmp .ge 19, 3) := by decide +kernel
theorem d_M_enter_28 : decode c_M_enter 28 = .ok (.aload_n 0, 1) := by decide +kernel
theorem d_M_enter_29 : decode c_M_enter 29 = .ok (.iload_n 1, 1) := by decide +kernel
theorem d_M_enter_30 : decode c_M_enter 30 = .ok (.invokevirtual 61, 3) := by decide +kernel
theorem d_M_enter_33 : decode c_M_enter 33 = .ok (.ifCond .eq 5, 3) := by decide +kernel
theorem d_M_enter_36 : decode c_M_enter 36 = .ok (.iload_n 1, 1) := by decide +kernel
theorem d_M_enter_37 : decode c_M_enter 37 = .ok (.ireturn, 1) := by decide +kernel
theorem d_M_enter_38 : decode c_M_enter 38 = .ok (.iinc 1 1, 3) := by decide +kernel
theorem d_M_enter_41 : decode c_M_enter 41 = .ok (.goto (-21), 3) := by decide +kernel
theorem d_M_enter_44 : decode c_M_enter 44 = .ok (.aload_n 0, 1) := by decide +kernel
theorem d_M_enter_45 : decode c_M_enter 45 = .ok (.getfield 51, 3) := by decide +kernel
theorem d_M_enter_48 : decode c_M_enter 48 = .ok (.bipush 60, 2) := by decide +kernel
theorem d_M_enter_50 : decode c_M_enter 50 = .ok (.if_icmp .ne 5, 3) := by decide +kernel
theorem d_M_enter_53 : decode c_M_enter 53 = .ok (.iconst (-1), 1) := by decide +kernel
theorem d_M_enter_54 : decode c_M_enter 54 = .ok (.ireturn, 1) := by decide +kernel
theorem d_M_enter_55 : decode c_M_enter 55 = .ok (.iconst 0, 1) := by decide +kernel
theorem d_M_enter_56 : decode c_M_enter 56 = .ok (.istore_n 1, 1) := by decide +kernel
theorem d_M_enter_57 : decode c_M_enter 57 = .ok (.iload_n 1, 1) := by decide +kernel
theorem d_M_enter_58 : decode c_M_enter 58 = .ok (.aload_n 0, 1) := by decide +kernel
theorem d_M_enter_59 : decode c_M_enter 59 = .ok (.getfield 54, 3) := by decide +kernel
theorem d_M_enter_62 : decode c_M_enter 62 = .ok (.if_icmp .ge 29, 3) := by decide +kernel
theorem d_M_enter_65 : decode c_M_enter 65 = .ok (.aload_n 0, 1) := by decide +kernel
theorem d_M_enter_66 : decode c_M_enter 66 = .ok (.getfield 13, 3) := by decide +kernel
theorem d_M_enter_69 : decode c_M_enter 69 = .ok (.bipush 6, 2) := by decide +kernel
theorem d_M_enter_71 : decode c_M_enter 71 = .ok (.aload_n 0, 1) := by decide +kernel
theorem d_M_enter_72 : decode c_M_enter 72 = .ok (.getfield 51, 3) := by decide +kernel
theorem d_M_enter_75 : decode c_M_enter 75 = .ok (.imul, 1) := by decide +kernel
theorem d_M_enter_76 : decode c_M_enter 76 = .ok (.iload_n 1, 1) := by decide +kernel
theorem d_M_enter_77 : decode c_M_enter 77 = .ok (.iadd, 1) := by decide +kernel
theorem d_M_enter_78 : decode c_M_enter 78 = .ok (.aload_n 0, 1) := by decide +kernel
theorem d_M_enter_79 : decode c_M_enter 79 = .ok (.getfield 7, 3) := by decide +kernel
theorem d_M_enter_82 : decode c_M_enter 82 = .ok (.iload_n 1, 1) := by decide +kernel
theorem d_M_enter_83 : decode c_M_enter 83 = .ok (.iaload, 1) := by decide +kernel
theorem d_M_enter_84 : decode c_M_enter 84 = .ok (.iastore, 1) := by decide +kernel
theorem d_M_enter_85 : decode c_M_enter 85 = .ok (.iinc 1 1, 3) := by decide +kernel
theorem d_M_enter_88 : decode c_M_enter 88 = .ok (.goto (-31), 3) := by decide +kernel
theorem d_M_enter_91 : decode c_M_enter 91 = .ok (.aload_n 0, 1) := by decide +kernel
theorem d_M_enter_92 : decode c_M_enter 92 = .ok (.getfield 16, 3) := by decide +kernel
theorem d_M_enter_95 : decode c_M_enter 95 = .ok (.aload_n 0, 1) := by decide +kernel
theorem d_M_enter_96 : decode c_M_enter 96 = .ok (.getfield 51, 3) := by decide +kernel
theorem d_M_enter_99 : decode c_M_enter 99 = .ok (.aload_n 0, 1) := by decide +kernel
theorem d_M_enter_100 : decode c_M_enter 100 = .ok (.getfield 54, 3) := by decide +kernel
theorem d_M_enter_103 : decode c_M_enter 103 = .ok (.iastore, 1) := by decide +kernel
theorem d_M_enter_104 : decode c_M_enter 104 = .ok (.aload_n 0, 1) := by decide +kernel
theorem d_M_enter_105 : decode c_M_enter 105 = .ok (.dup, 1) := by decide +kernel
theorem d_M_enter_106 : decode c_M_enter 106 = .ok (.getfield 51, 3) := by decide +kernel
theorem d_M_enter_109 : decode c_M_enter 109 = .ok (.iconst 1, 1) := by decide +kernel
theorem d_M_enter_110 : decode c_M_enter 110 = .ok (.iadd, 1) := by decide +kernel
theorem d_M_enter_111 : decode c_M_enter 111 = .ok (.putfield 51, 3) := by decide +kernel
theorem d_M_enter_114 : decode c_M_enter 114 = .ok (.aload_n 0, 1) := by decide +kernel
theorem d_M_enter_115 : decode c_M_enter 115 = .ok (.iconst (-1), 1) := by decide +kernel
theorem d_M_enter_116 : decode c_M_enter 116 = .ok (.putfield 19, 3) := by decide +kernel
theorem d_M_enter_119 : decode c_M_enter 119 = .ok (.aload_n 0, 1) := by decide +kernel
theorem d_M_enter_120 : decode c_M_enter 120 = .ok (.iconst 0, 1) := by decide +kernel
theorem d_M_enter_121 : decode c_M_enter 121 = .ok (.putfield 65, 3) := by decide +kernel
theorem d_M_enter_124 : decode c_M_enter 124 = .ok (.aload_n 0, 1) := by decide +kernel
theorem d_M_enter_125 : decode c_M_enter 125 = .ok (.iconst 0, 1) := by decide +kernel
theorem d_M_enter_126 : decode c_M_enter 126 = .ok (.putfield 68, 3) := by decide +kernel
theorem d_M_enter_129 : decode c_M_enter 129 = .ok (.aload_n 0, 1) := by decide +kernel
theorem d_M_enter_130 : decode c_M_enter 130 = .ok (.getfield 51, 3) := by decide +kernel
theorem d_M_enter_133 : decode c_M_enter 133 = .ok (.iconst 1, 1) := by decide +kernel
theorem d_M_enter_134 : decode c_M_enter 134 = .ok (.isub, 1) := by decide +kernel
theorem d_M_enter_135 : decode c_M_enter 135 = .ok (.ireturn, 1) := by decide +kernel
abbrev w_M_enter : List Cond := mx_ws y_M_enter c_M_enter 2 (some .int)
abbrev rm_M_enter : Room := { frames := 30, cells := 0, slots := 0, locals := 600 }
def t_M_enter  (P : Option mx_V → mx_F → Prop) : List (Nat × mx_O) := [
  (0, mx_aload 0 1),
  (1, mx_get 7 1 4),
  (4, mx_if_eq 16 7),
  (7, mx_aload 0 8),
  (8, mx_get 7 1 11),
  (11, mx_push (.inl (nI 6)) 13),
  (13, mx_ic_le 18 16),
  (16, mx_push (.inl (-1)) 17),
  (17, mx_iret P),
  (18, mx_push (.inl (nI 0)) 19),
  (19, mx_istore 1 20),
  (20, mx_iload 1 21),
  (21, mx_aload 0 22),
  (22, mx_get 7 3 25),
  (25, mx_ic_ge 44 28),
  (28, mx_aload 0 29),
  (29, mx_iload 1 30),
  (30, mx_cv1 7 sp_M_isRow 0 0 33),
  (33, mx_if_eq 38 36),
  (36, mx_iload 1 37),
  (37, mx_iret P),
  (38, mx_iinc 1 (nI 1) 41),
  (41, mx_goto 20),
  (44, mx_aload 0 45),
  (45, mx_get 7 3 48),
  (48, mx_push (.inl (nI 60)) 50),
  (50, mx_ic_ne 55 53),
  (53, mx_push (.inl (-1)) 54),
  (54, mx_iret P),
  (55, mx_push (.inl (nI 0)) 56),
  (56, mx_istore 1 57),
  (57, mx_iload 1 58),
  (58, mx_aload 0 59),
  (59, mx_get 7 1 62),
  (62, mx_ic_ge 91 65),
  (65, mx_aload 0 66),
  (66, mx_get 7 4 69),
  (69, mx_push (.inl (nI 6)) 71),
  (71, mx_aload 0 72),
  (72, mx_get 7 3 75),
  (75, mx_imul 76),
  (76, mx_iload 1 77),
  (77, mx_iadd 78),
  (78, mx_aload 0 79),
  (79, mx_get 7 2 82),
  (82, mx_iload 1 83),
  (83, mx_iald 84),
  (84, mx_iast 85),
  (85, mx_iinc 1 (nI 1) 88),
  (88, mx_goto 57),
  (91, mx_aload 0 92),
  (92, mx_get 7 5 95),
  (95, mx_aload 0 96),
  (96, mx_get 7 3 99),
  (99, mx_aload 0 100),
  (100, mx_get 7 1 103),
  (103, mx_iast 104),
  (104, mx_aload 0 105),
  (105, mx_dup 106),
  (106, mx_get 7 3 109),
  (109, mx_push (.inl (nI 1)) 110),
  (110, mx_iadd 111),
  (111, mx_puti 7 3 114),
  (114, mx_aload 0 115),
  (115, mx_push (.inl (-1)) 116),
  (116, mx_puti 7 6 119),
  (119, mx_aload 0 120),
  (120, mx_push (.inl (nI 0)) 121),
  (121, mx_puti 7 11 124),
  (124, mx_aload 0 125),
  (125, mx_push (.inl (nI 0)) 126),
  (126, mx_puti 7 15 129),
  (129, mx_aload 0 130),
  (130, mx_get 7 3 133),
  (133, mx_push (.inl (nI 1)) 134),
  (134, mx_isub 135),
  (135, mx_iret P)]
set_option maxRecDepth 20000 in
theorem a_M_enter  {p : Program} {l : Launch} {e : Env} {s : State} {m : MethodId} {args : Array Value} {below : List Frame} {meth : Method} {c : Code} {D : va_G} {tc : Nat → ClassId} {tb : Nat → Nat} {sz : Nat} {a0 : Nat → Nat} {G : mx_F} {P : Option mx_V → mx_F → Prop}  (C : mx_C p s m args c c_M_enter y_M_enter.cls w_M_enter D tc tb (mx_A a0 G sz) 2 (mx_Ok0 a0 G)) (hr : meth.sig.returnType = (some .int)) (hlk : meth.locks = false) : mx_all (mx_W p l e rm_M_enter s m args below meth c (MQ below (mx_Q D tc tb a0 G sz P) args s 0 0 (mx_A a0 G sz)) D tc tb (mx_A a0 G sz) 2 (mx_Ok0 a0 G)) (t_M_enter  P) :=
  ⟨mx_s_aload_n C d_M_enter_0 rfl,
  mx_s_get (T := T_M) (N := 18) (k := 1) C (fun w h => List.mem_cons_of_mem _ (in_M w h)) rfl (by decide) (List.mem_cons_of_mem _ fk_M_54) rfl d_M_enter_1,
  mx_s_if_eq C d_M_enter_4 (by decide),
  mx_s_aload_n C d_M_enter_7 rfl,
  mx_s_get (T := T_M) (N := 18) (k := 1) C (fun w h => List.mem_cons_of_mem _ (in_M w h)) rfl (by decide) (List.mem_cons_of_mem _ fk_M_54) rfl d_M_enter_8,
  mx_s_bipush C d_M_enter_11 (by decide),
  mx_s_ic_le C d_M_enter_13 (by decide),
  mx_s_iconst C d_M_enter_16 (by decide),
  mx_s_iret C hr hlk d_M_enter_17,
  mx_s_iconst C d_M_enter_18 (by decide),
  mx_s_istore_n C d_M_enter_19 rfl (by decide),
  mx_s_iload_n C d_M_enter_20 rfl,
  mx_s_aload_n C d_M_enter_21 rfl,
  mx_s_get (T := T_M) (N := 18) (k := 3) C (fun w h => List.mem_cons_of_mem _ (in_M w h)) rfl (by decide) (List.mem_cons_of_mem _ fk_M_51) rfl d_M_enter_22,
  mx_s_ic_ge C d_M_enter_25 (by decide),
  mx_s_aload_n C d_M_enter_28 rfl,
  mx_s_iload_n C d_M_enter_29 rfl,
  mx_s_cv1 C (m_M_isRow l) rfl (cwV 1 C.2.2.2.2.1 (mx_gV (fun w h => List.mem_cons_of_mem _ h) mk_M_61 im_M_isRow se_M_isRow ic_M co_M_isRow) rfl rfl rfl (by decide +kernel) ⟨by decide, by decide⟩) d_M_enter_30 ⟨Nat.zero_le _, Nat.zero_le _⟩,
  mx_s_if_eq C d_M_enter_33 (by decide),
  mx_s_iload_n C d_M_enter_36 rfl,
  mx_s_iret C hr hlk d_M_enter_37,
  mx_s_iinc C d_M_enter_38 (by decide) (by decide),
  mx_s_goto C d_M_enter_41 (by decide),
  mx_s_aload_n C d_M_enter_44 rfl,
  mx_s_get (T := T_M) (N := 18) (k := 3) C (fun w h => List.mem_cons_of_mem _ (in_M w h)) rfl (by decide) (List.mem_cons_of_mem _ fk_M_51) rfl d_M_enter_45,
  mx_s_bipush C d_M_enter_48 (by decide),
  mx_s_ic_ne C d_M_enter_50 (by decide),
  mx_s_iconst C d_M_enter_53 (by decide),
  mx_s_iret C hr hlk d_M_enter_54,
  mx_s_iconst C d_M_enter_55 (by decide),
  mx_s_istore_n C d_M_enter_56 rfl (by decide),
  mx_s_iload_n C d_M_enter_57 rfl,
  mx_s_aload_n C d_M_enter_58 rfl,
  mx_s_get (T := T_M) (N := 18) (k := 1) C (fun w h => List.mem_cons_of_mem _ (in_M w h)) rfl (by decide) (List.mem_cons_of_mem _ fk_M_54) rfl d_M_enter_59,
  mx_s_ic_ge C d_M_enter_62 (by decide),
  mx_s_aload_n C d_M_enter_65 rfl,
  mx_s_get (T := T_M) (N := 18) (k := 4) C (fun w h => List.mem_cons_of_mem _ (in_M w h)) rfl (by decide) (List.mem_cons_of_mem _ fk_M_13) rfl d_M_enter_66,
  mx_s_bipush C d_M_enter_69 (by decide),
  mx_s_aload_n C d_M_enter_71 rfl,
  mx_s_get (T := T_M) (N := 18) (k := 3) C (fun w h => List.mem_cons_of_mem _ (in_M w h)) rfl (by decide) (List.mem_cons_of_mem _ fk_M_51) rfl d_M_enter_72,
  mx_s_imul C d_M_enter_75,
  mx_s_iload_n C d_M_enter_76 rfl,
  mx_s_iadd C d_M_enter_77,
  mx_s_aload_n C d_M_enter_78 rfl,
  mx_s_get (T := T_M) (N := 18) (k := 2) C (fun w h => List.mem_cons_of_mem _ (in_M w h)) rfl (by decide) (List.mem_cons_of_mem _ fk_M_7) rfl d_M_enter_79,
  mx_s_iload_n C d_M_enter_82 rfl,
  mx_s_iald C d_M_enter_83,
  mx_s_iast C d_M_enter_84,
  mx_s_iinc C d_M_enter_85 (by decide) (by decide),
  mx_s_goto C d_M_enter_88 (by decide),
  mx_s_aload_n C d_M_enter_91 rfl,
  mx_s_get (T := T_M) (N := 18) (k := 5) C (fun w h => List.mem_cons_of_mem _ (in_M w h)) rfl (by decide) (List.mem_cons_of_mem _ fk_M_16) rfl d_M_enter_92,
  mx_s_aload_n C d_M_enter_95 rfl,
  mx_s_get (T := T_M) (N := 18) (k := 3) C (fun w h => List.mem_cons_of_mem _ (in_M w h)) rfl (by decide) (List.mem_cons_of_mem _ fk_M_51) rfl d_M_enter_96,
  mx_s_aload_n C d_M_enter_99 rfl,
  mx_s_get (T := T_M) (N := 18) (k := 1) C (fun w h => List.mem_cons_of_mem _ (in_M w h)) rfl (by decide) (List.mem_cons_of_mem _ fk_M_54) rfl d_M_enter_100,
  mx_s_iast C d_M_enter_103,
  mx_s_aload_n C d_M_enter_104 rfl,
  mx_s_dup C d_M_enter_105,
  mx_s_get (T := T_M) (N := 18) (k := 3) C (fun w h => List.mem_cons_of_mem _ (in_M w h)) rfl (by decide) (List.mem_cons_of_mem _ fk_M_51) rfl d_M_enter_106,
  mx_s_iconst C d_M_enter_109 (by decide),
  mx_s_iadd C d_M_enter_110,
  mx_s_puti (T := T_M) (N := 18) (k := 3) C (fun w h => List.mem_cons_of_mem _ (in_M w h)) rfl ty_M ok_M nm_M (by decide) (List.mem_cons_of_mem _ fk_M_51) rfl rfl (ok_M 3 (by decide)) d_M_enter_111,
  mx_s_aload_n C d_M_enter_114 rfl,
  mx_s_iconst C d_M_enter_115 (by decide),
  mx_s_puti (T := T_M) (N := 18) (k := 6) C (fun w h => List.mem_cons_of_mem _ (in_M w h)) rfl ty_M ok_M nm_M (by decide) (List.mem_cons_of_mem _ fk_M_19) rfl rfl (ok_M 6 (by decide)) d_M_enter_116,
  mx_s_aload_n C d_M_enter_119 rfl,
  mx_s_iconst C d_M_enter_120 (by decide),
  mx_s_puti (T := T_M) (N := 18) (k := 11) C (fun w h => List.mem_cons_of_mem _ (in_M w h)) rfl ty_M ok_M nm_M (by decide) (List.mem_cons_of_mem _ fk_M_65) rfl rfl (ok_M 11 (by decide)) d_M_enter_121,
  mx_s_aload_n C d_M_enter_124 rfl,
  mx_s_iconst C d_M_enter_125 (by decide),
  mx_s_puti (T := T_M) (N := 18) (k := 15) C (fun w h => List.mem_cons_of_mem _ (in_M w h)) rfl ty_M ok_M nm_M (by decide) (List.mem_cons_of_mem _ fk_M_68) rfl rfl (ok_M 15 (by decide)) d_M_enter_126,
  mx_s_aload_n C d_M_enter_129 rfl,
  mx_s_get (T := T_M) (N := 18) (k := 3) C (fun w h => List.mem_cons_of_mem _ (in_M w h)) rfl (by decide) (List.mem_cons_of_mem _ fk_M_51) rfl d_M_enter_130,
  mx_s_iconst C d_M_enter_133 (by decide),
  mx_s_isub C d_M_enter_134,
  mx_s_iret C hr hlk d_M_enter_135,
  trivial⟩
set_option maxRecDepth 20000 in
set_option maxHeartbeats 2000000 in
theorem m_M_enter (l : Launch) : mx_M l y_M_enter w_M_enter rm_M_enter sp_M_enter := by
  intro zD ztc ztb zad As F P sz0 h
  obtain ⟨th, sp, wy, kp, sd, rn, n, N, rl, lt, ml, rfl, h0, h1, h2, h3, hr, hw, hz, hk, hf, ha⟩ := h
  refine mx_run (cc := c_M_enter) (maxL := 2) (ret := (some .int)) (tab := t_M_enter  P) (by decide) rfl zD ztc ztb zad _ F P sz0 (Nat.le_of_ble_eq_true rfl) (fun p e s m args below meth c C hr hlk => a_M_enter  C hr hlk) ?_
  intro Rr go
  have hF := mx_as4 h0 h1 h3 h2
  have hX := mx_as3 h0 h1 h3
  rw [hF]
  have hn := hw.1
  refine go rfl ⟨_, rfl, ?_⟩
  refine go rfl ⟨_, _, _, _, rfl, rfl, rfl, ?_⟩
  refine go rfl ⟨_, _, rfl, fun c1 => ?_, fun c1 => ?_⟩
  · refine go rfl ?_
    refine go rfl ⟨_, rfl, rfl, rfl, ?_⟩
    rw [← hF]
    refine hz (Or.inl ?_)
    rcases Nat.eq_zero_or_pos rn with q | q
    · exact q
    · exact absurd c1 (nI_ne0 q (by omega))
  have h1r : 1 ≤ rn := by
    rcases Nat.eq_zero_or_pos rn with q | q
    · rw [q] at c1
      exact absurd rfl c1
    · exact q
  refine go rfl ⟨_, rfl, ?_⟩
  refine go rfl ⟨_, _, _, _, rfl, rfl, rfl, ?_⟩
  refine go rfl ?_
  refine go rfl ⟨_, _, _, rfl, fun c2 => ?_, fun c2 => ?_⟩
  rotate_left
  · refine go rfl ?_
    refine go rfl ⟨_, rfl, rfl, rfl, ?_⟩
    rw [← hF]
    refine hz (Or.inr ?_)
    rcases Nat.lt_or_ge 6 rn with q | q
    · exact q
    · exact absurd (nI_le q (by omega)) c2
  have h6r : rn ≤ 6 := (nI_leI (by omega) (by omega)).mp c2
  have app : n < 60 → (∀ j, j < n → ¬ msame N lt rl rn j) → ∀ (k i : Nat) (lt' : Nat → Int32), i + k = rn → (∀ q, q < 6 * n → lt' q = lt q) → (∀ q, q < i → lt' (6 * n + q) = rl q) → Rr 57 [some (mx_r 40), some (mx_i (nI i))] [] (mx_put (mx_put (mx_put (mx_put F 40 (e_M th (nI rn) (nI n) sp wy kp sd)) 41 (mx_ia 12 rl)) 43 (mx_ia 60 ml)) 42 (mx_ia 360 lt')) 0 0 := by
    intro hn60 hno k
    induction k with
    | zero =>
      intro i lt' hi qa qb
      refine go rfl ⟨_, rfl, ?_⟩
      refine go rfl ⟨_, rfl, ?_⟩
      refine go rfl ⟨_, _, _, _, rfl, rfl, rfl, ?_⟩
      refine go rfl ⟨_, _, _, rfl, fun c => ?_, fun c => ?_⟩
      · refine go rfl ⟨_, rfl, ?_⟩
        refine go rfl ⟨_, _, _, _, rfl, rfl, rfl, ?_⟩
        refine go rfl ⟨_, rfl, ?_⟩
        refine go rfl ⟨_, _, _, _, rfl, rfl, rfl, ?_⟩
        refine go rfl ⟨_, rfl, ?_⟩
        refine go rfl ⟨_, _, _, _, rfl, rfl, rfl, ?_⟩
        refine go rfl ⟨_, _, _, _, _, _, rfl, rfl, (vp_in_nI (show n < 60 by omega) (by omega)), ?_⟩
        rw [nI_clamp (by omega)]
        refine go rfl ⟨_, rfl, ?_⟩
        refine go rfl ⟨_, _, rfl, rfl, ?_⟩
        refine go rfl ⟨_, _, _, _, rfl, rfl, rfl, ?_⟩
        refine go rfl ?_
        refine go rfl ⟨_, _, _, rfl, ?_⟩
        rw [nI_add]
        refine go rfl ⟨_, _, _, _, rfl, rfl, (Nat.le_of_ble_eq_true rfl), ?_⟩
        refine go rfl ⟨_, rfl, ?_⟩
        refine go rfl ?_
        refine go rfl ⟨_, _, _, _, rfl, rfl, (Nat.le_of_ble_eq_true rfl), ?_⟩
        refine go rfl ⟨_, rfl, ?_⟩
        refine go rfl ?_
        refine go rfl ⟨_, _, _, _, rfl, rfl, (Nat.le_of_ble_eq_true rfl), ?_⟩
        refine go rfl ⟨_, rfl, ?_⟩
        refine go rfl ?_
        refine go rfl ⟨_, _, _, _, rfl, rfl, (Nat.le_of_ble_eq_true rfl), ?_⟩
        refine go rfl ⟨_, rfl, ?_⟩
        refine go rfl ⟨_, _, _, _, rfl, rfl, rfl, ?_⟩
        refine go rfl ?_
        refine go rfl ⟨_, _, _, rfl, ?_⟩
        rw [pk_sub (by omega), show n + 1 - 1 = n by omega]
        refine go rfl ⟨_, rfl, rfl, rfl, ?_⟩
        simp only [mx_pp]
        rw [← hX]
        exact ha h1r h6r hno hn60 lt' qa (fun q hq => qb q (by omega))
      · exact absurd (nI_le (by omega) (by omega)) c
    | succ k ih =>
      intro i lt' hi qa qb
      refine go rfl ⟨_, rfl, ?_⟩
      refine go rfl ⟨_, rfl, ?_⟩
      refine go rfl ⟨_, _, _, _, rfl, rfl, rfl, ?_⟩
      refine go rfl ⟨_, _, _, rfl, fun c => ?_, fun c => ?_⟩
      · exact absurd ((nI_leI (by omega) (by omega)).mp c) (by omega)
      refine go rfl ⟨_, rfl, ?_⟩
      refine go rfl ⟨_, _, _, _, rfl, rfl, rfl, ?_⟩
      refine go rfl ?_
      refine go rfl ⟨_, rfl, ?_⟩
      refine go rfl ⟨_, _, _, _, rfl, rfl, rfl, ?_⟩
      refine go rfl ⟨_, _, _, rfl, ?_⟩
      rw [pk_mul]
      refine go rfl ⟨_, rfl, ?_⟩
      refine go rfl ⟨_, _, _, rfl, ?_⟩
      rw [nI_add]
      refine go rfl ⟨_, rfl, ?_⟩
      refine go rfl ⟨_, _, _, _, rfl, rfl, rfl, ?_⟩
      refine go rfl ⟨_, rfl, ?_⟩
      refine go rfl ⟨_, _, _, _, _, rfl, rfl, (vp_in_nI (show i < 12 by omega) (by omega)), ?_⟩
      refine go rfl ⟨_, _, _, _, _, _, rfl, rfl, (vp_in_nI (show 6 * n + i < 360 by omega) (by omega)), ?_⟩
      rw [nI_clamp (by omega), nI_clamp (by omega), mx_pp]
      refine go rfl ⟨_, rfl, ?_⟩
      refine go rfl ?_
      rw [nI_add]
      refine ih (i + 1) _ (by omega) (fun q hq => ?_) (fun q hq => ?_)
      · rw [pk_un (by omega)]
        exact qa q hq
      · by_cases hqi : q = i
        · rw [hqi, pk_us]
        · rw [pk_un (by omega)]
          exact qb q (by omega)
  have loop : ∀ (k i : Nat), i + k = n → (∀ q, q < i → ¬ msame N lt rl rn q) → Rr 20 [some (mx_r 40), some (mx_i (nI i))] [] (mx_put (mx_put (mx_put (mx_put F 40 (e_M th (nI rn) (nI n) sp wy kp sd)) 41 (mx_ia 12 rl)) 43 (mx_ia 60 ml)) 42 (mx_ia 360 lt)) 0 0 := by
    intro k
    induction k with
    | zero =>
      intro i hi hq
      refine go rfl ⟨_, rfl, ?_⟩
      refine go rfl ⟨_, rfl, ?_⟩
      refine go rfl ⟨_, _, _, _, rfl, rfl, rfl, ?_⟩
      refine go rfl ⟨_, _, _, rfl, fun c => ?_, fun c => ?_⟩
      · refine go rfl ⟨_, rfl, ?_⟩
        refine go rfl ⟨_, _, _, _, rfl, rfl, rfl, ?_⟩
        refine go rfl ?_
        refine go rfl ⟨_, _, _, rfl, fun c5 => ?_, fun c5 => ?_⟩
        · have hn60 : n < 60 := by
            rcases Nat.lt_or_ge n 60 with q | q
            · exact q
            · exact absurd (by rw [show n = 60 by omega]) c5
          refine go rfl ?_
          refine go rfl ⟨_, _, rfl, ?_⟩
          exact app hn60 (fun j hj => hq j (by omega)) rn 0 lt (by omega) (fun _ _ => rfl) (fun q hq2 => absurd hq2 (Nat.not_lt_zero q))
        · refine go rfl ?_
          refine go rfl ⟨_, rfl, rfl, rfl, ?_⟩
          rw [← hF]
          exact hf h1r h6r (fun j hj => hq j (by omega)) (Nat.le_of_eq ((nI_eq (by omega) (by omega)).mp c5).symm)
      · exact absurd (nI_le (by omega) (by omega)) c
    | succ k ih =>
      intro i hi hq
      refine go rfl ⟨_, rfl, ?_⟩
      refine go rfl ⟨_, rfl, ?_⟩
      refine go rfl ⟨_, _, _, _, rfl, rfl, rfl, ?_⟩
      refine go rfl ⟨_, _, _, rfl, fun c => ?_, fun c => ?_⟩
      · exact absurd ((nI_leI (by omega) (by omega)).mp c) (by omega)
      refine go rfl ⟨_, rfl, ?_⟩
      refine go rfl ⟨_, rfl, ?_⟩
      refine go rfl ⟨_, _, _, _, rfl, rfl, rfl, rfl, rfl, ⟨_, _, _, _, _, rn, n, i, N, rl, lt, ml, rfl, rfl, rfl, rfl, rfl, hr, hw, by omega, fun hs => ?_, fun hs => ?_⟩⟩
      · refine go rfl ⟨_, _, rfl, fun d => ?_, fun d => ?_⟩
        · exact absurd d (by decide)
        refine go rfl ⟨_, rfl, ?_⟩
        refine go rfl ⟨_, rfl, rfl, rfl, ?_⟩
        rw [← hF]
        exact hk i h1r h6r (by omega) hs hq
      · refine go rfl ⟨_, _, rfl, fun d => ?_, fun d => ?_⟩
        · refine go rfl ⟨_, rfl, ?_⟩
          refine go rfl ?_
          rw [nI_add]
          refine ih (i + 1) (by omega) (fun q hq2 => ?_)
          rcases Nat.lt_or_ge q i with w | w
          · exact hq q w
          · rw [show q = i by omega]
            exact hs
        · exact absurd rfl d
  refine go rfl ?_
  refine go rfl ⟨_, _, rfl, ?_⟩
  exact loop n 0 (by omega) (fun q hq => absurd hq (Nat.not_lt_zero q))
