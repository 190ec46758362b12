theorem u_letterOfA {n : Nat} {N : Nat → Nat} {ch : Nat → Nat → Int32} {S : Nat → Nat} {lt st : Nat → Int32} {F : mx_F} {P : Option mx_V → mx_F → Prop} {w i : Int32} (hw : wst n N ch S lt st) (h3 : F 3 = some (e_W n)) (h4 : F 4 = some (mx_ia 360 lt)) (h5 : F 5 = some (mx_ia 61 st)) (hp : ∀ x : Int32, P (some (mx_i x)) F) : sp_W_letterOf [mx_r 3, mx_i w, mx_i i] F P :=
  ⟨n, S, st, lt, w, i, rfl, h3, h4, h5, hw.1, fun _ _ _ _ _ _ => hp _, fun _ => hp _⟩
theorem nI_01 {b : Nat} (h : b ≤ 1) : nI b = 0 ∨ nI b = 1 := by
  rcases (show b = 0 ∨ b = 1 by omega) with rfl | rfl
  · exact Or.inl rfl
  · exact Or.inr rfl
theorem g5_at {a i : Nat} (h : i < 5) : mx_g5 a (nI i).toNatClampNeg = some (a + i) := by
  rw [nI_clamp (by omega)]
  exact if_pos h
/-- the rows of the squares, and the lines -/
def qrw (F : mx_F) : Prop := (∀ k, k < 5 → ∃ f, F (19 + k) = some (mx_la 26 f)) ∧ (∀ k, k < 5 → ∃ f, F (24 + k) = some (mx_la 5 f)) ∧ ∃ f, F 18 = some (mx_ia 5 f)
/-- but for them nothing has changed -/
def qfr (F G : mx_F) : Prop := ∀ k, (k < 18 ∨ 29 ≤ k) → G k = F k
theorem qfr_rf (F : mx_F) : qfr F F := fun _ _ => rfl
theorem qfr_tr {F G H : mx_F} (h1 : qfr F G) (h2 : qfr G H) : qfr F H := fun k hk => (h2 k hk).trans (h1 k hk)
theorem qfr_put {F : mx_F} {q : Nat} {e : mx_E} (h1 : 18 ≤ q) (h2 : q < 29) : qfr F (mx_put F q e) := fun k hk => mx_put_ne (by omega)
theorem qrw_h {F : mx_F} {i : Nat} {f : Nat → Int64} (h : qrw F) (hi : i < 5) : qrw (mx_put F (19 + i) (mx_la 26 f)) := by
  refine ⟨fun k hk => ?_, fun k hk => ?_, ?_⟩
  · by_cases e : k = i
    · subst e
      exact ⟨f, mx_put_at _ _ _⟩
    · rw [mx_put_ne (by omega)]
      exact h.1 k hk
  · rw [mx_put_ne (by omega)]
    exact h.2.1 k hk
  · rw [mx_put_ne (by omega)]
    exact h.2.2
theorem qrw_o {F : mx_F} {i : Nat} {f : Nat → Int64} (h : qrw F) (hi : i < 5) : qrw (mx_put F (24 + i) (mx_la 5 f)) := by
  refine ⟨fun k hk => ?_, fun k hk => ?_, ?_⟩
  · rw [mx_put_ne (by omega)]
    exact h.1 k hk
  · by_cases e : k = i
    · subst e
      exact ⟨f, mx_put_at _ _ _⟩
    · rw [mx_put_ne (by omega)]
      exact h.2.1 k hk
  · rw [mx_put_ne (by omega)]
    exact h.2.2
theorem qrw_l {F : mx_F} {f : Nat → Int32} (h : qrw F) : qrw (mx_put F 18 (mx_ia 5 f)) := by
  refine ⟨fun k hk => ?_, fun k hk => ?_, f, mx_put_at _ _ _⟩
  · rw [mx_put_ne (by omega)]
    exact h.1 k hk
  · rw [mx_put_ne (by omega)]
    exact h.2.1 k hk
/-- the rows of letters: what is noted is so, and all before v0 of m letters are noted; of v0 itself i letters -/
def hrw (n : Nat) (N : Nat → Nat) (ch : Nat → Nat → Int32) (m v0 i : Nat) (F : mx_F) : Prop := ∀ x, x < 5 → ∃ f, F (19 + x) = some (mx_la 26 f) ∧ (∀ u v, u < 26 → bt (f u) v → v < n ∧ x < N v ∧ ch v x = nI (97 + u)) ∧ ∀ u v, u < 26 → (v < v0 ∨ (v = v0 ∧ x < i)) → N v = m → x < m → ch v x = nI (97 + u) → bt (f u) v
theorem hrw_t {n : Nat} {N : Nat → Nat} {ch : Nat → Nat → Int32} {m v0 i : Nat} {F G : mx_F} (h : hrw n N ch m v0 i F) (hg : ∀ x, x < 5 → G (19 + x) = F (19 + x)) : hrw n N ch m v0 i G := fun x hx => by
  obtain ⟨f, h1, h2⟩ := h x hx
  exact ⟨f, (hg x hx).trans h1, h2⟩
theorem hrw_0 {n : Nat} {N : Nat → Nat} {ch : Nat → Nat → Int32} {m v0 i m' : Nat} {F : mx_F} (h : hrw n N ch m v0 i F) : hrw n N ch m' 0 0 F := fun x hx => by
  obtain ⟨f, h1, h2, _⟩ := h x hx
  exact ⟨f, h1, h2, fun u v _ q => by omega⟩
theorem hrw_n {n : Nat} {N : Nat → Nat} {ch : Nat → Nat → Int32} {m v0 : Nat} {F : mx_F} (h : hrw n N ch m v0 m F) : hrw n N ch m (v0 + 1) 0 F := fun x hx => by
  obtain ⟨f, h1, h2, h3⟩ := h x hx
  exact ⟨f, h1, h2, fun u v hu hv hN hm hc => h3 u v hu (by omega) hN hm hc⟩
theorem hrw_s {n : Nat} {N : Nat → Nat} {ch : Nat → Nat → Int32} {m v0 : Nat} {F : mx_F} (h : hrw n N ch m v0 0 F) (hN : ¬ N v0 = m) : hrw n N ch m (v0 + 1) 0 F := fun x hx => by
  obtain ⟨f, h1, h2, h3⟩ := h x hx
  refine ⟨f, h1, h2, fun u v hu hv hN2 hm hc => h3 u v hu ?_ hN2 hm hc⟩
  by_cases e : v = v0
  · rw [e] at hN2
    exact absurd hN2 hN
  · omega
/-- the words that may still be at a line -/
def ocd (n : Nat) (N : Nat → Nat) (ch : Nat → Nat → Int32) (m d : Nat) (l : Nat → Nat) (i v : Nat) : Prop := v < n ∧ N v = m ∧ ∀ q, q < d → ch v q = ch (l q) i
def orw (n : Nat) (N : Nat → Nat) (ch : Nat → Nat → Int32) (m d : Nat) (l : Nat → Nat) (F : mx_F) : Prop := ∃ f, F (24 + d) = some (mx_la 5 f) ∧ ∀ i, d ≤ i → i < m → ∀ v, bt (f i) v ↔ ocd n N ch m d l i v
/-- rows of letters, sets down to d, and all else stay -/
def sfr (d : Nat) (F G : mx_F) : Prop := ∀ k, (k < 18 ∨ 29 ≤ k ∨ (19 ≤ k ∧ k ≤ 24 + d)) → G k = F k
theorem sfr_rf (d : Nat) (F : mx_F) : sfr d F F := fun _ _ => rfl
theorem sfr_tr {d : Nat} {F G H : mx_F} (h1 : sfr d F G) (h2 : sfr d G H) : sfr d F H := fun k hk => (h2 k hk).trans (h1 k hk)
theorem sfr_up {d : Nat} {F G : mx_F} (h : sfr (d + 1) F G) : sfr d F G := fun k hk => h k (by omega)
theorem sfr_18 {d : Nat} {F : mx_F} {e : mx_E} : sfr d F (mx_put F 18 e) := fun k hk => mx_put_ne (by omega)
theorem sfr_o {d : Nat} {F : mx_F} {e : mx_E} (hd : d < 4) : sfr d F (mx_put F (24 + (d + 1)) e) := fun k hk => by
  by_cases q : k = 24 + (d + 1)
  · omega
  · exact mx_put_ne q
/-- nothing but the rows of letters and the first sets -/
def nfr (b : Nat) (F G : mx_F) : Prop := ∀ k, (k < 19 ∨ b ≤ k) → G k = F k
-- LadderWords$Squares.wordsWith(II)J
def sp_Q_wordsWith : mx_Sp := fun As F P => ∃ (qs qt : Int32) (i u : Nat) (f : Nat → Int64), As = [mx_r 15, mx_i (nI i), mx_i (nI (97 + u))] ∧ F 15 = some (e_Q qs qt) ∧ F 16 = some (mx_qa 2 5 (mx_g5 19)) ∧ F (19 + i) = some (mx_la 26 f) ∧ i < 5 ∧ u < 26 ∧ P (some (mx_l (f u))) F
theorem d_Q_wordsWith_0 : decode c_Q_wordsWith 0 = .ok (.iload_n 2, 1) := by decide +kernel
theorem d_Q_wordsWith_1 : decode c_Q_wordsWith 1 = .ok (.bipush 97, 2) := by decide +kernel
theorem d_Q_wordsWith_3 : decode c_Q_wordsWith 3 = .ok (.isub, 1) := by decide +kernel
theorem d_Q_wordsWith_4 : decode c_Q_wordsWith 4 = .ok (.istore_n 3, 1) := by decide +kernel
theorem d_Q_wordsWith_5 : decode c_Q_wordsWith 5 = .ok (.iload_n 3, 1) := by decide +kernel
theorem d_Q_wordsWith_6 : decode c_Q_wordsWith 6 = .ok (.ifCond .lt 20, 3) := by decide +kernel
theorem d_Q_wordsWith_9 : decode c_Q_wordsWith 9 = .ok (.iload_n 3, 1) := by decide +kernel
theorem d_Q_wordsWith_10 : decode c_Q_wordsWith 10 = .ok (.bipush 26, 2) := by decide +kernel
theorem d_Q_wordsWith_12 : decode c_Q_wordsWith 12 = .ok (.if_icmp .ge 14, 3) := by decide +kernel
theorem d_Q_wordsWith_15 : decode c_Q_wordsWith 15 = .ok (.aload_n 0, 1) := by decide +kernel
theorem d_Q_wordsWith_16 : decode c_Q_wordsWith 16 = .ok (.getfield 13, 3) := by decide +kernel
theorem d_Q_wordsWith_19 : decode c_Q_wordsWith 19 = .ok (.iload_n 1, 1) := by decide +kernel
theorem d_Q_wordsWith_20 : decode c_Q_wordsWith 20 = .ok (.aaload, 1) := by decide +kernel
theorem d_Q_wordsWith_21 : decode c_Q_wordsWith 21 = .ok (.iload_n 3, 1) := by decide +kernel
theorem d_Q_wordsWith_22 : decode c_Q_wordsWith 22 = .ok (.laload, 1) := by decide +kernel
theorem d_Q_wordsWith_23 : decode c_Q_wordsWith 23 = .ok (.goto 4, 3) := by decide +kernel
theorem d_Q_wordsWith_27 : decode c_Q_wordsWith 27 = .ok (.lreturn, 1) := by decide +kernel
abbrev w_Q_wordsWith : List Cond := mx_ws y_Q_wordsWith c_Q_wordsWith 4 (some .long)
abbrev rm_Q_wordsWith : Room := { frames := 10, cells := 0, slots := 0, locals := 200 }
def t_Q_wordsWith  (P : Option mx_V → mx_F → Prop) : List (Nat × mx_O) := [
  (0, mx_iload 2 1),
  (1, mx_push (.inl (nI 97)) 3),
  (3, mx_isub 4),
  (4, mx_istore 3 5),
  (5, mx_iload 3 6),
  (6, mx_if_lt 26 9),
  (9, mx_iload 3 10),
  (10, mx_push (.inl (nI 26)) 12),
  (12, mx_ic_ge 26 15),
  (15, mx_aload 0 16),
  (16, mx_get 4 1 19),
  (19, mx_iload 1 20),
  (20, mx_aald 21),
  (21, mx_iload 3 22),
  (22, mx_lald 23),
  (23, mx_goto 27),
  (27, mx_lret P)]
set_option maxRecDepth 20000 in
theorem a_Q_wordsWith  {p : Program} {l : Launch} {e : Env} {s : State} {m : MethodId} {args : Array Value} {below : List Frame} {meth : Method} {c : Code} {D : va_G} {tc : Nat → ClassId} {tb : Nat → Nat} {sz : Nat} {a0 : Nat → Nat} {G : mx_F} {P : Option mx_V → mx_F → Prop}  (C : mx_C p s m args c c_Q_wordsWith y_Q_wordsWith.cls w_Q_wordsWith D tc tb (mx_A a0 G sz) 4 (mx_Ok0 a0 G)) (hr : meth.sig.returnType = (some .long)) (hlk : meth.locks = false) : mx_all (mx_W p l e rm_Q_wordsWith s m args below meth c (MQ below (mx_Q D tc tb a0 G sz P) args s 0 0 (mx_A a0 G sz)) D tc tb (mx_A a0 G sz) 4 (mx_Ok0 a0 G)) (t_Q_wordsWith  P) :=
  ⟨mx_s_iload_n C d_Q_wordsWith_0 rfl,
  mx_s_bipush C d_Q_wordsWith_1 (by decide),
  mx_s_isub C d_Q_wordsWith_3,
  mx_s_istore_n C d_Q_wordsWith_4 rfl (by decide),
  mx_s_iload_n C d_Q_wordsWith_5 rfl,
  mx_s_if_lt C d_Q_wordsWith_6 (by decide),
  mx_s_iload_n C d_Q_wordsWith_9 rfl,
  mx_s_bipush C d_Q_wordsWith_10 (by decide),
  mx_s_ic_ge C d_Q_wordsWith_12 (by decide),
  mx_s_aload_n C d_Q_wordsWith_15 rfl,
  mx_s_get (T := T_Q) (N := 6) (k := 1) C (fun w h => List.mem_cons_of_mem _ (in_Q w h)) rfl (by decide) (List.mem_cons_of_mem _ fk_Q_13) rfl d_Q_wordsWith_16,
  mx_s_iload_n C d_Q_wordsWith_19 rfl,
  mx_s_aald C d_Q_wordsWith_20,
  mx_s_iload_n C d_Q_wordsWith_21 rfl,
  mx_s_lald C d_Q_wordsWith_22,
  mx_s_goto C d_Q_wordsWith_23 (by decide),
  mx_s_lret C hr hlk d_Q_wordsWith_27,
  trivial⟩
set_option maxRecDepth 20000 in
set_option maxHeartbeats 2000000 in
theorem m_Q_wordsWith (l : Launch) : mx_M l y_Q_wordsWith w_Q_wordsWith rm_Q_wordsWith sp_Q_wordsWith := by
  intro zD ztc ztb zad As F P sz0 h
  obtain ⟨qs, qt, i, u, f, rfl, h15, h16, hf, hi, hu, hp⟩ := h
  refine mx_run (cc := c_Q_wordsWith) (maxL := 4) (ret := (some .long)) (tab := t_Q_wordsWith  P) (by decide) rfl zD ztc ztb zad _ F P sz0 (Nat.le_of_ble_eq_true rfl) (fun p e s m args below meth c C hr hlk => a_Q_wordsWith  C hr hlk) ?_
  intro Rr go
  have hF := mx_as2 h15 h16
  have hrow : (mx_put (mx_put F 15 (e_Q qs qt)) 16 (mx_qa 2 5 (mx_g5 19))) (19 + i) = some (mx_la 26 f) := by rw [← hF]; exact hf
  have eu : nI (97 + u) - nI 97 = nI u := by rw [pk_sub (by omega), show 97 + u - 97 = u by omega]
  rw [hF]
  refine go rfl ⟨_, rfl, ?_⟩
  refine go rfl ?_
  refine go rfl ⟨_, _, _, rfl, ?_⟩
  rw [eu]
  refine go rfl ⟨_, _, rfl, ?_⟩
  refine go rfl ⟨_, rfl, ?_⟩
  refine go rfl ⟨_, _, rfl, fun c1 => ?_, fun c1 => ?_⟩
  · exact absurd c1 (nI_pos (by omega))
  refine go rfl ⟨_, rfl, ?_⟩
  refine go rfl ?_
  refine go rfl ⟨_, _, _, rfl, fun c2 => ?_, fun c2 => ?_⟩
  · exact absurd ((nI_leI (by omega) (by omega)).mp c2) (by omega)
  refine go rfl ⟨_, rfl, ?_⟩
  refine go rfl ⟨_, _, _, _, rfl, rfl, rfl, ?_⟩
  refine go rfl ⟨_, rfl, ?_⟩
  refine go rfl ⟨_, _, _, _, _, _, _, rfl, rfl, ⟨_, rfl, rfl⟩, (vp_in_nI hi (by omega)), (g5_at hi), ?_⟩
  refine go rfl ⟨_, rfl, ?_⟩
  refine go rfl ⟨_, _, _, _, _, rfl, hrow, vp_in_nI hu (by omega), ?_⟩
  rw [nI_clamp (by omega)]
  refine go rfl ?_
  refine go rfl ⟨_, rfl, rfl, rfl, ?_⟩
  rw [← hF]
  exact hp
-- LadderWords$Squares.noteLetters(II)V
def sp_Q_noteLetters : mx_Sp := fun As F P => ∃ (n : Nat) (N : Nat → Nat) (ch : Nat → Nat → Int32) (S : Nat → Nat) (lt st : Nat → Int32) (qs qt : Int32) (j m : Nat), As = [mx_r 15, mx_i (nI j), mx_i (nI m)] ∧ F 3 = some (e_W n) ∧ F 4 = some (mx_ia 360 lt) ∧ F 5 = some (mx_ia 61 st) ∧ wst n N ch S lt st ∧ F 15 = some (e_Q qs qt) ∧ F 16 = some (mx_qa 2 5 (mx_g5 19)) ∧ F 17 = some (mx_qa 2 5 (mx_g5 24)) ∧ qrw F ∧ j < n ∧ N j = m ∧ m ≤ 5 ∧ hrw n N ch m j 0 F ∧ ∀ F', nfr 24 F F' → qrw F' → hrw n N ch m (j + 1) 0 F' → P none F'
theorem d_Q_noteLetters_0 : decode c_Q_noteLetters 0 = .ok (.iconst 0, 1) := by decide +kernel
theorem d_Q_noteLetters_1 : decode c_Q_noteLetters 1 = .ok (.istore_n 3, 1) := by decide +kernel
theorem d_Q_noteLetters_2 : decode c_Q_noteLetters 2 = .ok (.iload_n 3, 1) := by decide +kernel
theorem d_Q_noteLetters_3 : decode c_Q_noteLetters 3 = .ok (.iload_n 2, 1) := by decide +kernel
theorem d_Q_noteLetters_4 : decode c_Q_noteLetters 4 = .ok (.if_icmp .ge 50, 3) := by decide +kernel
theorem d_Q_noteLetters_7 : decode c_Q_noteLetters 7 = .ok (.aload_n 0, 1) := by decide +kernel
theorem d_Q_noteLetters_8 : decode c_Q_noteLetters 8 = .ok (.getfield 23, 3) := by decide +kernel
theorem d_Q_noteLetters_11 : decode c_Q_noteLetters 11 = .ok (.iload_n 1, 1) := by decide +kernel
theorem d_Q_noteLetters_12 : decode c_Q_noteLetters 12 = .ok (.iload_n 3, 1) := by decide +kernel
theorem d_Q_noteLetters_13 : decode c_Q_noteLetters 13 = .ok (.invokevirtual 56, 3) := by decide +kernel
theorem d_Q_noteLetters_16 : decode c_Q_noteLetters 16 = .ok (.bipush 97, 2) := by decide +kernel
theorem d_Q_noteLetters_18 : decode c_Q_noteLetters 18 = .ok (.isub, 1) := by decide +kernel
theorem d_Q_noteLetters_19 : decode c_Q_noteLetters 19 = .ok (.istore 4, 2) := by decide +kernel
theorem d_Q_noteLetters_21 : decode c_Q_noteLetters 21 = .ok (.iload 4, 2) := by decide +kernel
theorem d_Q_noteLetters_23 : decode c_Q_noteLetters 23 = .ok (.ifCond .lt 25, 3) := by decide +kernel
theorem d_Q_noteLetters_26 : decode c_Q_noteLetters 26 = .ok (.iload 4, 2) := by decide +kernel
theorem d_Q_noteLetters_28 : decode c_Q_noteLetters 28 = .ok (.bipush 26, 2) := by decide +kernel
theorem d_Q_noteLetters_30 : decode c_Q_noteLetters 30 = .ok (.if_icmp .ge 18, 3) := by decide +kernel
theorem d_Q_noteLetters_33 : decode c_Q_noteLetters 33 = .ok (.aload_n 0, 1) := by decide +kernel
theorem d_Q_noteLetters_34 : decode c_Q_noteLetters 34 = .ok (.getfield 13, 3) := by decide +kernel
theorem d_Q_noteLetters_37 : decode c_Q_noteLetters 37 = .ok (.iload_n 3, 1) := by decide +kernel
theorem d_Q_noteLetters_38 : decode c_Q_noteLetters 38 = .ok (.aaload, 1) := by decide +kernel
theorem d_Q_noteLetters_39 : decode c_Q_noteLetters 39 = .ok (.iload 4, 2) := by decide +kernel
theorem d_Q_noteLetters_41 : decode c_Q_noteLetters 41 = .ok (.dup2, 1) := by decide +kernel
theorem d_Q_noteLetters_42 : decode c_Q_noteLetters 42 = .ok (.laload, 1) := by decide +kernel
theorem d_Q_noteLetters_43 : decode c_Q_noteLetters 43 = .ok (.lconst 1, 1) := by decide +kernel
theorem d_Q_noteLetters_44 : decode c_Q_noteLetters 44 = .ok (.iload_n 1, 1) := by decide +kernel
theorem d_Q_noteLetters_45 : decode c_Q_noteLetters 45 = .ok (.lshl, 1) := by decide +kernel
theorem d_Q_noteLetters_46 : decode c_Q_noteLetters 46 = .ok (.lor, 1) := by decide +kernel
theorem d_Q_noteLetters_47 : decode c_Q_noteLetters 47 = .ok (.lastore, 1) := by decide +kernel
theorem d_Q_noteLetters_48 : decode c_Q_noteLetters 48 = .ok (.iinc 3 1, 3) := by decide +kernel
theorem d_Q_noteLetters_51 : decode c_Q_noteLetters 51 = .ok (.goto (-49), 3) := by decide +kernel
theorem d_Q_noteLetters_54 : decode c_Q_noteLetters 54 = .ok (.return_, 1) := by decide +kernel
abbrev w_Q_noteLetters : List Cond := mx_ws y_Q_noteLetters c_Q_noteLetters 5 none
abbrev rm_Q_noteLetters : Room := { frames := 20, cells := 0, slots := 0, locals := 400 }
def t_Q_noteLetters  (P : Option mx_V → mx_F → Prop) : List (Nat × mx_O) := [
  (0, mx_push (.inl (nI 0)) 1),
  (1, mx_istore 3 2),
  (2, mx_iload 3 3),
  (3, mx_iload 2 4),
  (4, mx_ic_ge 54 7),
  (7, mx_aload 0 8),
  (8, mx_get 4 0 11),
  (11, mx_iload 1 12),
  (12, mx_iload 3 13),
  (13, mx_cv2 5 sp_W_letterOf 0 0 16),
  (16, mx_push (.inl (nI 97)) 18),
  (18, mx_isub 19),
  (19, mx_istore 4 21),
  (21, mx_iload 4 23),
  (23, mx_if_lt 48 26),
  (26, mx_iload 4 28),
  (28, mx_push (.inl (nI 26)) 30),
  (30, mx_ic_ge 48 33),
  (33, mx_aload 0 34),
  (34, mx_get 4 1 37),
  (37, mx_iload 3 38),
  (38, mx_aald 39),
  (39, mx_iload 4 41),
  (41, mx_dup2 42),
  (42, mx_lald 43),
  (43, mx_push (.inr (.inl 1)) 44),
  (44, mx_iload 1 45),
  (45, mx_lshl 46),
  (46, mx_lor 47),
  (47, mx_last 48),
  (48, mx_iinc 3 (nI 1) 51),
  (51, mx_goto 2),
  (54, mx_ret P)]
set_option maxRecDepth 20000 in
theorem a_Q_noteLetters  {p : Program} {l : Launch} {e : Env} {s : State} {m : MethodId} {args : Array Value} {below : List Frame} {meth : Method} {c : Code} {D : va_G} {tc : Nat → ClassId} {tb : Nat → Nat} {sz : Nat} {a0 : Nat → Nat} {G : mx_F} {P : Option mx_V → mx_F → Prop}  (C : mx_C p s m args c c_Q_noteLetters y_Q_noteLetters.cls w_Q_noteLetters D tc tb (mx_A a0 G sz) 5 (mx_Ok0 a0 G)) (hr : meth.sig.returnType = none) (hlk : meth.locks = false) : mx_all (mx_W p l e rm_Q_noteLetters s m args below meth c (MQ below (mx_Q D tc tb a0 G sz P) args s 0 0 (mx_A a0 G sz)) D tc tb (mx_A a0 G sz) 5 (mx_Ok0 a0 G)) (t_Q_noteLetters  P) :=
  ⟨mx_s_iconst C d_Q_noteLetters_0 (by decide),
  mx_s_istore_n C d_Q_noteLetters_1 rfl (by decide),
  mx_s_iload_n C d_Q_noteLetters_2 rfl,
  mx_s_iload_n C d_Q_noteLetters_3 rfl,
  mx_s_ic_ge C d_Q_noteLetters_4 (by decide),
  mx_s_aload_n C d_Q_noteLetters_7 rfl,
  mx_s_get (T := T_Q) (N := 6) (k := 0) C (fun w h => List.mem_cons_of_mem _ (in_Q w h)) rfl (by decide) (List.mem_cons_of_mem _ fk_Q_23) rfl d_Q_noteLetters_8,
  mx_s_iload_n C d_Q_noteLetters_11 rfl,
  mx_s_iload_n C d_Q_noteLetters_12 rfl,
  mx_s_cv2 C (m_W_letterOf l) rfl (cwV 2 C.2.2.2.2.1 (mx_gV (fun w h => List.mem_cons_of_mem _ h) mk_Q_56 im_W_letterOf se_W_letterOf ic_W co_W_letterOf) rfl rfl rfl (by decide +kernel) ⟨by decide, by decide⟩) d_Q_noteLetters_13 ⟨Nat.zero_le _, Nat.zero_le _⟩,
  mx_s_bipush C d_Q_noteLetters_16 (by decide),
  mx_s_isub C d_Q_noteLetters_18,
  mx_s_istore C d_Q_noteLetters_19 (by decide),
  mx_s_iload C d_Q_noteLetters_21,
  mx_s_if_lt C d_Q_noteLetters_23 (by decide),
  mx_s_iload C d_Q_noteLetters_26,
  mx_s_bipush C d_Q_noteLetters_28 (by decide),
  mx_s_ic_ge C d_Q_noteLetters_30 (by decide),
  mx_s_aload_n C d_Q_noteLetters_33 rfl,
  mx_s_get (T := T_Q) (N := 6) (k := 1) C (fun w h => List.mem_cons_of_mem _ (in_Q w h)) rfl (by decide) (List.mem_cons_of_mem _ fk_Q_13) rfl d_Q_noteLetters_34,
  mx_s_iload_n C d_Q_noteLetters_37 rfl,
  mx_s_aald C d_Q_noteLetters_38,
  mx_s_iload C d_Q_noteLetters_39,
  mx_s_dup2 C d_Q_noteLetters_41,
  mx_s_lald C d_Q_noteLetters_42,
  mx_s_lconst C d_Q_noteLetters_43 (by decide),
  mx_s_iload_n C d_Q_noteLetters_44 rfl,
  mx_s_lshl C d_Q_noteLetters_45,
  mx_s_lor C d_Q_noteLetters_46,
  mx_s_last C d_Q_noteLetters_47,
  mx_s_iinc C d_Q_noteLetters_48 (by decide) (by decide),
  mx_s_goto C d_Q_noteLetters_51 (by decide),
  mx_s_ret C hr hlk d_Q_noteLetters_54,
  trivial⟩
set_option maxRecDepth 20000 in
set_option maxHeartbeats 2000000 in
theorem m_Q_noteLetters (l : Launch) : mx_M l y_Q_noteLetters w_Q_noteLetters rm_Q_noteLetters sp_Q_noteLetters := by
  intro zD ztc ztb zad As F P sz0 h
  obtain ⟨n, N, ch, S, lt, st, qs, qt, j, m, rfl, h3, h4, h5, hw, h15, h16, h17, hq, hj, hN, hm, hh, hp⟩ := h
  refine mx_run (cc := c_Q_noteLetters) (maxL := 5) (ret := none) (tab := t_Q_noteLetters  P) (by decide) rfl zD ztc ztb zad _ F P sz0 (Nat.le_of_ble_eq_true rfl) (fun p e s m args below meth c C hr hlk => a_Q_noteLetters  C hr hlk) ?_
  intro Rr go
  have hn := hw.1.1
  have loop : ∀ (k i : Nat) (jk : Option mx_V) (G : mx_F), i + k = m → nfr 24 F G → qrw G → hrw n N ch m j i G → Rr 2 [some (mx_r 15), some (mx_i (nI j)), some (mx_i (nI m)), some (mx_i (nI i)), jk] [] G 0 0 := by
    intro k
    induction k with
    | zero =>
      intro i jk G hi hg hqg hhg
      refine go rfl ⟨_, rfl, ?_⟩
      refine go rfl ⟨_, rfl, ?_⟩
      refine go rfl ⟨_, _, _, rfl, fun c => ?_, fun c => ?_⟩
      · refine go rfl ⟨rfl, rfl, rfl, ?_⟩
        refine hp G hg hqg (hrw_n ?_)
        rw [show i = m by omega] at hhg
        exact hhg
      · exact absurd (nI_le (by omega) (by omega)) c
    | succ k ih =>
      intro i jk G hi hg hqg hhg
      have g3 : G 3 = _ := (hg 3 (by omega)).trans h3
      have g4 : G 4 = _ := (hg 4 (by omega)).trans h4
      have g5 : G 5 = _ := (hg 5 (by omega)).trans h5
      have g15 : G 15 = _ := (hg 15 (by omega)).trans h15
      have g16 : G 16 = _ := (hg 16 (by omega)).trans h16
      have hG := mx_as5 g3 g4 g5 g15 g16
      refine go rfl ⟨_, rfl, ?_⟩
      refine go rfl ⟨_, rfl, ?_⟩
      refine go rfl ⟨_, _, _, rfl, fun c => ?_, fun c => ?_⟩
      · exact absurd ((nI_leI (by omega) (by omega)).mp c) (by omega)
      obtain ⟨u, hu, eu, ee⟩ := vl_ixe (hw.2.1.2.2 j i hj (by omega))
      obtain ⟨f, hf, hs, hc2⟩ := hhg i (by omega)
      rw [hG]
      refine go rfl ⟨_, rfl, ?_⟩
      refine go rfl ⟨_, _, _, _, rfl, rfl, rfl, ?_⟩
      refine go rfl ⟨_, rfl, ?_⟩
      refine go rfl ⟨_, rfl, ?_⟩
      refine go rfl ⟨_, _, _, _, _, rfl, rfl, rfl, rfl, rfl, u_letterOf hw hj (show i < N j by omega) rfl rfl rfl ?_⟩
      refine go rfl ?_
      refine go rfl ⟨_, _, _, rfl, ?_⟩
      rw [eu]
      refine go rfl ⟨_, _, rfl, ?_⟩
      refine go rfl ⟨_, rfl, ?_⟩
      refine go rfl ⟨_, _, rfl, fun c2 => ?_, fun c2 => ?_⟩
      · exact absurd c2 (nI_pos (by omega))
      refine go rfl ⟨_, rfl, ?_⟩
      refine go rfl ?_
      refine go rfl ⟨_, _, _, rfl, fun c3 => ?_, fun c3 => ?_⟩
      · exact absurd ((nI_leI (by omega) (by omega)).mp c3) (by omega)
      refine go rfl ⟨_, rfl, ?_⟩
      refine go rfl ⟨_, _, _, _, rfl, rfl, rfl, ?_⟩
      refine go rfl ⟨_, rfl, ?_⟩
      refine go rfl ⟨_, _, _, _, _, _, _, rfl, rfl, ⟨_, rfl, rfl⟩, (vp_in_nI (show i < 5 by omega) (by omega)), (g5_at (show i < 5 by omega)), ?_⟩
      refine go rfl ⟨_, rfl, ?_⟩
      refine go rfl ⟨_, _, _, rfl, rfl, rfl, ?_⟩
      rw [← hG]
      refine go rfl ⟨_, _, _, _, _, rfl, hf, vp_in_nI hu (by omega), ?_⟩
      refine go rfl ?_
      refine go rfl ⟨_, rfl, ?_⟩
      refine go rfl ⟨_, _, _, rfl, ?_⟩
      refine go rfl ⟨_, _, _, rfl, ?_⟩
      refine go rfl ⟨_, _, _, _, _, _, rfl, hf, vp_in_nI hu (by omega), ?_⟩
      rw [nI_clamp (by omega)]
      refine go rfl ⟨_, rfl, ?_⟩
      refine go rfl ?_
      rw [nI_add]
      refine ih (i + 1) _ _ (by omega) (fun k hk => (mx_put_ne (by omega)).trans (hg k hk)) (qrw_h hqg (by omega)) ?_
      intro x hx
      by_cases ex : x = i
      · subst ex
        refine ⟨_, mx_put_at _ _ _, fun u2 v hu2 hb => ?_, fun u2 v hu2 hv hNv hxm hcv => ?_⟩
        · by_cases e2 : u2 = u
          · subst e2
            rw [pk_uLs, bt_or, bt_one (by omega)] at hb
            rcases hb with hb | hb
            · exact hs u2 v hu2 hb
            · subst hb
              exact ⟨hj, by omega, ee⟩
          · rw [pk_uLn e2] at hb
            exact hs u2 v hu2 hb
        · by_cases ev : v = j
          · subst ev
            have e2 : u2 = u := by
              have := (nI_eq (by omega) (by omega)).mp (hcv.symm.trans ee)
              omega
            subst e2
            rw [pk_uLs, bt_or, bt_one (by omega)]
            exact Or.inr rfl
          · have hb := hc2 u2 v hu2 (Or.inl (by omega)) hNv hxm hcv
            by_cases e2 : u2 = u
            · subst e2
              rw [pk_uLs, bt_or]
              exact Or.inl hb
            · rw [pk_uLn e2]
              exact hb
      · obtain ⟨f2, k1, k2, k3⟩ := hhg x hx
        exact ⟨f2, (mx_put_ne (by omega)).trans k1, k2, fun u2 v hu2 hv hNv hxm hcv => k3 u2 v hu2 (by omega) hNv hxm hcv⟩
  refine go rfl ?_
  refine go rfl ⟨_, _, rfl, ?_⟩
  exact loop m 0 none F (by omega) (fun _ _ => rfl) hq hh
-- LadderWords$Squares.openAll(I)V
def sp_Q_openAll : mx_Sp := fun As F P => ∃ (n : Nat) (N : Nat → Nat) (ch : Nat → Nat → Int32) (S : Nat → Nat) (lt st : Nat → Int32) (qs qt : Int32) (m : Nat), As = [mx_r 15, mx_i (nI m)] ∧ F 3 = some (e_W n) ∧ F 4 = some (mx_ia 360 lt) ∧ F 5 = some (mx_ia 61 st) ∧ wst n N ch S lt st ∧ F 15 = some (e_Q qs qt) ∧ F 16 = some (mx_qa 2 5 (mx_g5 19)) ∧ F 17 = some (mx_qa 2 5 (mx_g5 24)) ∧ qrw F ∧ m ≤ 5 ∧ hrw n N ch m 0 0 F ∧ ∀ F', nfr 25 F F' → qrw F' → hrw n N ch m n 0 F' → (∀ l, orw n N ch m 0 l F') → P none F'
theorem d_Q_openAll_0 : decode c_Q_openAll 0 = .ok (.lconst 0, 1) := by decide +kernel
theorem d_Q_openAll_1 : decode c_Q_openAll 1 = .ok (.lstore_n 2, 1) := by decide +kernel
theorem d_Q_openAll_2 : decode c_Q_openAll 2 = .ok (.iconst 0, 1) := by decide +kernel
theorem d_Q_openAll_3 : decode c_Q_openAll 3 = .ok (.istore 4, 2) := by decide +kernel
theorem d_Q_openAll_5 : decode c_Q_openAll 5 = .ok (.iload 4, 2) := by decide +kernel
theorem d_Q_openAll_7 : decode c_Q_openAll 7 = .ok (.aload_n 0, 1) := by decide +kernel
theorem d_Q_openAll_8 : decode c_Q_openAll 8 = .ok (.getfield 23, 3) := by decide +kernel
theorem d_Q_openAll_11 : decode c_Q_openAll 11 = .ok (.invokevirtual 39, 3) := by decide +kernel
theorem d_Q_openAll_14 : decode c_Q_openAll 14 = .ok (.if_icmp .ge 36, 3) := by decide +kernel
theorem d_Q_openAll_17 : decode c_Q_openAll 17 = .ok (.aload_n 0, 1) := by decide +kernel
theorem d_Q_openAll_18 : decode c_Q_openAll 18 = .ok (.getfield 23, 3) := by decide +kernel
theorem d_Q_openAll_21 : decode c_Q_openAll 21 = .ok (.iload 4, 2) := by decide +kernel
theorem d_Q_openAll_23 : decode c_Q_openAll 23 = .ok (.invokevirtual 48, 3) := by decide +kernel
theorem d_Q_openAll_26 : decode c_Q_openAll 26 = .ok (.iload_n 1, 1) := by decide +kernel
theorem d_Q_openAll_27 : decode c_Q_openAll 27 = .ok (.if_icmp .ne 17, 3) := by decide +kernel
theorem d_Q_openAll_30 : decode c_Q_openAll 30 = .ok (.lload_n 2, 1) := by decide +kernel
theorem d_Q_openAll_31 : decode c_Q_openAll 31 = .ok (.lconst 1, 1) := by decide +kernel
theorem d_Q_openAll_32 : decode c_Q_openAll 32 = .ok (.iload 4, 2) := by decide +kernel
theorem d_Q_openAll_34 : decode c_Q_openAll 34 = .ok (.lshl, 1) := by decide +kernel
theorem d_Q_openAll_35 : decode c_Q_openAll 35 = .ok (.lor, 1) := by decide +kernel
theorem d_Q_openAll_36 : decode c_Q_openAll 36 = .ok (.lstore_n 2, 1) := by decide +kernel
theorem d_Q_openAll_37 : decode c_Q_openAll 37 = .ok (.aload_n 0, 1) := by decide +kernel
theorem d_Q_openAll_38 : decode c_Q_openAll 38 = .ok (.iload 4, 2) := by decide +kernel
theorem d_Q_openAll_40 : decode c_Q_openAll 40 = .ok (.iload_n 1, 1) := by decide +kernel
theorem d_Q_openAll_41 : decode c_Q_openAll 41 = .ok (.invokevirtual 52, 3) := by decide +kernel
theorem d_Q_openAll_44 : decode c_Q_openAll 44 = .ok (.iinc 4 1, 3) := by decide +kernel
theorem d_Q_openAll_47 : decode c_Q_openAll 47 = .ok (.goto (-42), 3) := by decide +kernel
theorem d_Q_openAll_50 : decode c_Q_openAll 50 = .ok (.iconst 0, 1) := by decide +kernel
theorem d_Q_openAll_51 : decode c_Q_openAll 51 = .ok (.istore 4, 2) := by decide +kernel
theorem d_Q_openAll_53 : decode c_Q_openAll 53 = .ok (.iload 4, 2) := by decide +kernel
theorem d_Q_openAll_55 : decode c_Q_openAll 55 = .ok (.iload_n 1, 1) := by decide +kernel
theorem d_Q_openAll_56 : decode c_Q_openAll 56 = .ok (.if_icmp .ge 19, 3) := by decide +kernel
theorem d_Q_openAll_59 : decode c_Q_openAll 59 = .ok (.aload_n 0, 1) := by decide +kernel
theorem d_Q_openAll_60 : decode c_Q_openAll 60 = .ok (.getfield 16, 3) := by decide +kernel
theorem d_Q_openAll_63 : decode c_Q_openAll 63 = .ok (.iconst 0, 1) := by decide +kernel
theorem d_Q_openAll_64 : decode c_Q_openAll 64 = .ok (.aaload, 1) := by decide +kernel
theorem d_Q_openAll_65 : decode c_Q_openAll 65 = .ok (.iload 4, 2) := by decide +kernel
theorem d_Q_openAll_67 : decode c_Q_openAll 67 = .ok (.lload_n 2, 1) := by decide +kernel
theorem d_Q_openAll_68 : decode c_Q_openAll 68 = .ok (.lastore, 1) := by decide +kernel
theorem d_Q_openAll_69 : decode c_Q_openAll 69 = .ok (.iinc 4 1, 3) := by decide +kernel
theorem d_Q_openAll_72 : decode c_Q_openAll 72 = .ok (.goto (-19), 3) := by decide +kernel
theorem d_Q_openAll_75 : decode c_Q_openAll 75 = .ok (.return_, 1) := by decide +kernel
abbrev w_Q_openAll : List Cond := mx_ws y_Q_openAll c_Q_openAll 5 none
abbrev rm_Q_openAll : Room := { frames := 30, cells := 0, slots := 0, locals := 600 }
def t_Q_openAll  (P : Option mx_V → mx_F → Prop) : List (Nat × mx_O) := [
  (0, mx_push (.inr (.inl 0)) 1),
  (1, mx_lstore 2 2),
  (2, mx_push (.inl (nI 0)) 3),
  (3, mx_istore 4 5),
  (5, mx_iload 4 7),
  (7, mx_aload 0 8),
  (8, mx_get 4 0 11),
  (11, mx_cv0 5 sp_W_count 0 0 14),
  (14, mx_ic_ge 50 17),
  (17, mx_aload 0 18),
  (18, mx_get 4 0 21),
  (21, mx_iload 4 23),
  (23, mx_cv1 5 sp_W_lengthOf 0 0 26),
  (26, mx_iload 1 27),
  (27, mx_ic_ne 44 30),
  (30, mx_lload 2 31),
  (31, mx_push (.inr (.inl 1)) 32),
  (32, mx_iload 4 34),
  (34, mx_lshl 35),
  (35, mx_lor 36),
  (36, mx_lstore 2 37),
  (37, mx_aload 0 38),
  (38, mx_iload 4 40),
  (40, mx_iload 1 41),
  (41, mx_cv2 4 sp_Q_noteLetters 0 0 44),
  (44, mx_iinc 4 (nI 1) 47),
  (47, mx_goto 5),
  (50, mx_push (.inl (nI 0)) 51),
  (51, mx_istore 4 53),
  (53, mx_iload 4 55),
  (55, mx_iload 1 56),
  (56, mx_ic_ge 75 59),
  (59, mx_aload 0 60),
  (60, mx_get 4 2 63),
  (63, mx_push (.inl (nI 0)) 64),
  (64, mx_aald 65),
  (65, mx_iload 4 67),
  (67, mx_lload 2 68),
  (68, mx_last 69),
  (69, mx_iinc 4 (nI 1) 72),
  (72, mx_goto 53),
  (75, mx_ret P)]
set_option maxRecDepth 20000 in
theorem a_Q_openAll  {p : Program} {l : Launch} {e : Env} {s : State} {m : MethodId} {args : Array Value} {below : List Frame} {meth : Method} {c : Code} {D : va_G} {tc : Nat → ClassId} {tb : Nat → Nat} {sz : Nat} {a0 : Nat → Nat} {G : mx_F} {P : Option mx_V → mx_F → Prop}  (C : mx_C p s m args c c_Q_openAll y_Q_openAll.cls w_Q_openAll D tc tb (mx_A a0 G sz) 5 (mx_Ok0 a0 G)) (hr : meth.sig.returnType = none) (hlk : meth.locks = false) : mx_all (mx_W p l e rm_Q_openAll s m args below meth c (MQ below (mx_Q D tc tb a0 G sz P) args s 0 0 (mx_A a0 G sz)) D tc tb (mx_A a0 G sz) 5 (mx_Ok0 a0 G)) (t_Q_openAll  P) :=
  ⟨mx_s_lconst C d_Q_openAll_0 (by decide),
  mx_s_lstore_n C d_Q_openAll_1 rfl (by decide),
  mx_s_iconst C d_Q_openAll_2 (by decide),
  mx_s_istore C d_Q_openAll_3 (by decide),
  mx_s_iload C d_Q_openAll_5,
  mx_s_aload_n C d_Q_openAll_7 rfl,
  mx_s_get (T := T_Q) (N := 6) (k := 0) C (fun w h => List.mem_cons_of_mem _ (in_Q w h)) rfl (by decide) (List.mem_cons_of_mem _ fk_Q_23) rfl d_Q_openAll_8,
  mx_s_cv0 C (m_W_count l) rfl (cwV 0 C.2.2.2.2.1 (mx_gV (fun w h => List.mem_cons_of_mem _ h) mk_Q_39 im_W_count se_W_count ic_W co_W_count) rfl rfl rfl (by decide +kernel) ⟨by decide, by decide⟩) d_Q_openAll_11 ⟨Nat.zero_le _, Nat.zero_le _⟩,
  mx_s_ic_ge C d_Q_openAll_14 (by decide),
  mx_s_aload_n C d_Q_openAll_17 rfl,
  mx_s_get (T := T_Q) (N := 6) (k := 0) C (fun w h => List.mem_cons_of_mem _ (in_Q w h)) rfl (by decide) (List.mem_cons_of_mem _ fk_Q_23) rfl d_Q_openAll_18,
  mx_s_iload C d_Q_openAll_21,
  mx_s_cv1 C (m_W_lengthOf l) rfl (cwV 1 C.2.2.2.2.1 (mx_gV (fun w h => List.mem_cons_of_mem _ h) mk_Q_48 im_W_lengthOf se_W_lengthOf ic_W co_W_lengthOf) rfl rfl rfl (by decide +kernel) ⟨by decide, by decide⟩) d_Q_openAll_23 ⟨Nat.zero_le _, Nat.zero_le _⟩,
  mx_s_iload_n C d_Q_openAll_26 rfl,
  mx_s_ic_ne C d_Q_openAll_27 (by decide),
  mx_s_lload_n C d_Q_openAll_30 rfl,
  mx_s_lconst C d_Q_openAll_31 (by decide),
  mx_s_iload C d_Q_openAll_32,
  mx_s_lshl C d_Q_openAll_34,
  mx_s_lor C d_Q_openAll_35,
  mx_s_lstore_n C d_Q_openAll_36 rfl (by decide),
  mx_s_aload_n C d_Q_openAll_37 rfl,
  mx_s_iload C d_Q_openAll_38,
  mx_s_iload_n C d_Q_openAll_40 rfl,
  mx_s_cv2 C (m_Q_noteLetters l) rfl (cwV 2 C.2.2.2.2.1 (mx_gV (fun w h => List.mem_cons_of_mem _ h) mk_Q_52 im_Q_noteLetters se_Q_noteLetters ic_Q co_Q_noteLetters) rfl rfl rfl (by decide +kernel) ⟨by decide, by decide⟩) d_Q_openAll_41 ⟨Nat.zero_le _, Nat.zero_le _⟩,
  mx_s_iinc C d_Q_openAll_44 (by decide) (by decide),
  mx_s_goto C d_Q_openAll_47 (by decide),
  mx_s_iconst C d_Q_openAll_50 (by decide),
  mx_s_istore C d_Q_openAll_51 (by decide),
  mx_s_iload C d_Q_openAll_53,
  mx_s_iload_n C d_Q_openAll_55 rfl,
  mx_s_ic_ge C d_Q_openAll_56 (by decide),
  mx_s_aload_n C d_Q_openAll_59 rfl,
  mx_s_get (T := T_Q) (N := 6) (k := 2) C (fun w h => List.mem_cons_of_mem _ (in_Q w h)) rfl (by decide) (List.mem_cons_of_mem _ fk_Q_16) rfl d_Q_openAll_60,
  mx_s_iconst C d_Q_openAll_63 (by decide),
  mx_s_aald C d_Q_openAll_64,
  mx_s_iload C d_Q_openAll_65,
  mx_s_lload_n C d_Q_openAll_67 rfl,
  mx_s_last C d_Q_openAll_68,
  mx_s_iinc C d_Q_openAll_69 (by decide) (by decide),
  mx_s_goto C d_Q_openAll_72 (by decide),
  mx_s_ret C hr hlk d_Q_openAll_75,
  trivial⟩
set_option maxRecDepth 20000 in
set_option maxHeartbeats 2000000 in
theorem m_Q_openAll (l : Launch) : mx_M l y_Q_openAll w_Q_openAll rm_Q_openAll sp_Q_openAll := by
  intro zD ztc ztb zad As F P sz0 h
  obtain ⟨n, N, ch, S, lt, st, qs, qt, m, rfl, h3, h4, h5, hw, h15, h16, h17, hq, hm, hh, hp⟩ := h
  refine mx_run (cc := c_Q_openAll) (maxL := 5) (ret := none) (tab := t_Q_openAll  P) (by decide) rfl zD ztc ztb zad _ F P sz0 (Nat.le_of_ble_eq_true rfl) (fun p e s m args below meth c C hr hlk => a_Q_openAll  C hr hlk) ?_
  intro Rr go
  have hn := hw.1.1
  have sec : ∀ (k i : Nat) (al : Int64) (G : mx_F), i + k = m → nfr 25 F G → qrw G → hrw n N ch m n 0 G → (∀ v, bt al v ↔ v < n ∧ N v = m) → (∃ f, G 24 = some (mx_la 5 f) ∧ ∀ x, x < i → f x = al) → Rr 53 [some (mx_r 15), some (mx_i (nI m)), some (mx_l al), none, some (mx_i (nI i))] [] G 0 0 := by
    intro k
    induction k with
    | zero =>
      intro i al G hi hg hqg hhg hal hr
      refine go rfl ⟨_, rfl, ?_⟩
      refine go rfl ⟨_, rfl, ?_⟩
      refine go rfl ⟨_, _, _, rfl, fun c => ?_, fun c => ?_⟩
      · refine go rfl ⟨rfl, rfl, rfl, ?_⟩
        refine hp G hg hqg hhg (fun l => ?_)
        obtain ⟨f, h1, h2⟩ := hr
        refine ⟨f, h1, fun x _ hx v => ?_⟩
        rw [h2 x (by omega), hal]
        exact ⟨fun h => ⟨h.1, h.2, fun q hq => absurd hq (Nat.not_lt_zero q)⟩, fun h => ⟨h.1, h.2.1⟩⟩
      · exact absurd (nI_le (by omega) (by omega)) c
    | succ k ih =>
      intro i al G hi hg hqg hhg hal hr
      have g15 : G 15 = _ := (hg 15 (by omega)).trans h15
      have g17 : G 17 = _ := (hg 17 (by omega)).trans h17
      have hG := mx_as2 g15 g17
      obtain ⟨f, hf, hx⟩ := hr
      refine go rfl ⟨_, rfl, ?_⟩
      refine go rfl ⟨_, rfl, ?_⟩
      refine go rfl ⟨_, _, _, rfl, fun c => ?_, fun c => ?_⟩
      · exact absurd ((nI_leI (by omega) (by omega)).mp c) (by omega)
      rw [hG]
      refine go rfl ⟨_, rfl, ?_⟩
      refine go rfl ⟨_, _, _, _, rfl, rfl, rfl, ?_⟩
      refine go rfl ?_
      refine go rfl ⟨_, _, _, _, _, _, _, rfl, rfl, ⟨_, rfl, rfl⟩, (vp_in_nI (show 0 < 5 by omega) (by omega)), (g5_at (show 0 < 5 by omega)), ?_⟩
      refine go rfl ⟨_, rfl, ?_⟩
      refine go rfl ⟨_, rfl, ?_⟩
      rw [← hG]
      refine go rfl ⟨_, _, _, _, _, _, rfl, hf, vp_in_nI (show i < 5 by omega) (by omega), ?_⟩
      rw [nI_clamp (by omega)]
      refine go rfl ⟨_, rfl, ?_⟩
      refine go rfl ?_
      rw [nI_add]
      refine ih (i + 1) al _ (by omega) (fun k hk => (mx_put_ne (by omega)).trans (hg k hk)) (qrw_o hqg (show 0 < 5 by omega)) (hrw_t hhg (fun x hx => mx_put_ne (by omega))) hal ⟨_, mx_put_at _ _ _, fun x hx2 => ?_⟩
      by_cases e : x = i
      · rw [e, pk_uLs]
      · rw [pk_uLn e]
        exact hx x (by omega)
  have loop : ∀ (k v : Nat) (al : Int64) (G : mx_F), v + k = n → nfr 25 F G → qrw G → hrw n N ch m v 0 G → (∀ w, bt al w ↔ w < v ∧ N w = m) → Rr 5 [some (mx_r 15), some (mx_i (nI m)), some (mx_l al), none, some (mx_i (nI v))] [] G 0 0 := by
    intro k
    induction k with
    | zero =>
      intro v al G hv hg hqg hhg hal
      have ev : v = n := by omega
      subst ev
      have g3 : G 3 = _ := (hg 3 (by omega)).trans h3
      have g15 : G 15 = _ := (hg 15 (by omega)).trans h15
      have hG := mx_as2 g3 g15
      obtain ⟨f, hf⟩ := hqg.2.1 0 (by omega)
      rw [hG]
      refine go rfl ⟨_, rfl, ?_⟩
      refine go rfl ⟨_, rfl, ?_⟩
      refine go rfl ⟨_, _, _, _, rfl, rfl, rfl, ?_⟩
      refine go rfl ⟨_, _, _, rfl, rfl, rfl, rfl, rfl, ⟨v, rfl, rfl, ?_⟩⟩
      rw [← hG]
      refine go rfl ⟨_, _, _, rfl, fun c => ?_, fun c => ?_⟩
      · refine go rfl ?_
        refine go rfl ⟨_, _, rfl, ?_⟩
        exact sec m 0 al G (by omega) hg hqg hhg hal ⟨f, hf, fun x hx => absurd hx (Nat.not_lt_zero x)⟩
      · exact absurd (nI_le (by omega) (by omega)) c
    | succ k ih =>
      intro v al G hv hg hqg hhg hal
      have g3 : G 3 = _ := (hg 3 (by omega)).trans h3
      have g4 : G 4 = _ := (hg 4 (by omega)).trans h4
      have g5 : G 5 = _ := (hg 5 (by omega)).trans h5
      have g15 : G 15 = _ := (hg 15 (by omega)).trans h15
      have g16 : G 16 = _ := (hg 16 (by omega)).trans h16
      have g17 : G 17 = _ := (hg 17 (by omega)).trans h17
      have hG := mx_as4 g3 g4 g5 g15
      have hvn : v < n := by omega
      have hNv := hw.2.1.2.1 v hvn
      rw [hG]
      refine go rfl ⟨_, rfl, ?_⟩
      refine go rfl ⟨_, rfl, ?_⟩
      refine go rfl ⟨_, _, _, _, rfl, rfl, rfl, ?_⟩
      refine go rfl ⟨_, _, _, rfl, rfl, rfl, rfl, rfl, ⟨n, rfl, rfl, ?_⟩⟩
      refine go rfl ⟨_, _, _, rfl, fun c => ?_, fun c => ?_⟩
      · exact absurd ((nI_leI (by omega) (by omega)).mp c) (by omega)
      refine go rfl ⟨_, rfl, ?_⟩
      refine go rfl ⟨_, _, _, _, rfl, rfl, rfl, ?_⟩
      refine go rfl ⟨_, rfl, ?_⟩
      refine go rfl ⟨_, _, _, _, rfl, rfl, rfl, rfl, rfl, u_lengthOf hw hvn rfl rfl ?_⟩
      refine go rfl ⟨_, rfl, ?_⟩
      refine go rfl ⟨_, _, _, rfl, fun e => ?_, fun e => ?_⟩
      · have e : ¬ N v = m := fun h => e (by rw [h])
        refine go rfl ⟨_, rfl, ?_⟩
        refine go rfl ?_
        rw [nI_add, ← hG]
        refine ih (v + 1) _ G (by omega) hg hqg (hrw_s hhg e) (fun w => ?_)
        rw [hal]
        constructor
        · rintro ⟨h1, h2⟩
          exact ⟨by omega, h2⟩
        · rintro ⟨h1, h2⟩
          refine ⟨?_, h2⟩
          by_cases ew : w = v
          · rw [ew] at h2
            exact absurd h2 e
          · omega
      · have e := (nI_eq (by omega) (by omega)).mp e
        refine go rfl ⟨_, rfl, ?_⟩
        refine go rfl ?_
        refine go rfl ⟨_, rfl, ?_⟩
        refine go rfl ⟨_, _, _, rfl, ?_⟩
        refine go rfl ⟨_, _, _, rfl, ?_⟩
        refine go rfl ⟨_, _, rfl, ?_⟩
        refine go rfl ⟨_, rfl, ?_⟩
        refine go rfl ⟨_, rfl, ?_⟩
        refine go rfl ⟨_, rfl, ?_⟩
        rw [← hG]
        refine go rfl ⟨_, _, _, _, _, rfl, g15, rfl, rfl, rfl, ⟨n, N, ch, S, lt, st, _, _, v, m, rfl, g3, g4, g5, hw, g15, g16, g17, hqg, hvn, e, hm, hhg, fun F2 q1 q2 q3 => ?_⟩⟩
        refine go rfl ⟨_, rfl, ?_⟩
        refine go rfl ?_
        rw [nI_add]
        refine ih (v + 1) _ F2 (by omega) (fun k hk => (q1 k (by omega)).trans (hg k hk)) q2 q3 (fun w => ?_)
        rw [bt_or, bt_one (by omega), hal]
        constructor
        · rintro (⟨h1, h2⟩ | h1)
          · exact ⟨by omega, h2⟩
          · subst h1
            exact ⟨by omega, e⟩
        · rintro ⟨h1, h2⟩
          by_cases ew : w = v
          · exact Or.inr ew
          · exact Or.inl ⟨by omega, h2⟩
  refine go rfl ?_
  refine go rfl ⟨_, _, rfl, ?_⟩
  refine go rfl ?_
  refine go rfl ⟨_, _, rfl, ?_⟩
  exact loop n 0 0 F (by omega) (fun _ _ => rfl) hq hh (fun w => ⟨fun h => absurd h bt_0, fun h => absurd h.1 (Nat.not_lt_zero w)⟩)
-- LadderWords$Squares.complete(II)Z
def sp_Q_complete5 : mx_Sp := fun As F P => ∃ (n : Nat) (N : Nat → Nat) (ch : Nat → Nat → Int32) (S : Nat → Nat) (lt st : Nat → Int32) (qs qt : Int32) (m : Nat) (fl : Nat → Int32) (l : Nat → Nat), As = [mx_r 15, mx_i (nI 5), mx_i (nI m)] ∧ F 3 = some (e_W n) ∧ F 4 = some (mx_ia 360 lt) ∧ F 5 = some (mx_ia 61 st) ∧ wst n N ch S lt st ∧ F 15 = some (e_Q qs qt) ∧ F 16 = some (mx_qa 2 5 (mx_g5 19)) ∧ F 17 = some (mx_qa 2 5 (mx_g5 24)) ∧ qrw F ∧ m ≤ 5 ∧ F 18 = some (mx_ia 5 fl) ∧ (∀ i, i < 5 → fl i = nI (l i)) ∧ hrw n N ch m n 0 F ∧ 5 ≤ m ∧ ∀ F' f', F' 18 = some (mx_ia 5 f') → sfr 5 F F' → qrw F' → (∀ r, sr n N ch m (m - 5) 5 l = some r → (∀ i, i < m → f' i = nI (r i)) → P (some (mx_i (nI 1))) F') ∧ (sr n N ch m (m - 5) 5 l = none → (∀ i, i < 5 → f' i = fl i) → P (some (mx_i (nI 0))) F')
theorem d_Q_complete_0 : decode c_Q_complete 0 = .ok (.iload_n 1, 1) := by decide +kernel
theorem d_Q_complete_1 : decode c_Q_complete 1 = .ok (.iload_n 2, 1) := by decide +kernel
theorem d_Q_complete_2 : decode c_Q_complete 2 = .ok (.if_icmp .ge 8, 3) := by decide +kernel
theorem d_Q_complete_10 : decode c_Q_complete 10 = .ok (.iconst 1, 1) := by decide +kernel
theorem d_Q_complete_11 : decode c_Q_complete 11 = .ok (.ireturn, 1) := by decide +kernel
abbrev w_Q_complete : List Cond := mx_ws y_Q_complete c_Q_complete 5 (some .boolean)
abbrev rm_Q_complete5 : Room := { frames := 30, cells := 0, slots := 0, locals := 600 }
def t_Q_complete5  (P : Option mx_V → mx_F → Prop) : List (Nat × mx_O) := [
  (0, mx_iload 1 1),
  (1, mx_iload 2 2),
  (2, mx_ic_ge 10 5),
  (10, mx_push (.inl (nI 1)) 11),
  (11, mx_zret P)]
set_option maxRecDepth 20000 in
theorem a_Q_complete5  {p : Program} {l : Launch} {e : Env} {s : State} {m : MethodId} {args : Array Value} {below : List Frame} {meth : Method} {c : Code} {D : va_G} {tc : Nat → ClassId} {tb : Nat → Nat} {sz : Nat} {a0 : Nat → Nat} {G : mx_F} {P : Option mx_V → mx_F → Prop}  (C : mx_C p s m args c c_Q_complete y_Q_complete.cls w_Q_complete D tc tb (mx_A a0 G sz) 5 (mx_Ok0 a0 G)) (hr : meth.sig.returnType = (some .boolean)) (hlk : meth.locks = false) : mx_all (mx_W p l e rm_Q_complete5 s m args below meth c (MQ below (mx_Q D tc tb a0 G sz P) args s 0 0 (mx_A a0 G sz)) D tc tb (mx_A a0 G sz) 5 (mx_Ok0 a0 G)) (t_Q_complete5  P) :=
  ⟨mx_s_iload_n C d_Q_complete_0 rfl,
  mx_s_iload_n C d_Q_complete_1 rfl,
  mx_s_ic_ge C d_Q_complete_2 (by decide),
  mx_s_iconst C d_Q_complete_10 (by decide),
  mx_s_zret C hr hlk d_Q_complete_11,
  trivial⟩
set_option maxRecDepth 20000 in
set_option maxHeartbeats 2000000 in
theorem m_Q_complete5 (l : Launch) : mx_M l y_Q_complete w_Q_complete rm_Q_complete5 sp_Q_complete5 := by
  intro zD ztc ztb zad As F P sz0 h
  obtain ⟨n, N, ch, S, lt, st, qs, qt, m, fl, l, rfl, h3, h4, h5, hw, h15, h16, h17, hq, hm, h18, hfl, hh, hdm, hp⟩ := h
  refine mx_run (cc := c_Q_complete) (maxL := 5) (ret := (some .boolean)) (tab := t_Q_complete5  P) (by decide) rfl zD ztc ztb zad _ F P sz0 (Nat.le_of_ble_eq_true rfl) (fun p e s m args below meth c C hr hlk => a_Q_complete5  C hr hlk) ?_
  intro Rr go
  refine go rfl ⟨_, rfl, ?_⟩
  refine go rfl ⟨_, rfl, ?_⟩
  refine go rfl ⟨_, _, _, rfl, fun c => ?_, fun c => ?_⟩
  · refine go rfl ?_
    refine go rfl ⟨_, rfl, rfl, rfl, (Or.inr rfl), ?_⟩
    refine (hp F fl h18 (sfr_rf 5 F) hq).1 l ?_ (fun i hi => hfl i (by omega))
    rw [show m - 5 = 0 by omega]
    rfl
  · exact absurd (nI_le hm (by omega)) c
-- LadderWords$Squares.completeWith(III)Z
def sp_Q_completeWith4 : mx_Sp := fun As F P => ∃ (n : Nat) (N : Nat → Nat) (ch : Nat → Nat → Int32) (S : Nat → Nat) (lt st : Nat → Int32) (qs qt : Int32) (m : Nat) (fl : Nat → Int32) (l : Nat → Nat) (j : Nat), As = [mx_r 15, mx_i (nI j), mx_i (nI 4), mx_i (nI m)] ∧ F 3 = some (e_W n) ∧ F 4 = some (mx_ia 360 lt) ∧ F 5 = some (mx_ia 61 st) ∧ wst n N ch S lt st ∧ F 15 = some (e_Q qs qt) ∧ F 16 = some (mx_qa 2 5 (mx_g5 19)) ∧ F 17 = some (mx_qa 2 5 (mx_g5 24)) ∧ qrw F ∧ m ≤ 5 ∧ F 18 = some (mx_ia 5 fl) ∧ (∀ i, i < 4 → fl i = nI (l i)) ∧ hrw n N ch m n 0 F ∧ orw n N ch m 4 l F ∧ j < n ∧ 4 < m ∧ N j = m ∧ ∀ F' f', F' 18 = some (mx_ia 5 f') → sfr 4 F F' → qrw F' → (∀ r, sr n N ch m (m - 5) 5 (pu l 4 j) = some r → (∀ i, i < m → f' i = nI (r i)) → P (some (mx_i (nI 1))) F') ∧ (sr n N ch m (m - 5) 5 (pu l 4 j) = none → (∀ i, i < 4 → f' i = fl i) → P (some (mx_i (nI 0))) F')
theorem d_Q_completeWith_0 : decode c_Q_completeWith 0 = .ok (.aload_n 0, 1) := by decide +kernel
theorem d_Q_completeWith_1 : decode c_Q_completeWith 1 = .ok (.getfield 19, 3) := by decide +kernel
theorem d_Q_completeWith_4 : decode c_Q_completeWith 4 = .ok (.iload_n 2, 1) := by decide +kernel
theorem d_Q_completeWith_5 : decode c_Q_completeWith 5 = .ok (.iload_n 1, 1) := by decide +kernel
theorem d_Q_completeWith_6 : decode c_Q_completeWith 6 = .ok (.iastore, 1) := by decide +kernel
theorem d_Q_completeWith_7 : decode c_Q_completeWith 7 = .ok (.iload_n 2, 1) := by decide +kernel
theorem d_Q_completeWith_8 : decode c_Q_completeWith 8 = .ok (.iconst 1, 1) := by decide +kernel
theorem d_Q_completeWith_9 : decode c_Q_completeWith 9 = .ok (.iadd, 1) := by decide +kernel
theorem d_Q_completeWith_10 : decode c_Q_completeWith 10 = .ok (.istore 4, 2) := by decide +kernel
theorem d_Q_completeWith_12 : decode c_Q_completeWith 12 = .ok (.iload 4, 2) := by decide +kernel
theorem d_Q_completeWith_14 : decode c_Q_completeWith 14 = .ok (.iload_n 3, 1) := by decide +kernel
theorem d_Q_completeWith_15 : decode c_Q_completeWith 15 = .ok (.if_icmp .ge 58, 3) := by decide +kernel
theorem d_Q_completeWith_73 : decode c_Q_completeWith 73 = .ok (.aload_n 0, 1) := by decide +kernel
theorem d_Q_completeWith_74 : decode c_Q_completeWith 74 = .ok (.iload_n 2, 1) := by decide +kernel
theorem d_Q_completeWith_75 : decode c_Q_completeWith 75 = .ok (.iconst 1, 1) := by decide +kernel
theorem d_Q_completeWith_76 : decode c_Q_completeWith 76 = .ok (.iadd, 1) := by decide +kernel
theorem d_Q_completeWith_77 : decode c_Q_completeWith 77 = .ok (.iload_n 3, 1) := by decide +kernel
theorem d_Q_completeWith_78 : decode c_Q_completeWith 78 = .ok (.invokevirtual 35, 3) := by decide +kernel
theorem d_Q_completeWith_81 : decode c_Q_completeWith 81 = .ok (.ireturn, 1) := by decide +kernel
abbrev w_Q_completeWith : List Cond := mx_ws y_Q_completeWith c_Q_completeWith 7 (some .boolean)
abbrev rm_Q_completeWith4 : Room := { frames := 40, cells := 0, slots := 0, locals := 800 }
def t_Q_completeWith4  (P : Option mx_V → mx_F → Prop) : List (Nat × mx_O) := [
  (0, mx_aload 0 1),
  (1, mx_get 4 3 4),
  (4, mx_iload 2 5),
  (5, mx_iload 1 6),
  (6, mx_iast 7),
  (7, mx_iload 2 8),
  (8, mx_push (.inl (nI 1)) 9),
  (9, mx_iadd 10),
  (10, mx_istore 4 12),
  (12, mx_iload 4 14),
  (14, mx_iload 3 15),
  (15, mx_ic_ge 73 18),
  (73, mx_aload 0 74),
  (74, mx_iload 2 75),
  (75, mx_push (.inl (nI 1)) 76),
  (76, mx_iadd 77),
  (77, mx_iload 3 78),
  (78, mx_cv2 4 sp_Q_complete5 0 0 81),
  (81, mx_zret P)]
set_option maxRecDepth 20000 in
theorem a_Q_completeWith4  {p : Program} {l : Launch} {e : Env} {s : State} {m : MethodId} {args : Array Value} {below : List Frame} {meth : Method} {c : Code} {D : va_G} {tc : Nat → ClassId} {tb : Nat → Nat} {sz : Nat} {a0 : Nat → Nat} {G : mx_F} {P : Option mx_V → mx_F → Prop}  (C : mx_C p s m args c c_Q_completeWith y_Q_completeWith.cls w_Q_completeWith D tc tb (mx_A a0 G sz) 7 (mx_Ok0 a0 G)) (hr : meth.sig.returnType = (some .boolean)) (hlk : meth.locks = false) : mx_all (mx_W p l e rm_Q_completeWith4 s m args below meth c (MQ below (mx_Q D tc tb a0 G sz P) args s 0 0 (mx_A a0 G sz)) D tc tb (mx_A a0 G sz) 7 (mx_Ok0 a0 G)) (t_Q_completeWith4  P) :=
  ⟨mx_s_aload_n C d_Q_completeWith_0 rfl,
  mx_s_get (T := T_Q) (N := 6) (k := 3) C (fun w h => List.mem_cons_of_mem _ (in_Q w h)) rfl (by decide) (List.mem_cons_of_mem _ fk_Q_19) rfl d_Q_completeWith_1,
  mx_s_iload_n C d_Q_completeWith_4 rfl,
  mx_s_iload_n C d_Q_completeWith_5 rfl,
  mx_s_iast C d_Q_completeWith_6,
  mx_s_iload_n C d_Q_completeWith_7 rfl,
  mx_s_iconst C d_Q_completeWith_8 (by decide),
  mx_s_iadd C d_Q_completeWith_9,
  mx_s_istore C d_Q_completeWith_10 (by decide),
  mx_s_iload C d_Q_completeWith_12,
  mx_s_iload_n C d_Q_completeWith_14 rfl,
  mx_s_ic_ge C d_Q_completeWith_15 (by decide),
  mx_s_aload_n C d_Q_completeWith_73 rfl,
  mx_s_iload_n C d_Q_completeWith_74 rfl,
  mx_s_iconst C d_Q_completeWith_75 (by decide),
  mx_s_iadd C d_Q_completeWith_76,
  mx_s_iload_n C d_Q_completeWith_77 rfl,
  mx_s_cv2 C (m_Q_complete5 l) rfl (cwV 2 C.2.2.2.2.1 (mx_gV (fun w h => List.mem_cons_of_mem _ h) mk_Q_35 im_Q_complete se_Q_complete ic_Q co_Q_complete) rfl rfl rfl (by decide +kernel) ⟨by decide, by decide⟩) d_Q_completeWith_78 ⟨Nat.zero_le _, Nat.zero_le _⟩,
  mx_s_zret C hr hlk d_Q_completeWith_81,
  trivial⟩
set_option maxRecDepth 20000 in
set_option maxHeartbeats 2000000 in
theorem m_Q_completeWith4 (l : Launch) : mx_M l y_Q_completeWith w_Q_completeWith rm_Q_completeWith4 sp_Q_completeWith4 := by
  intro zD ztc ztb zad As F P sz0 h
  obtain ⟨n, N, ch, S, lt, st, qs, qt, m, fl, l, j, rfl, h3, h4, h5, hw, h15, h16, h17, hq, hm, h18, hfl, hh, hor, hj, hd, hN, hp⟩ := h
  refine mx_run (cc := c_Q_completeWith) (maxL := 7) (ret := (some .boolean)) (tab := t_Q_completeWith4  P) (by decide) rfl zD ztc ztb zad _ F P sz0 (Nat.le_of_ble_eq_true rfl) (fun p e s m args below meth c C hr hlk => a_Q_completeWith4  C hr hlk) ?_
  intro Rr go
  have hn := hw.1.1
  obtain ⟨fo, hfo, hob⟩ := hor
  have hpre : ∀ i, i < 5 → upd fl 4 (nI j) i = nI (pu l 4 j i) := by
    intro i hi
    by_cases e : i = 4
    · rw [e, pk_us, pu_s]
    · rw [pk_un e, pu_n e]
      exact hfl i (by omega)

  have hF := mx_as2 h15 h18
  have hX0 : mx_put F 15 (e_Q qs qt) = F := mx_self h15
  rw [hF]
  refine go rfl ⟨_, rfl, ?_⟩
  refine go rfl ⟨_, _, _, _, rfl, rfl, rfl, ?_⟩
  refine go rfl ⟨_, rfl, ?_⟩
  refine go rfl ⟨_, rfl, ?_⟩
  refine go rfl ⟨_, _, _, _, _, _, rfl, rfl, (vp_in_nI (show 4 < 5 by omega) (by omega)), ?_⟩
  rw [mx_pp, hX0, nI_clamp (show 4 < 2 ^ 31 by omega)]
  refine go rfl ⟨_, rfl, ?_⟩
  refine go rfl ?_
  refine go rfl ⟨_, _, _, rfl, ?_⟩
  rw [nI_add]
  refine go rfl ⟨_, _, rfl, ?_⟩
  have hg : sfr 4 F (mx_put F 18 (mx_ia 5 (upd fl 4 (nI j)))) := sfr_18
  have hqg : qrw (mx_put F 18 (mx_ia 5 (upd fl 4 (nI j)))) := qrw_l hq
  have g18 : (mx_put F 18 (mx_ia 5 (upd fl 4 (nI j)))) 18 = some (mx_ia 5 (upd fl 4 (nI j))) := mx_put_at _ _ _
  generalize (mx_put F 18 (mx_ia 5 (upd fl 4 (nI j)))) = G at hg hqg g18 ⊢
  have g3 : G 3 = _ := (hg 3 (by omega)).trans h3
  have g4 : G 4 = _ := (hg 4 (by omega)).trans h4
  have g5 : G 5 = _ := (hg 5 (by omega)).trans h5
  have g15 : G 15 = _ := (hg 15 (by omega)).trans h15
  have g16 : G 16 = _ := (hg 16 (by omega)).trans h16
  have g17 : G 17 = _ := (hg 17 (by omega)).trans h17

  refine go rfl ⟨_, rfl, ?_⟩
  refine go rfl ⟨_, rfl, ?_⟩
  refine go rfl ⟨_, _, _, rfl, fun c => ?_, fun c => ?_⟩
  rotate_left
  · exact absurd (nI_le (show m ≤ 5 by omega) (by omega)) c
  refine go rfl ⟨_, rfl, ?_⟩
  refine go rfl ⟨_, rfl, ?_⟩
  refine go rfl ?_
  refine go rfl ⟨_, _, _, rfl, ?_⟩
  rw [nI_add]
  refine go rfl ⟨_, rfl, ?_⟩
  refine go rfl ⟨_, _, _, _, _, rfl, g15, rfl, rfl, rfl, ⟨n, N, ch, S, lt, st, _, _, m, _, pu l 4 j, rfl, g3, g4, g5, hw, g15, g16, g17, hqg, hm, g18, hpre, hrw_t hh (fun x hx => hg _ (by omega)), by omega, fun F2 f2 q1 q2 q3 => ⟨fun r e q4 => ?_, fun e q4 => ?_⟩⟩⟩
  · refine go rfl ⟨_, rfl, rfl, rfl, (Or.inr rfl), ?_⟩
    exact (hp F2 f2 q1 (sfr_tr hg (sfr_up q2)) q3).1 r e q4
  · refine go rfl ⟨_, rfl, rfl, rfl, (Or.inl rfl), ?_⟩
    refine (hp F2 f2 q1 (sfr_tr hg (sfr_up q2)) q3).2 e (fun x hx => ?_)
    rw [q4 x (by omega), pk_un (by omega)]
-- LadderWords$Squares.complete(II)Z
def sp_Q_complete4 : mx_Sp := fun As F P => ∃ (n : Nat) (N : Nat → Nat) (ch : Nat → Nat → Int32) (S : Nat → Nat) (lt st : Nat → Int32) (qs qt : Int32) (m : Nat) (fl : Nat → Int32) (l : Nat → Nat), As = [mx_r 15, mx_i (nI 4), mx_i (nI m)] ∧ F 3 = some (e_W n) ∧ F 4 = some (mx_ia 360 lt) ∧ F 5 = some (mx_ia 61 st) ∧ wst n N ch S lt st ∧ F 15 = some (e_Q qs qt) ∧ F 16 = some (mx_qa 2 5 (mx_g5 19)) ∧ F 17 = some (mx_qa 2 5 (mx_g5 24)) ∧ qrw F ∧ m ≤ 5 ∧ F 18 = some (mx_ia 5 fl) ∧ (∀ i, i < 4 → fl i = nI (l i)) ∧ hrw n N ch m n 0 F ∧ orw n N ch m 4 l F ∧ 4 ≤ m ∧ ∀ F' f', F' 18 = some (mx_ia 5 f') → sfr 4 F F' → qrw F' → (∀ r, sr n N ch m (m - 4) 4 l = some r → (∀ i, i < m → f' i = nI (r i)) → P (some (mx_i (nI 1))) F') ∧ (sr n N ch m (m - 4) 4 l = none → (∀ i, i < 4 → f' i = fl i) → P (some (mx_i (nI 0))) F')
theorem d_Q_complete_5 : decode c_Q_complete 5 = .ok (.iload_n 1, 1) := by decide +kernel
theorem d_Q_complete_6 : decode c_Q_complete 6 = .ok (.iconst 5, 1) := by decide +kernel
theorem d_Q_complete_7 : decode c_Q_complete 7 = .ok (.if_icmp .lt 5, 3) := by decide +kernel
theorem d_Q_complete_12 : decode c_Q_complete 12 = .ok (.iconst 0, 1) := by decide +kernel
theorem d_Q_complete_13 : decode c_Q_complete 13 = .ok (.istore_n 3, 1) := by decide +kernel
theorem d_Q_complete_14 : decode c_Q_complete 14 = .ok (.iload_n 3, 1) := by decide +kernel
theorem d_Q_complete_15 : decode c_Q_complete 15 = .ok (.aload_n 0, 1) := by decide +kernel
theorem d_Q_complete_16 : decode c_Q_complete 16 = .ok (.getfield 23, 3) := by decide +kernel
theorem d_Q_complete_19 : decode c_Q_complete 19 = .ok (.invokevirtual 39, 3) := by decide +kernel
theorem d_Q_complete_22 : decode c_Q_complete 22 = .ok (.if_icmp .ge 50, 3) := by decide +kernel
theorem d_Q_complete_25 : decode c_Q_complete 25 = .ok (.aload_n 0, 1) := by decide +kernel
theorem d_Q_complete_26 : decode c_Q_complete 26 = .ok (.getfield 16, 3) := by decide +kernel
theorem d_Q_complete_29 : decode c_Q_complete 29 = .ok (.iload_n 1, 1) := by decide +kernel
theorem d_Q_complete_30 : decode c_Q_complete 30 = .ok (.aaload, 1) := by decide +kernel
theorem d_Q_complete_31 : decode c_Q_complete 31 = .ok (.iload_n 1, 1) := by decide +kernel
theorem d_Q_complete_32 : decode c_Q_complete 32 = .ok (.laload, 1) := by decide +kernel
theorem d_Q_complete_33 : decode c_Q_complete 33 = .ok (.iload_n 3, 1) := by decide +kernel
theorem d_Q_complete_34 : decode c_Q_complete 34 = .ok (.lushr, 1) := by decide +kernel
theorem d_Q_complete_35 : decode c_Q_complete 35 = .ok (.lconst 1, 1) := by decide +kernel
theorem d_Q_complete_36 : decode c_Q_complete 36 = .ok (.land, 1) := by decide +kernel
theorem d_Q_complete_37 : decode c_Q_complete 37 = .ok (.lconst 0, 1) := by decide +kernel
theorem d_Q_complete_38 : decode c_Q_complete 38 = .ok (.lcmp, 1) := by decide +kernel
theorem d_Q_complete_39 : decode c_Q_complete 39 = .ok (.ifCond .eq 7, 3) := by decide +kernel
theorem d_Q_complete_42 : decode c_Q_complete 42 = .ok (.iconst 1, 1) := by decide +kernel
theorem d_Q_complete_43 : decode c_Q_complete 43 = .ok (.goto 4, 3) := by decide +kernel
theorem d_Q_complete_46 : decode c_Q_complete 46 = .ok (.iconst 0, 1) := by decide +kernel
theorem d_Q_complete_47 : decode c_Q_complete 47 = .ok (.istore 4, 2) := by decide +kernel
theorem d_Q_complete_49 : decode c_Q_complete 49 = .ok (.iload 4, 2) := by decide +kernel
theorem d_Q_complete_51 : decode c_Q_complete 51 = .ok (.ifCond .eq 15, 3) := by decide +kernel
theorem d_Q_complete_54 : decode c_Q_complete 54 = .ok (.aload_n 0, 1) := by decide +kernel
theorem d_Q_complete_55 : decode c_Q_complete 55 = .ok (.iload_n 3, 1) := by decide +kernel
theorem d_Q_complete_56 : decode c_Q_complete 56 = .ok (.iload_n 1, 1) := by decide +kernel
theorem d_Q_complete_57 : decode c_Q_complete 57 = .ok (.iload_n 2, 1) := by decide +kernel
theorem d_Q_complete_58 : decode c_Q_complete 58 = .ok (.invokevirtual 60, 3) := by decide +kernel
theorem d_Q_complete_61 : decode c_Q_complete 61 = .ok (.ifCond .eq 5, 3) := by decide +kernel
theorem d_Q_complete_64 : decode c_Q_complete 64 = .ok (.iconst 1, 1) := by decide +kernel
theorem d_Q_complete_65 : decode c_Q_complete 65 = .ok (.ireturn, 1) := by decide +kernel
theorem d_Q_complete_66 : decode c_Q_complete 66 = .ok (.iinc 3 1, 3) := by decide +kernel
theorem d_Q_complete_69 : decode c_Q_complete 69 = .ok (.goto (-55), 3) := by decide +kernel
theorem d_Q_complete_72 : decode c_Q_complete 72 = .ok (.iconst 0, 1) := by decide +kernel
theorem d_Q_complete_73 : decode c_Q_complete 73 = .ok (.ireturn, 1) := by decide +kernel
abbrev rm_Q_complete4 : Room := { frames := 50, cells := 0, slots := 0, locals := 1000 }
def t_Q_complete4  (P : Option mx_V → mx_F → Prop) : List (Nat × mx_O) := [
  (0, mx_iload 1 1),
  (1, mx_iload 2 2),
  (2, mx_ic_ge 10 5),
  (5, mx_iload 1 6),
  (6, mx_push (.inl (nI 5)) 7),
  (7, mx_ic_lt 12 10),
  (10, mx_push (.inl (nI 1)) 11),
  (11, mx_zret P),
  (12, mx_push (.inl (nI 0)) 13),
  (13, mx_istore 3 14),
  (14, mx_iload 3 15),
  (15, mx_aload 0 16),
  (16, mx_get 4 0 19),
  (19, mx_cv0 5 sp_W_count 0 0 22),
  (22, mx_ic_ge 72 25),
  (25, mx_aload 0 26),
  (26, mx_get 4 2 29),
  (29, mx_iload 1 30),
  (30, mx_aald 31),
  (31, mx_iload 1 32),
  (32, mx_lald 33),
  (33, mx_iload 3 34),
  (34, mx_lushr 35),
  (35, mx_push (.inr (.inl 1)) 36),
  (36, mx_land 37),
  (37, mx_push (.inr (.inl 0)) 38),
  (38, mx_lcmp 39),
  (39, mx_if_eq 46 42),
  (42, mx_push (.inl (nI 1)) 43),
  (43, mx_goto 47),
  (46, mx_push (.inl (nI 0)) 47),
  (47, mx_istore 4 49),
  (49, mx_iload 4 51),
  (51, mx_if_eq 66 54),
  (54, mx_aload 0 55),
  (55, mx_iload 3 56),
  (56, mx_iload 1 57),
  (57, mx_iload 2 58),
  (58, mx_cv3 4 sp_Q_completeWith4 0 0 61),
  (61, mx_if_eq 66 64),
  (64, mx_push (.inl (nI 1)) 65),
  (65, mx_zret P),
  (66, mx_iinc 3 (nI 1) 69),
  (69, mx_goto 14),
  (72, mx_push (.inl (nI 0)) 73),
  (73, mx_zret P)]
set_option maxRecDepth 20000 in
theorem a_Q_complete4  {p : Program} {l : Launch} {e : Env} {s : State} {m : MethodId} {args : Array Value} {below : List Frame} {meth : Method} {c : Code} {D : va_G} {tc : Nat → ClassId} {tb : Nat → Nat} {sz : Nat} {a0 : Nat → Nat} {G : mx_F} {P : Option mx_V → mx_F → Prop}  (C : mx_C p s m args c c_Q_complete y_Q_complete.cls w_Q_complete D tc tb (mx_A a0 G sz) 5 (mx_Ok0 a0 G)) (hr : meth.sig.returnType = (some .boolean)) (hlk : meth.locks = false) : mx_all (mx_W p l e rm_Q_complete4 s m args below meth c (MQ below (mx_Q D tc tb a0 G sz P) args s 0 0 (mx_A a0 G sz)) D tc tb (mx_A a0 G sz) 5 (mx_Ok0 a0 G)) (t_Q_complete4  P) :=
  ⟨mx_s_iload_n C d_Q_complete_0 rfl,
  mx_s_iload_n C d_Q_complete_1 rfl,
  mx_s_ic_ge C d_Q_complete_2 (by decide),
  mx_s_iload_n C d_Q_complete_5 rfl,
  mx_s_iconst C d_Q_complete_6 (by decide),
  mx_s_ic_lt C d_Q_complete_7 (by decide),
  mx_s_iconst C d_Q_complete_10 (by decide),
  mx_s_zret C hr hlk d_Q_complete_11,
  mx_s_iconst C d_Q_complete_12 (by decide),
  mx_s_istore_n C d_Q_complete_13 rfl (by decide),
  mx_s_iload_n C d_Q_complete_14 rfl,
  mx_s_aload_n C d_Q_complete_15 rfl,
  mx_s_get (T := T_Q) (N := 6) (k := 0) C (fun w h => List.mem_cons_of_mem _ (in_Q w h)) rfl (by decide) (List.mem_cons_of_mem _ fk_Q_23) rfl d_Q_complete_16,
  mx_s_cv0 C (m_W_count l) rfl (cwV 0 C.2.2.2.2.1 (mx_gV (fun w h => List.mem_cons_of_mem _ h) mk_Q_39 im_W_count se_W_count ic_W co_W_count) rfl rfl rfl (by decide +kernel) ⟨by decide, by decide⟩) d_Q_complete_19 ⟨Nat.zero_le _, Nat.zero_le _⟩,
  mx_s_ic_ge C d_Q_complete_22 (by decide),
  mx_s_aload_n C d_Q_complete_25 rfl,
  mx_s_get (T := T_Q) (N := 6) (k := 2) C (fun w h => List.mem_cons_of_mem _ (in_Q w h)) rfl (by decide) (List.mem_cons_of_mem _ fk_Q_16) rfl d_Q_complete_26,
  mx_s_iload_n C d_Q_complete_29 rfl,
  mx_s_aald C d_Q_complete_30,
  mx_s_iload_n C d_Q_complete_31 rfl,
  mx_s_lald C d_Q_complete_32,
  mx_s_iload_n C d_Q_complete_33 rfl,
  mx_s_lushr C d_Q_complete_34,
  mx_s_lconst C d_Q_complete_35 (by decide),
  mx_s_land C d_Q_complete_36,
  mx_s_lconst C d_Q_complete_37 (by decide),
  mx_s_lcmp C d_Q_complete_38,
  mx_s_if_eq C d_Q_complete_39 (by decide),
  mx_s_iconst C d_Q_complete_42 (by decide),
  mx_s_goto C d_Q_complete_43 (by decide),
  mx_s_iconst C d_Q_complete_46 (by decide),
  mx_s_istore C d_Q_complete_47 (by decide),
  mx_s_iload C d_Q_complete_49,
  mx_s_if_eq C d_Q_complete_51 (by decide),
  mx_s_aload_n C d_Q_complete_54 rfl,
  mx_s_iload_n C d_Q_complete_55 rfl,
  mx_s_iload_n C d_Q_complete_56 rfl,
  mx_s_iload_n C d_Q_complete_57 rfl,
  mx_s_cv3 C (m_Q_completeWith4 l) rfl (cwV 3 C.2.2.2.2.1 (mx_gV (fun w h => List.mem_cons_of_mem _ h) mk_Q_60 im_Q_completeWith se_Q_completeWith ic_Q co_Q_completeWith) rfl rfl rfl (by decide +kernel) ⟨by decide, by decide⟩) d_Q_complete_58 ⟨Nat.zero_le _, Nat.zero_le _⟩,
  mx_s_if_eq C d_Q_complete_61 (by decide),
  mx_s_iconst C d_Q_complete_64 (by decide),
  mx_s_zret C hr hlk d_Q_complete_65,
  mx_s_iinc C d_Q_complete_66 (by decide) (by decide),
  mx_s_goto C d_Q_complete_69 (by decide),
  mx_s_iconst C d_Q_complete_72 (by decide),
  mx_s_zret C hr hlk d_Q_complete_73,
  trivial⟩
set_option maxRecDepth 20000 in
set_option maxHeartbeats 2000000 in
theorem m_Q_complete4 (l : Launch) : mx_M l y_Q_complete w_Q_complete rm_Q_complete4 sp_Q_complete4 := by
  intro zD ztc ztb zad As F P sz0 h
  obtain ⟨n, N, ch, S, lt, st, qs, qt, m, fl, l, rfl, h3, h4, h5, hw, h15, h16, h17, hq, hm, h18, hfl, hh, hor, hdm, hp⟩ := h
  refine mx_run (cc := c_Q_complete) (maxL := 5) (ret := (some .boolean)) (tab := t_Q_complete4  P) (by decide) rfl zD ztc ztb zad _ F P sz0 (Nat.le_of_ble_eq_true rfl) (fun p e s m args below meth c C hr hlk => a_Q_complete4  C hr hlk) ?_
  intro Rr go
  have hn := hw.1.1
  obtain ⟨fo, hfo, hob⟩ := id hor
  rcases Nat.lt_or_ge 4 m with hd | hd
  rotate_left
  · refine go rfl ⟨_, rfl, ?_⟩
    refine go rfl ⟨_, rfl, ?_⟩
    refine go rfl ⟨_, _, _, rfl, fun c => ?_, fun c => ?_⟩
    · refine go rfl ?_
      refine go rfl ⟨_, rfl, rfl, rfl, (Or.inr rfl), ?_⟩
      refine (hp F fl h18 (sfr_rf 4 F) hq).1 l ?_ (fun i hi => hfl i (by omega))
      rw [show m - 4 = 0 by omega]
      rfl
    · exact absurd (nI_le hd (by omega)) c
  refine go rfl ⟨_, rfl, ?_⟩
  refine go rfl ⟨_, rfl, ?_⟩
  refine go rfl ⟨_, _, _, rfl, fun c => ?_, fun c => ?_⟩
  · exact absurd ((nI_leI (by omega) (by omega)).mp c) (by omega)
  refine go rfl ⟨_, rfl, ?_⟩
  refine go rfl ?_
  refine go rfl ⟨_, _, _, rfl, fun c2 => ?_, fun c2 => ?_⟩
  rotate_left
  · exact absurd (nI_lt (show 4 < 5 by omega) (by omega)) c2
  have hsr : sr n N ch m (m - 4) 4 l = scf (sv n N ch m (m - 5) 4 l) 0 n := by
    rw [show m - 4 = m - 5 + 1 by omega, sr_s]
  have loop : ∀ (k v : Nat) (jk : Option mx_V) (G : mx_F) (f2 : Nat → Int32), v + k = n → sfr 4 F G → qrw G → G 18 = some (mx_ia 5 f2) → (∀ i, i < 4 → f2 i = fl i) → sr n N ch m (m - 4) 4 l = scf (sv n N ch m (m - 5) 4 l) v k → Rr 14 [some (mx_r 15), some (mx_i (nI 4)), some (mx_i (nI m)), some (mx_i (nI v)), jk] [] G 0 0 := by
    intro k
    induction k with
    | zero =>
      intro v jk G f2 hv hg hqg g18 hf2 hs
      have g3 : G 3 = _ := (hg 3 (by omega)).trans h3
      have g15 : G 15 = _ := (hg 15 (by omega)).trans h15
      have hG := mx_as2 g3 g15
      rw [hG]
      refine go rfl ⟨_, rfl, ?_⟩
      refine go rfl ⟨_, rfl, ?_⟩
      refine go rfl ⟨_, _, _, _, rfl, rfl, rfl, ?_⟩
      refine go rfl ⟨_, _, _, rfl, rfl, rfl, rfl, rfl, ⟨n, rfl, rfl, ?_⟩⟩
      rw [← hG]
      refine go rfl ⟨_, _, _, rfl, fun c3 => ?_, fun c3 => ?_⟩
      · refine go rfl ?_
        refine go rfl ⟨_, rfl, rfl, rfl, (Or.inl rfl), ?_⟩
        exact (hp G f2 g18 hg hqg).2 hs hf2
      · exact absurd (nI_le (by omega) (by omega)) c3
    | succ k ih =>
      intro v jk G f2 hv hg hqg g18 hf2 hs
      have g3 : G 3 = _ := (hg 3 (by omega)).trans h3
      have g4 : G 4 = _ := (hg 4 (by omega)).trans h4
      have g5 : G 5 = _ := (hg 5 (by omega)).trans h5
      have g15 : G 15 = _ := (hg 15 (by omega)).trans h15
      have g16 : G 16 = _ := (hg 16 (by omega)).trans h16
      have g17 : G 17 = _ := (hg 17 (by omega)).trans h17
      have g24 : G (24 + 4) = some (mx_la 5 fo) := (hg (24 + 4) (by omega)).trans hfo
      have hG := mx_as3 g3 g15 g17
      have hvn : v < n := by omega
      have next : sv n N ch m (m - 5) 4 l v = none → ∀ (jk : Option mx_V) (G : mx_F) (f2 : Nat → Int32), sfr 4 F G → qrw G → G 18 = some (mx_ia 5 f2) → (∀ i, i < 4 → f2 i = fl i) → Rr 66 [some (mx_r 15), some (mx_i (nI 4)), some (mx_i (nI m)), some (mx_i (nI v)), jk] [] G 0 0 := by
        intro hno jk G f2 hg hqg g18 hf2
        refine go rfl ⟨_, rfl, ?_⟩
        refine go rfl ?_
        rw [nI_add]
        refine ih (v + 1) _ G f2 (by omega) hg hqg g18 hf2 ?_
        rw [hs, scf_n hno]
      rw [hG]
      refine go rfl ⟨_, rfl, ?_⟩
      refine go rfl ⟨_, rfl, ?_⟩
      refine go rfl ⟨_, _, _, _, rfl, rfl, rfl, ?_⟩
      refine go rfl ⟨_, _, _, rfl, rfl, rfl, rfl, rfl, ⟨n, rfl, rfl, ?_⟩⟩
      refine go rfl ⟨_, _, _, rfl, fun c3 => ?_, fun c3 => ?_⟩
      · exact absurd ((nI_leI (by omega) (by omega)).mp c3) (by omega)
      refine go rfl ⟨_, rfl, ?_⟩
      refine go rfl ⟨_, _, _, _, rfl, rfl, rfl, ?_⟩
      refine go rfl ⟨_, rfl, ?_⟩
      refine go rfl ⟨_, _, _, _, _, _, _, rfl, rfl, ⟨_, rfl, rfl⟩, (vp_in_nI (show 4 < 5 by omega) (by omega)), (g5_at (show 4 < 5 by omega)), ?_⟩
      refine go rfl ⟨_, rfl, ?_⟩
      rw [← hG]
      refine go rfl ⟨_, _, _, _, _, rfl, g24, vp_in_nI (show 4 < 5 by omega) (by omega), ?_⟩
      rw [nI_clamp (show 4 < 2 ^ 31 by omega)]
      refine go rfl ⟨_, rfl, ?_⟩
      refine go rfl ⟨_, _, _, rfl, ?_⟩
      refine go rfl ?_
      refine go rfl ⟨_, _, _, rfl, ?_⟩
      refine go rfl ?_
      refine go rfl ⟨_, _, _, rfl, ?_⟩
      have hbv := hob 4 (Nat.le_refl _) hd v
      refine go rfl ⟨_, _, rfl, fun e => ?_, fun e => ?_⟩
      · have e := (bt_may (by omega)).mp (lcmp0.mp e)
        have hnc : ¬ cand N ch m 4 l v := fun h => e (hbv.mpr ⟨hvn, h.1, h.2⟩)
        refine go rfl ?_
        refine go rfl ⟨_, _, rfl, ?_⟩
        refine go rfl ⟨_, rfl, ?_⟩
        refine go rfl ⟨_, _, rfl, fun e2 => ?_, fun e2 => ?_⟩
        · exact next (sv_n hnc) _ G f2 hg hqg g18 hf2
        · exact absurd rfl e2
      have e : bt (fo 4) v := Classical.byContradiction (fun q => e (lcmp0.mpr ((bt_may (by omega)).mpr q)))
      have hcd : cand N ch m 4 l v := ⟨(hbv.mp e).2.1, (hbv.mp e).2.2⟩
      refine go rfl ?_
      refine go rfl ?_
      refine go rfl ⟨_, _, rfl, ?_⟩
      refine go rfl ⟨_, rfl, ?_⟩
      refine go rfl ⟨_, _, rfl, fun e2 => ?_, fun e2 => ?_⟩
      · exact absurd e2 (by decide)
      refine go rfl ⟨_, rfl, ?_⟩
      refine go rfl ⟨_, rfl, ?_⟩
      refine go rfl ⟨_, rfl, ?_⟩
      refine go rfl ⟨_, rfl, ?_⟩
      refine go rfl ⟨_, _, _, _, _, _, rfl, g15, rfl, rfl, rfl, ⟨n, N, ch, S, lt, st, _, _, m, f2, l, v, rfl, g3, g4, g5, hw, g15, g16, g17, hqg, hm, g18, fun i hi => (hf2 i hi).trans (hfl i hi), hrw_t hh (fun x hx => hg _ (by omega)), ⟨fo, g24, hob⟩, hvn, hd, hcd.1, fun F2 f3 q1 q2 q3 => ⟨fun r e5 q4 => ?_, fun e5 q4 => ?_⟩⟩⟩
      · refine go rfl ⟨_, _, rfl, fun e3 => ?_, fun e3 => ?_⟩
        · exact absurd e3 (by decide)
        refine go rfl ?_
        refine go rfl ⟨_, rfl, rfl, rfl, (Or.inr rfl), ?_⟩
        refine (hp F2 f3 q1 (sfr_tr hg q2) q3).1 r ?_ q4
        rw [hs]
        exact scf_s (by rw [sv_y hcd]; exact e5)
      · refine go rfl ⟨_, _, rfl, fun e3 => ?_, fun e3 => ?_⟩
        · refine next (by rw [sv_y hcd]; exact e5) _ F2 f3 (sfr_tr hg q2) q3 q1 (fun i hi => ?_)
          rw [q4 i hi]
          exact hf2 i hi
        · exact absurd rfl e3
  refine go rfl ?_
  refine go rfl ⟨_, _, rfl, ?_⟩
  exact loop n 0 none F fl (by omega) (sfr_rf 4 F) hq h18 (fun _ _ => rfl) hsr
-- LadderWords$Squares.completeWith(III)Z
def sp_Q_completeWith3 : mx_Sp := fun As F P => ∃ (n : Nat) (N : Nat → Nat) (ch : Nat → Nat → Int32) (S : Nat → Nat) (lt st : Nat → Int32) (qs qt : Int32) (m : Nat) (fl : Nat → Int32) (l : Nat → Nat) (j : Nat), As = [mx_r 15, mx_i (nI j), mx_i (nI 3), mx_i (nI m)] ∧ F 3 = some (e_W n) ∧ F 4 = some (mx_ia 360 lt) ∧ F 5 = some (mx_ia 61 st) ∧ wst n N ch S lt st ∧ F 15 = some (e_Q qs qt) ∧ F 16 = some (mx_qa 2 5 (mx_g5 19)) ∧ F 17 = some (mx_qa 2 5 (mx_g5 24)) ∧ qrw F ∧ m ≤ 5 ∧ F 18 = some (mx_ia 5 fl) ∧ (∀ i, i < 3 → fl i = nI (l i)) ∧ hrw n N ch m n 0 F ∧ orw n N ch m 3 l F ∧ j < n ∧ 3 < m ∧ N j = m ∧ ∀ F' f', F' 18 = some (mx_ia 5 f') → sfr 3 F F' → qrw F' → (∀ r, sr n N ch m (m - 4) 4 (pu l 3 j) = some r → (∀ i, i < m → f' i = nI (r i)) → P (some (mx_i (nI 1))) F') ∧ (sr n N ch m (m - 4) 4 (pu l 3 j) = none → (∀ i, i < 3 → f' i = fl i) → P (some (mx_i (nI 0))) F')
theorem d_Q_completeWith_18 : decode c_Q_completeWith 18 = .ok (.aload_n 0, 1) := by decide +kernel
theorem d_Q_completeWith_19 : decode c_Q_completeWith 19 = .ok (.getfield 16, 3) := by decide +kernel
theorem d_Q_completeWith_22 : decode c_Q_completeWith 22 = .ok (.iload_n 2, 1) := by decide +kernel
theorem d_Q_completeWith_23 : decode c_Q_completeWith 23 = .ok (.aaload, 1) := by decide +kernel
theorem d_Q_completeWith_24 : decode c_Q_completeWith 24 = .ok (.iload 4, 2) := by decide +kernel
theorem d_Q_completeWith_26 : decode c_Q_completeWith 26 = .ok (.laload, 1) := by decide +kernel
theorem d_Q_completeWith_27 : decode c_Q_completeWith 27 = .ok (.aload_n 0, 1) := by decide +kernel
theorem d_Q_completeWith_28 : decode c_Q_completeWith 28 = .ok (.iload_n 2, 1) := by decide +kernel
theorem d_Q_completeWith_29 : decode c_Q_completeWith 29 = .ok (.aload_n 0, 1) := by decide +kernel
theorem d_Q_completeWith_30 : decode c_Q_completeWith 30 = .ok (.getfield 23, 3) := by decide +kernel
theorem d_Q_completeWith_33 : decode c_Q_completeWith 33 = .ok (.iload_n 1, 1) := by decide +kernel
theorem d_Q_completeWith_34 : decode c_Q_completeWith 34 = .ok (.iload 4, 2) := by decide +kernel
theorem d_Q_completeWith_36 : decode c_Q_completeWith 36 = .ok (.invokevirtual 56, 3) := by decide +kernel
theorem d_Q_completeWith_39 : decode c_Q_completeWith 39 = .ok (.invokevirtual 64, 3) := by decide +kernel
theorem d_Q_completeWith_42 : decode c_Q_completeWith 42 = .ok (.land, 1) := by decide +kernel
theorem d_Q_completeWith_43 : decode c_Q_completeWith 43 = .ok (.lstore 5, 2) := by decide +kernel
theorem d_Q_completeWith_45 : decode c_Q_completeWith 45 = .ok (.lload 5, 2) := by decide +kernel
theorem d_Q_completeWith_47 : decode c_Q_completeWith 47 = .ok (.lconst 0, 1) := by decide +kernel
theorem d_Q_completeWith_48 : decode c_Q_completeWith 48 = .ok (.lcmp, 1) := by decide +kernel
theorem d_Q_completeWith_49 : decode c_Q_completeWith 49 = .ok (.ifCond .ne 5, 3) := by decide +kernel
theorem d_Q_completeWith_52 : decode c_Q_completeWith 52 = .ok (.iconst 0, 1) := by decide +kernel
theorem d_Q_completeWith_53 : decode c_Q_completeWith 53 = .ok (.ireturn, 1) := by decide +kernel
theorem d_Q_completeWith_54 : decode c_Q_completeWith 54 = .ok (.aload_n 0, 1) := by decide +kernel
theorem d_Q_completeWith_55 : decode c_Q_completeWith 55 = .ok (.getfield 16, 3) := by decide +kernel
theorem d_Q_completeWith_58 : decode c_Q_completeWith 58 = .ok (.iload_n 2, 1) := by decide +kernel
theorem d_Q_completeWith_59 : decode c_Q_completeWith 59 = .ok (.iconst 1, 1) := by decide +kernel
theorem d_Q_completeWith_60 : decode c_Q_completeWith 60 = .ok (.iadd, 1) := by decide +kernel
theorem d_Q_completeWith_61 : decode c_Q_completeWith 61 = .ok (.aaload, 1) := by decide +kernel
theorem d_Q_completeWith_62 : decode c_Q_completeWith 62 = .ok (.iload 4, 2) := by decide +kernel
theorem d_Q_completeWith_64 : decode c_Q_completeWith 64 = .ok (.lload 5, 2) := by decide +kernel
theorem d_Q_completeWith_66 : decode c_Q_completeWith 66 = .ok (.lastore, 1) := by decide +kernel
theorem d_Q_completeWith_67 : decode c_Q_completeWith 67 = .ok (.iinc 4 1, 3) := by decide +kernel
theorem d_Q_completeWith_70 : decode c_Q_completeWith 70 = .ok (.goto (-58), 3) := by decide +kernel
abbrev rm_Q_completeWith3 : Room := { frames := 60, cells := 0, slots := 0, locals := 1200 }
def t_Q_completeWith3  (P : Option mx_V → mx_F → Prop) : List (Nat × mx_O) := [
  (0, mx_aload 0 1),
  (1, mx_get 4 3 4),
  (4, mx_iload 2 5),
  (5, mx_iload 1 6),
  (6, mx_iast 7),
  (7, mx_iload 2 8),
  (8, mx_push (.inl (nI 1)) 9),
  (9, mx_iadd 10),
  (10, mx_istore 4 12),
  (12, mx_iload 4 14),
  (14, mx_iload 3 15),
  (15, mx_ic_ge 73 18),
  (18, mx_aload 0 19),
  (19, mx_get 4 2 22),
  (22, mx_iload 2 23),
  (23, mx_aald 24),
  (24, mx_iload 4 26),
  (26, mx_lald 27),
  (27, mx_aload 0 28),
  (28, mx_iload 2 29),
  (29, mx_aload 0 30),
  (30, mx_get 4 0 33),
  (33, mx_iload 1 34),
  (34, mx_iload 4 36),
  (36, mx_cv2 5 sp_W_letterOf 0 0 39),
  (39, mx_cv2 4 sp_Q_wordsWith 0 0 42),
  (42, mx_land 43),
  (43, mx_lstore 5 45),
  (45, mx_lload 5 47),
  (47, mx_push (.inr (.inl 0)) 48),
  (48, mx_lcmp 49),
  (49, mx_if_ne 54 52),
  (52, mx_push (.inl (nI 0)) 53),
  (53, mx_zret P),
  (54, mx_aload 0 55),
  (55, mx_get 4 2 58),
  (58, mx_iload 2 59),
  (59, mx_push (.inl (nI 1)) 60),
  (60, mx_iadd 61),
  (61, mx_aald 62),
  (62, mx_iload 4 64),
  (64, mx_lload 5 66),
  (66, mx_last 67),
  (67, mx_iinc 4 (nI 1) 70),
  (70, mx_goto 12),
  (73, mx_aload 0 74),
  (74, mx_iload 2 75),
  (75, mx_push (.inl (nI 1)) 76),
  (76, mx_iadd 77),
  (77, mx_iload 3 78),
  (78, mx_cv2 4 sp_Q_complete4 0 0 81),
  (81, mx_zret P)]
set_option maxRecDepth 20000 in
theorem a_Q_completeWith3  {p : Program} {l : Launch} {e : Env} {s : State} {m : MethodId} {args : Array Value} {below : List Frame} {meth : Method} {c : Code} {D : va_G} {tc : Nat → ClassId} {tb : Nat → Nat} {sz : Nat} {a0 : Nat → Nat} {G : mx_F} {P : Option mx_V → mx_F → Prop}  (C : mx_C p s m args c c_Q_completeWith y_Q_completeWith.cls w_Q_completeWith D tc tb (mx_A a0 G sz) 7 (mx_Ok0 a0 G)) (hr : meth.sig.returnType = (some .boolean)) (hlk : meth.locks = false) : mx_all (mx_W p l e rm_Q_completeWith3 s m args below meth c (MQ below (mx_Q D tc tb a0 G sz P) args s 0 0 (mx_A a0 G sz)) D tc tb (mx_A a0 G sz) 7 (mx_Ok0 a0 G)) (t_Q_completeWith3  P) :=
  ⟨mx_s_aload_n C d_Q_completeWith_0 rfl,
  mx_s_get (T := T_Q) (N := 6) (k := 3) C (fun w h => List.mem_cons_of_mem _ (in_Q w h)) rfl (by decide) (List.mem_cons_of_mem _ fk_Q_19) rfl d_Q_completeWith_1,
  mx_s_iload_n C d_Q_completeWith_4 rfl,
  mx_s_iload_n C d_Q_completeWith_5 rfl,
  mx_s_iast C d_Q_completeWith_6,
  mx_s_iload_n C d_Q_completeWith_7 rfl,
  mx_s_iconst C d_Q_completeWith_8 (by decide),
  mx_s_iadd C d_Q_completeWith_9,
  mx_s_istore C d_Q_completeWith_10 (by decide),
  mx_s_iload C d_Q_completeWith_12,
  mx_s_iload_n C d_Q_completeWith_14 rfl,
  mx_s_ic_ge C d_Q_completeWith_15 (by decide),
  mx_s_aload_n C d_Q_completeWith_18 rfl,
  mx_s_get (T := T_Q) (N := 6) (k := 2) C (fun w h => List.mem_cons_of_mem _ (in_Q w h)) rfl (by decide) (List.mem_cons_of_mem _ fk_Q_16) rfl d_Q_completeWith_19,
  mx_s_iload_n C d_Q_completeWith_22 rfl,
  mx_s_aald C d_Q_completeWith_23,
  mx_s_iload C d_Q_completeWith_24,
  mx_s_lald C d_Q_completeWith_26,
  mx_s_aload_n C d_Q_completeWith_27 rfl,
  mx_s_iload_n C d_Q_completeWith_28 rfl,
  mx_s_aload_n C d_Q_completeWith_29 rfl,
  mx_s_get (T := T_Q) (N := 6) (k := 0) C (fun w h => List.mem_cons_of_mem _ (in_Q w h)) rfl (by decide) (List.mem_cons_of_mem _ fk_Q_23) rfl d_Q_completeWith_30,
  mx_s_iload_n C d_Q_completeWith_33 rfl,
  mx_s_iload C d_Q_completeWith_34,
  mx_s_cv2 C (m_W_letterOf l) rfl (cwV 2 C.2.2.2.2.1 (mx_gV (fun w h => List.mem_cons_of_mem _ h) mk_Q_56 im_W_letterOf se_W_letterOf ic_W co_W_letterOf) rfl rfl rfl (by decide +kernel) ⟨by decide, by decide⟩) d_Q_completeWith_36 ⟨Nat.zero_le _, Nat.zero_le _⟩,
  mx_s_cv2 C (m_Q_wordsWith l) rfl (cwV 2 C.2.2.2.2.1 (mx_gV (fun w h => List.mem_cons_of_mem _ h) mk_Q_64 im_Q_wordsWith se_Q_wordsWith ic_Q co_Q_wordsWith) rfl rfl rfl (by decide +kernel) ⟨by decide, by decide⟩) d_Q_completeWith_39 ⟨Nat.zero_le _, Nat.zero_le _⟩,
  mx_s_land C d_Q_completeWith_42,
  mx_s_lstore C d_Q_completeWith_43 (by decide),
  mx_s_lload C d_Q_completeWith_45,
  mx_s_lconst C d_Q_completeWith_47 (by decide),
  mx_s_lcmp C d_Q_completeWith_48,
  mx_s_if_ne C d_Q_completeWith_49 (by decide),
  mx_s_iconst C d_Q_completeWith_52 (by decide),
  mx_s_zret C hr hlk d_Q_completeWith_53,
  mx_s_aload_n C d_Q_completeWith_54 rfl,
  mx_s_get (T := T_Q) (N := 6) (k := 2) C (fun w h => List.mem_cons_of_mem _ (in_Q w h)) rfl (by decide) (List.mem_cons_of_mem _ fk_Q_16) rfl d_Q_completeWith_55,
  mx_s_iload_n C d_Q_completeWith_58 rfl,
  mx_s_iconst C d_Q_completeWith_59 (by decide),
  mx_s_iadd C d_Q_completeWith_60,
  mx_s_aald C d_Q_completeWith_61,
  mx_s_iload C d_Q_completeWith_62,
  mx_s_lload C d_Q_completeWith_64,
  mx_s_last C d_Q_completeWith_66,
  mx_s_iinc C d_Q_completeWith_67 (by decide) (by decide),
  mx_s_goto C d_Q_completeWith_70 (by decide),
  mx_s_aload_n C d_Q_completeWith_73 rfl,
  mx_s_iload_n C d_Q_completeWith_74 rfl,
  mx_s_iconst C d_Q_completeWith_75 (by decide),
  mx_s_iadd C d_Q_completeWith_76,
  mx_s_iload_n C d_Q_completeWith_77 rfl,
  mx_s_cv2 C (m_Q_complete4 l) rfl (cwV 2 C.2.2.2.2.1 (mx_gV (fun w h => List.mem_cons_of_mem _ h) mk_Q_35 im_Q_complete se_Q_complete ic_Q co_Q_complete) rfl rfl rfl (by decide +kernel) ⟨by decide, by decide⟩) d_Q_completeWith_78 ⟨Nat.zero_le _, Nat.zero_le _⟩,
  mx_s_zret C hr hlk d_Q_completeWith_81,
  trivial⟩
set_option maxRecDepth 20000 in
set_option maxHeartbeats 2000000 in
theorem m_Q_completeWith3 (l : Launch) : mx_M l y_Q_completeWith w_Q_completeWith rm_Q_completeWith3 sp_Q_completeWith3 := by
  intro zD ztc ztb zad As F P sz0 h
  obtain ⟨n, N, ch, S, lt, st, qs, qt, m, fl, l, j, rfl, h3, h4, h5, hw, h15, h16, h17, hq, hm, h18, hfl, hh, hor, hj, hd, hN, hp⟩ := h
  refine mx_run (cc := c_Q_completeWith) (maxL := 7) (ret := (some .boolean)) (tab := t_Q_completeWith3  P) (by decide) rfl zD ztc ztb zad _ F P sz0 (Nat.le_of_ble_eq_true rfl) (fun p e s m args below meth c C hr hlk => a_Q_completeWith3  C hr hlk) ?_
  intro Rr go
  have hn := hw.1.1
  obtain ⟨fo, hfo, hob⟩ := hor
  obtain ⟨f0, hf0⟩ := hq.2.1 4 (by omega)
  have hpre : ∀ i, i < 4 → upd fl 3 (nI j) i = nI (pu l 3 j i) := by
    intro i hi
    by_cases e : i = 3
    · rw [e, pk_us, pu_s]
    · rw [pk_un e, pu_n e]
      exact hfl i (by omega)

  have fin : ∀ (i : Nat) (j5 : Option mx_V) (f1 : Nat → Int64), i = m → (∀ x, 4 ≤ x → x < i → ∀ v, bt (f1 x) v ↔ ocd n N ch m 4 (pu l 3 j) x v) → Rr 73 [some (mx_r 15), some (mx_i (nI j)), some (mx_i (nI 3)), some (mx_i (nI m)), some (mx_i (nI i)), j5, none] [] (mx_put (mx_put F 18 (mx_ia 5 (upd fl 3 (nI j)))) (24 + 4) (mx_la 5 f1)) 0 0 := by
    intro i j5 f1 hi ho
    have hg : sfr 3 F (mx_put (mx_put F 18 (mx_ia 5 (upd fl 3 (nI j)))) (24 + 4) (mx_la 5 f1)) := sfr_tr sfr_18 (sfr_o (by omega))
    have hqg : qrw (mx_put (mx_put F 18 (mx_ia 5 (upd fl 3 (nI j)))) (24 + 4) (mx_la 5 f1)) := qrw_o (qrw_l hq) (show 4 < 5 by omega)
    generalize hGe : (mx_put (mx_put F 18 (mx_ia 5 (upd fl 3 (nI j)))) (24 + 4) (mx_la 5 f1)) = G at hg hqg ⊢
    have g3 : G 3 = _ := (hg 3 (by omega)).trans h3
    have g4 : G 4 = _ := (hg 4 (by omega)).trans h4
    have g5 : G 5 = _ := (hg 5 (by omega)).trans h5
    have g15 : G 15 = _ := (hg 15 (by omega)).trans h15
    have g16 : G 16 = _ := (hg 16 (by omega)).trans h16
    have g17 : G 17 = _ := (hg 17 (by omega)).trans h17
    have g18 : G 18 = some (mx_ia 5 (upd fl 3 (nI j))) := by rw [← hGe, mx_put_ne (by omega)]; exact mx_put_at _ _ _
    have gor : orw n N ch m 4 (pu l 3 j) G := ⟨f1, by rw [← hGe]; exact mx_put_at _ _ _, fun x h1 h2 v => ho x h1 (by omega) v⟩
    refine go rfl ⟨_, rfl, ?_⟩
    refine go rfl ⟨_, rfl, ?_⟩
    refine go rfl ?_
    refine go rfl ⟨_, _, _, rfl, ?_⟩
    rw [nI_add]
    refine go rfl ⟨_, rfl, ?_⟩
    refine go rfl ⟨_, _, _, _, _, rfl, g15, rfl, rfl, rfl, ⟨n, N, ch, S, lt, st, _, _, m, _, pu l 3 j, rfl, g3, g4, g5, hw, g15, g16, g17, hqg, hm, g18, hpre, hrw_t hh (fun x hx => hg _ (by omega)), gor, by omega, fun F2 f2 q1 q2 q3 => ⟨fun r e q4 => ?_, fun e q4 => ?_⟩⟩⟩
    · refine go rfl ⟨_, rfl, rfl, rfl, (Or.inr rfl), ?_⟩
      exact (hp F2 f2 q1 (sfr_tr hg (sfr_up q2)) q3).1 r e q4
    · refine go rfl ⟨_, rfl, rfl, rfl, (Or.inl rfl), ?_⟩
      refine (hp F2 f2 q1 (sfr_tr hg (sfr_up q2)) q3).2 e (fun x hx => ?_)
      rw [q4 x (by omega), pk_un (by omega)]
  have loop : ∀ (k i : Nat) (j5 : Option mx_V) (f1 : Nat → Int64), i + k = m → 4 ≤ i → (∀ x, 4 ≤ x → x < i → ∀ v, bt (f1 x) v ↔ ocd n N ch m 4 (pu l 3 j) x v) → Rr 12 [some (mx_r 15), some (mx_i (nI j)), some (mx_i (nI 3)), some (mx_i (nI m)), some (mx_i (nI i)), j5, none] [] (mx_put (mx_put F 18 (mx_ia 5 (upd fl 3 (nI j)))) (24 + 4) (mx_la 5 f1)) 0 0 := by
    intro k
    induction k with
    | zero =>
      intro i j5 f1 hi hi2 ho
      refine go rfl ⟨_, rfl, ?_⟩
      refine go rfl ⟨_, rfl, ?_⟩
      refine go rfl ⟨_, _, _, rfl, fun c => ?_, fun c => ?_⟩
      · exact fin i j5 f1 (by omega) ho
      · exact absurd (nI_le (by omega) (by omega)) c
    | succ k ih =>
      intro i j5 f1 hi hi2 ho
      have hg : sfr 3 F (mx_put (mx_put F 18 (mx_ia 5 (upd fl 3 (nI j)))) (24 + 4) (mx_la 5 f1)) := sfr_tr sfr_18 (sfr_o (by omega))
      have hqg : qrw (mx_put (mx_put F 18 (mx_ia 5 (upd fl 3 (nI j)))) (24 + 4) (mx_la 5 f1)) := qrw_o (qrw_l hq) (show 4 < 5 by omega)
      have g24 : (mx_put (mx_put F 18 (mx_ia 5 (upd fl 3 (nI j)))) (24 + 4) (mx_la 5 f1)) (24 + 3) = some (mx_la 5 fo) := (hg (24 + 3) (by omega)).trans hfo
      have g25 : (mx_put (mx_put F 18 (mx_ia 5 (upd fl 3 (nI j)))) (24 + 4) (mx_la 5 f1)) (24 + 4) = some (mx_la 5 f1) := mx_put_at _ _ _
      have g18 : (mx_put (mx_put F 18 (mx_ia 5 (upd fl 3 (nI j)))) (24 + 4) (mx_la 5 f1)) 18 = some (mx_ia 5 (upd fl 3 (nI j))) := by rw [mx_put_ne (by omega)]; exact mx_put_at _ _ _
      have hpp : ∀ f2, mx_put (mx_put (mx_put F 18 (mx_ia 5 (upd fl 3 (nI j)))) (24 + 4) (mx_la 5 f1)) (24 + 4) (mx_la 5 f2) = mx_put (mx_put F 18 (mx_ia 5 (upd fl 3 (nI j)))) (24 + 4) (mx_la 5 f2) := fun f2 => mx_pp _ _ _ _
      have hhv := hrw_t hh (fun x hx => hg (19 + x) (by omega))
      generalize hGe : (mx_put (mx_put F 18 (mx_ia 5 (upd fl 3 (nI j)))) (24 + 4) (mx_la 5 f1)) = G at hg hqg g24 g25 g18 hpp hhv ⊢
      have g3 : G 3 = _ := (hg 3 (by omega)).trans h3
      have g4 : G 4 = _ := (hg 4 (by omega)).trans h4
      have g5 : G 5 = _ := (hg 5 (by omega)).trans h5
      have g15 : G 15 = _ := (hg 15 (by omega)).trans h15
      have g16 : G 16 = _ := (hg 16 (by omega)).trans h16
      have g17 : G 17 = _ := (hg 17 (by omega)).trans h17
      have hG := mx_as6 g3 g4 g5 g15 g16 g17
      obtain ⟨fh, hfh, hs1, hs2⟩ := hhv 3 (by omega)
      obtain ⟨u, hu, eu, ee⟩ := vl_ixe (hw.2.1.2.2 j i hj (by omega))
      have hbit : ∀ v, bt (fo i &&& fh u) v ↔ ocd n N ch m 4 (pu l 3 j) i v := by
        intro v
        rw [bt_and, hob i (by omega) (by omega)]
        constructor
        · rintro ⟨⟨b1, b2, b3⟩, b4⟩
          refine ⟨b1, b2, fun x hx => ?_⟩
          by_cases ex : x = 3
          · rw [ex, pu_s, (hs1 u v hu b4).2.2, ee]
          · rw [pu_n ex]
            exact b3 x (by omega)
        · rintro ⟨b1, b2, b3⟩
          refine ⟨⟨b1, b2, fun x hx => ?_⟩, hs2 u v hu (Or.inl b1) b2 (by omega) ?_⟩
          · have := b3 x (by omega)
            rw [pu_n (by omega)] at this
            exact this
          · have := b3 3 (by omega)
            rw [pu_s, ee] at this
            exact this
      refine go rfl ⟨_, rfl, ?_⟩
      refine go rfl ⟨_, rfl, ?_⟩
      refine go rfl ⟨_, _, _, rfl, fun c => ?_, fun c => ?_⟩
      · exact absurd ((nI_leI (by omega) (by omega)).mp c) (by omega)
      rw [hG]
      refine go rfl ⟨_, rfl, ?_⟩
      refine go rfl ⟨_, _, _, _, rfl, rfl, rfl, ?_⟩
      refine go rfl ⟨_, rfl, ?_⟩
      refine go rfl ⟨_, _, _, _, _, _, _, rfl, rfl, ⟨_, rfl, rfl⟩, (vp_in_nI (show 3 < 5 by omega) (by omega)), (g5_at (show 3 < 5 by omega)), ?_⟩
      refine go rfl ⟨_, rfl, ?_⟩
      rw [← hG]
      refine go rfl ⟨_, _, _, _, _, rfl, g24, vp_in_nI (show i < 5 by omega) (by omega), ?_⟩
      rw [nI_clamp (by omega), hG]
      refine go rfl ⟨_, rfl, ?_⟩
      refine go rfl ⟨_, rfl, ?_⟩
      refine go rfl ⟨_, rfl, ?_⟩
      refine go rfl ⟨_, _, _, _, rfl, rfl, rfl, ?_⟩
      refine go rfl ⟨_, rfl, ?_⟩
      refine go rfl ⟨_, rfl, ?_⟩
      refine go rfl ⟨_, _, _, _, _, rfl, rfl, rfl, rfl, rfl, u_letterOf hw hj (show i < N j by omega) rfl rfl rfl ?_⟩
      rw [← hG, ee]
      refine go rfl ⟨_, _, _, _, _, rfl, g15, rfl, rfl, rfl, ⟨_, _, 3, u, fh, rfl, g15, g16, hfh, by omega, hu, ?_⟩⟩
      refine go rfl ⟨_, _, _, rfl, ?_⟩
      refine go rfl ⟨_, _, rfl, ?_⟩
      refine go rfl ⟨_, rfl, ?_⟩
      refine go rfl ?_
      refine go rfl ⟨_, _, _, rfl, ?_⟩
      refine go rfl ⟨_, _, rfl, fun e => ?_, fun e => ?_⟩
      · rw [hG]
        refine go rfl ⟨_, rfl, ?_⟩
        refine go rfl ⟨_, _, _, _, rfl, rfl, rfl, ?_⟩
        refine go rfl ⟨_, rfl, ?_⟩
        refine go rfl ?_
        refine go rfl ⟨_, _, _, rfl, ?_⟩
        rw [nI_add]
        refine go rfl ⟨_, _, _, _, _, _, _, rfl, rfl, ⟨_, rfl, rfl⟩, (vp_in_nI (show 4 < 5 by omega) (by omega)), (g5_at (show 4 < 5 by omega)), ?_⟩
        refine go rfl ⟨_, rfl, ?_⟩
        refine go rfl ⟨_, rfl, ?_⟩
        rw [← hG]
        refine go rfl ⟨_, _, _, _, _, _, rfl, g25, vp_in_nI (show i < 5 by omega) (by omega), ?_⟩
        rw [nI_clamp (by omega), hpp]
        refine go rfl ⟨_, rfl, ?_⟩
        refine go rfl ?_
        rw [nI_add]
        refine ih (i + 1) _ _ (by omega) (by omega) (fun x h1 h2 v => ?_)
        by_cases ex : x = i
        · rw [ex, pk_uLs]
          exact hbit v
        · rw [pk_uLn ex]
          exact ho x h1 (by omega) v
      · have e := lcmp0.mp e
        refine go rfl ?_
        refine go rfl ⟨_, rfl, rfl, rfl, (Or.inl rfl), ?_⟩
        refine (hp G _ g18 hg hqg).2 ?_ (fun x hx => pk_un (by omega))
        cases hr : sr n N ch m (m - 4) 4 (pu l 3 j) with
        | none => rfl
        | some r =>
          exfalso
          obtain ⟨k1, k2⟩ := sr_ok (q := m - 4) (k := 4) (by omega) hr
          obtain ⟨k3, k4, k5⟩ := k2 i hi2 (by omega)
          have hb := (hbit (r i)).mpr ⟨k3, k4, fun x hx => by rw [k5 x (by omega), k1 x hx]⟩
          rw [e] at hb
          exact bt_0 hb

  have hF := mx_as2 h15 h18
  have hX0 : mx_put F 15 (e_Q qs qt) = F := mx_self h15
  rw [hF]
  refine go rfl ⟨_, rfl, ?_⟩
  refine go rfl ⟨_, _, _, _, rfl, rfl, rfl, ?_⟩
  refine go rfl ⟨_, rfl, ?_⟩
  refine go rfl ⟨_, rfl, ?_⟩
  refine go rfl ⟨_, _, _, _, _, _, rfl, rfl, (vp_in_nI (show 3 < 5 by omega) (by omega)), ?_⟩
  rw [mx_pp, hX0, nI_clamp (show 3 < 2 ^ 31 by omega)]
  refine go rfl ⟨_, rfl, ?_⟩
  refine go rfl ?_
  refine go rfl ⟨_, _, _, rfl, ?_⟩
  rw [nI_add]
  refine go rfl ⟨_, _, rfl, ?_⟩
  have hX : (mx_put F 18 (mx_ia 5 (upd fl 3 (nI j)))) = mx_put (mx_put F 18 (mx_ia 5 (upd fl 3 (nI j)))) (24 + 4) (mx_la 5 f0) := (mx_self (by rw [mx_put_ne (by omega)]; exact hf0)).symm
  rw [hX]
  exact loop (m - 4) 4 none f0 (by omega) (by omega) (fun x h1 h2 => absurd h2 (by omega))
-- LadderWords$Squares.complete(II)Z
def sp_Q_complete3 : mx_Sp := fun As F P => ∃ (n : Nat) (N : Nat → Nat) (ch : Nat → Nat → Int32) (S : Nat → Nat) (lt st : Nat → Int32) (qs qt : Int32) (m : Nat) (fl : Nat → Int32) (l : Nat → Nat), As = [mx_r 15, mx_i (nI 3), mx_i (nI m)] ∧ F 3 = some (e_W n) ∧ F 4 = some (mx_ia 360 lt) ∧ F 5 = some (mx_ia 61 st) ∧ wst n N ch S lt st ∧ F 15 = some (e_Q qs qt) ∧ F 16 = some (mx_qa 2 5 (mx_g5 19)) ∧ F 17 = some (mx_qa 2 5 (mx_g5 24)) ∧ qrw F ∧ m ≤ 5 ∧ F 18 = some (mx_ia 5 fl) ∧ (∀ i, i < 3 → fl i = nI (l i)) ∧ hrw n N ch m n 0 F ∧ orw n N ch m 3 l F ∧ 3 ≤ m ∧ ∀ F' f', F' 18 = some (mx_ia 5 f') → sfr 3 F F' → qrw F' → (∀ r, sr n N ch m (m - 3) 3 l = some r → (∀ i, i < m → f' i = nI (r i)) → P (some (mx_i (nI 1))) F') ∧ (sr n N ch m (m - 3) 3 l = none → (∀ i, i < 3 → f' i = fl i) → P (some (mx_i (nI 0))) F')
abbrev rm_Q_complete3 : Room := { frames := 70, cells := 0, slots := 0, locals := 1400 }
def t_Q_complete3  (P : Option mx_V → mx_F → Prop) : List (Nat × mx_O) := [
  (0, mx_iload 1 1),
  (1, mx_iload 2 2),
  (2, mx_ic_ge 10 5),
  (5, mx_iload 1 6),
  (6, mx_push (.inl (nI 5)) 7),
  (7, mx_ic_lt 12 10),
  (10, mx_push (.inl (nI 1)) 11),
  (11, mx_zret P),
  (12, mx_push (.inl (nI 0)) 13),
  (13, mx_istore 3 14),
  (14, mx_iload 3 15),
  (15, mx_aload 0 16),
  (16, mx_get 4 0 19),
  (19, mx_cv0 5 sp_W_count 0 0 22),
  (22, mx_ic_ge 72 25),
  (25, mx_aload 0 26),
  (26, mx_get 4 2 29),
  (29, mx_iload 1 30),
  (30, mx_aald 31),
  (31, mx_iload 1 32),
  (32, mx_lald 33),
  (33, mx_iload 3 34),
  (34, mx_lushr 35),
  (35, mx_push (.inr (.inl 1)) 36),
  (36, mx_land 37),
  (37, mx_push (.inr (.inl 0)) 38),
  (38, mx_lcmp 39),
  (39, mx_if_eq 46 42),
  (42, mx_push (.inl (nI 1)) 43),
  (43, mx_goto 47),
  (46, mx_push (.inl (nI 0)) 47),
  (47, mx_istore 4 49),
  (49, mx_iload 4 51),
  (51, mx_if_eq 66 54),
  (54, mx_aload 0 55),
  (55, mx_iload 3 56),
  (56, mx_iload 1 57),
  (57, mx_iload 2 58),
  (58, mx_cv3 4 sp_Q_completeWith3 0 0 61),
  (61, mx_if_eq 66 64),
  (64, mx_push (.inl (nI 1)) 65),
  (65, mx_zret P),
  (66, mx_iinc 3 (nI 1) 69),
  (69, mx_goto 14),
  (72, mx_push (.inl (nI 0)) 73),
  (73, mx_zret P)]
set_option maxRecDepth 20000 in
theorem a_Q_complete3  {p : Program} {l : Launch} {e : Env} {s : State} {m : MethodId} {args : Array Value} {below : List Frame} {meth : Method} {c : Code} {D : va_G} {tc : Nat → ClassId} {tb : Nat → Nat} {sz : Nat} {a0 : Nat → Nat} {G : mx_F} {P : Option mx_V → mx_F → Prop}  (C : mx_C p s m args c c_Q_complete y_Q_complete.cls w_Q_complete D tc tb (mx_A a0 G sz) 5 (mx_Ok0 a0 G)) (hr : meth.sig.returnType = (some .boolean)) (hlk : meth.locks = false) : mx_all (mx_W p l e rm_Q_complete3 s m args below meth c (MQ below (mx_Q D tc tb a0 G sz P) args s 0 0 (mx_A a0 G sz)) D tc tb (mx_A a0 G sz) 5 (mx_Ok0 a0 G)) (t_Q_complete3  P) :=
  ⟨mx_s_iload_n C d_Q_complete_0 rfl,
  mx_s_iload_n C d_Q_complete_1 rfl,
  mx_s_ic_ge C d_Q_complete_2 (by decide),
  mx_s_iload_n C d_Q_complete_5 rfl,
  mx_s_iconst C d_Q_complete_6 (by decide),
  mx_s_ic_lt C d_Q_complete_7 (by decide),
  mx_s_iconst C d_Q_complete_10 (by decide),
  mx_s_zret C hr hlk d_Q_complete_11,
  mx_s_iconst C d_Q_complete_12 (by decide),
  mx_s_istore_n C d_Q_complete_13 rfl (by decide),
  mx_s_iload_n C d_Q_complete_14 rfl,
  mx_s_aload_n C d_Q_complete_15 rfl,
  mx_s_get (T := T_Q) (N := 6) (k := 0) C (fun w h => List.mem_cons_of_mem _ (in_Q w h)) rfl (by decide) (List.mem_cons_of_mem _ fk_Q_23) rfl d_Q_complete_16,
  mx_s_cv0 C (m_W_count l) rfl (cwV 0 C.2.2.2.2.1 (mx_gV (fun w h => List.mem_cons_of_mem _ h) mk_Q_39 im_W_count se_W_count ic_W co_W_count) rfl rfl rfl (by decide +kernel) ⟨by decide, by decide⟩) d_Q_complete_19 ⟨Nat.zero_le _, Nat.zero_le _⟩,
  mx_s_ic_ge C d_Q_complete_22 (by decide),
  mx_s_aload_n C d_Q_complete_25 rfl,
  mx_s_get (T := T_Q) (N := 6) (k := 2) C (fun w h => List.mem_cons_of_mem _ (in_Q w h)) rfl (by decide) (List.mem_cons_of_mem _ fk_Q_16) rfl d_Q_complete_26,
  mx_s_iload_n C d_Q_complete_29 rfl,
  mx_s_aald C d_Q_complete_30,
  mx_s_iload_n C d_Q_complete_31 rfl,
  mx_s_lald C d_Q_complete_32,
  mx_s_iload_n C d_Q_complete_33 rfl,
  mx_s_lushr C d_Q_complete_34,
  mx_s_lconst C d_Q_complete_35 (by decide),
  mx_s_land C d_Q_complete_36,
  mx_s_lconst C d_Q_complete_37 (by decide),
  mx_s_lcmp C d_Q_complete_38,
  mx_s_if_eq C d_Q_complete_39 (by decide),
  mx_s_iconst C d_Q_complete_42 (by decide),
  mx_s_goto C d_Q_complete_43 (by decide),
  mx_s_iconst C d_Q_complete_46 (by decide),
  mx_s_istore C d_Q_complete_47 (by decide),
  mx_s_iload C d_Q_complete_49,
  mx_s_if_eq C d_Q_complete_51 (by decide),
  mx_s_aload_n C d_Q_complete_54 rfl,
  mx_s_iload_n C d_Q_complete_55 rfl,
  mx_s_iload_n C d_Q_complete_56 rfl,
  mx_s_iload_n C d_Q_complete_57 rfl,
  mx_s_cv3 C (m_Q_completeWith3 l) rfl (cwV 3 C.2.2.2.2.1 (mx_gV (fun w h => List.mem_cons_of_mem _ h) mk_Q_60 im_Q_completeWith se_Q_completeWith ic_Q co_Q_completeWith) rfl rfl rfl (by decide +kernel) ⟨by decide, by decide⟩) d_Q_complete_58 ⟨Nat.zero_le _, Nat.zero_le _⟩,
  mx_s_if_eq C d_Q_complete_61 (by decide),
  mx_s_iconst C d_Q_complete_64 (by decide),
  mx_s_zret C hr hlk d_Q_complete_65,
  mx_s_iinc C d_Q_complete_66 (by decide) (by decide),
  mx_s_goto C d_Q_complete_69 (by decide),
  mx_s_iconst C d_Q_complete_72 (by decide),
  mx_s_zret C hr hlk d_Q_complete_73,
  trivial⟩
set_option maxRecDepth 20000 in
set_option maxHeartbeats 2000000 in
theorem m_Q_complete3 (l : Launch) : mx_M l y_Q_complete w_Q_complete rm_Q_complete3 sp_Q_complete3 := by
  intro zD ztc ztb zad As F P sz0 h
  obtain ⟨n, N, ch, S, lt, st, qs, qt, m, fl, l, rfl, h3, h4, h5, hw, h15, h16, h17, hq, hm, h18, hfl, hh, hor, hdm, hp⟩ := h
  refine mx_run (cc := c_Q_complete) (maxL := 5) (ret := (some .boolean)) (tab := t_Q_complete3  P) (by decide) rfl zD ztc ztb zad _ F P sz0 (Nat.le_of_ble_eq_true rfl) (fun p e s m args below meth c C hr hlk => a_Q_complete3  C hr hlk) ?_
  intro Rr go
  have hn := hw.1.1
  obtain ⟨fo, hfo, hob⟩ := id hor
  rcases Nat.lt_or_ge 3 m with hd | hd
  rotate_left
  · refine go rfl ⟨_, rfl, ?_⟩
    refine go rfl ⟨_, rfl, ?_⟩
    refine go rfl ⟨_, _, _, rfl, fun c => ?_, fun c => ?_⟩
    · refine go rfl ?_
      refine go rfl ⟨_, rfl, rfl, rfl, (Or.inr rfl), ?_⟩
      refine (hp F fl h18 (sfr_rf 3 F) hq).1 l ?_ (fun i hi => hfl i (by omega))
      rw [show m - 3 = 0 by omega]
      rfl
    · exact absurd (nI_le hd (by omega)) c
  refine go rfl ⟨_, rfl, ?_⟩
  refine go rfl ⟨_, rfl, ?_⟩
  refine go rfl ⟨_, _, _, rfl, fun c => ?_, fun c => ?_⟩
  · exact absurd ((nI_leI (by omega) (by omega)).mp c) (by omega)
  refine go rfl ⟨_, rfl, ?_⟩
  refine go rfl ?_
  refine go rfl ⟨_, _, _, rfl, fun c2 => ?_, fun c2 => ?_⟩
  rotate_left
  · exact absurd (nI_lt (show 3 < 5 by omega) (by omega)) c2
  have hsr : sr n N ch m (m - 3) 3 l = scf (sv n N ch m (m - 4) 3 l) 0 n := by
    rw [show m - 3 = m - 4 + 1 by omega, sr_s]
  have loop : ∀ (k v : Nat) (jk : Option mx_V) (G : mx_F) (f2 : Nat → Int32), v + k = n → sfr 3 F G → qrw G → G 18 = some (mx_ia 5 f2) → (∀ i, i < 3 → f2 i = fl i) → sr n N ch m (m - 3) 3 l = scf (sv n N ch m (m - 4) 3 l) v k → Rr 14 [some (mx_r 15), some (mx_i (nI 3)), some (mx_i (nI m)), some (mx_i (nI v)), jk] [] G 0 0 := by
    intro k
    induction k with
    | zero =>
      intro v jk G f2 hv hg hqg g18 hf2 hs
      have g3 : G 3 = _ := (hg 3 (by omega)).trans h3
      have g15 : G 15 = _ := (hg 15 (by omega)).trans h15
      have hG := mx_as2 g3 g15
      rw [hG]
      refine go rfl ⟨_, rfl, ?_⟩
      refine go rfl ⟨_, rfl, ?_⟩
      refine go rfl ⟨_, _, _, _, rfl, rfl, rfl, ?_⟩
      refine go rfl ⟨_, _, _, rfl, rfl, rfl, rfl, rfl, ⟨n, rfl, rfl, ?_⟩⟩
      rw [← hG]
      refine go rfl ⟨_, _, _, rfl, fun c3 => ?_, fun c3 => ?_⟩
      · refine go rfl ?_
        refine go rfl ⟨_, rfl, rfl, rfl, (Or.inl rfl), ?_⟩
        exact (hp G f2 g18 hg hqg).2 hs hf2
      · exact absurd (nI_le (by omega) (by omega)) c3
    | succ k ih =>
      intro v jk G f2 hv hg hqg g18 hf2 hs
      have g3 : G 3 = _ := (hg 3 (by omega)).trans h3
      have g4 : G 4 = _ := (hg 4 (by omega)).trans h4
      have g5 : G 5 = _ := (hg 5 (by omega)).trans h5
      have g15 : G 15 = _ := (hg 15 (by omega)).trans h15
      have g16 : G 16 = _ := (hg 16 (by omega)).trans h16
      have g17 : G 17 = _ := (hg 17 (by omega)).trans h17
      have g24 : G (24 + 3) = some (mx_la 5 fo) := (hg (24 + 3) (by omega)).trans hfo
      have hG := mx_as3 g3 g15 g17
      have hvn : v < n := by omega
      have next : sv n N ch m (m - 4) 3 l v = none → ∀ (jk : Option mx_V) (G : mx_F) (f2 : Nat → Int32), sfr 3 F G → qrw G → G 18 = some (mx_ia 5 f2) → (∀ i, i < 3 → f2 i = fl i) → Rr 66 [some (mx_r 15), some (mx_i (nI 3)), some (mx_i (nI m)), some (mx_i (nI v)), jk] [] G 0 0 := by
        intro hno jk G f2 hg hqg g18 hf2
        refine go rfl ⟨_, rfl, ?_⟩
        refine go rfl ?_
        rw [nI_add]
        refine ih (v + 1) _ G f2 (by omega) hg hqg g18 hf2 ?_
        rw [hs, scf_n hno]
      rw [hG]
      refine go rfl ⟨_, rfl, ?_⟩
      refine go rfl ⟨_, rfl, ?_⟩
      refine go rfl ⟨_, _, _, _, rfl, rfl, rfl, ?_⟩
      refine go rfl ⟨_, _, _, rfl, rfl, rfl, rfl, rfl, ⟨n, rfl, rfl, ?_⟩⟩
      refine go rfl ⟨_, _, _, rfl, fun c3 => ?_, fun c3 => ?_⟩
      · exact absurd ((nI_leI (by omega) (by omega)).mp c3) (by omega)
      refine go rfl ⟨_, rfl, ?_⟩
      refine go rfl ⟨_, _, _, _, rfl, rfl, rfl, ?_⟩
      refine go rfl ⟨_, rfl, ?_⟩
      refine go rfl ⟨_, _, _, _, _, _, _, rfl, rfl, ⟨_, rfl, rfl⟩, (vp_in_nI (show 3 < 5 by omega) (by omega)), (g5_at (show 3 < 5 by omega)), ?_⟩
      refine go rfl ⟨_, rfl, ?_⟩
      rw [← hG]
      refine go rfl ⟨_, _, _, _, _, rfl, g24, vp_in_nI (show 3 < 5 by omega) (by omega), ?_⟩
      rw [nI_clamp (show 3 < 2 ^ 31 by omega)]
      refine go rfl ⟨_, rfl, ?_⟩
      refine go rfl ⟨_, _, _, rfl, ?_⟩
      refine go rfl ?_
      refine go rfl ⟨_, _, _, rfl, ?_⟩
      refine go rfl ?_
      refine go rfl ⟨_, _, _, rfl, ?_⟩
      have hbv := hob 3 (Nat.le_refl _) hd v
      refine go rfl ⟨_, _, rfl, fun e => ?_, fun e => ?_⟩
      · have e := (bt_may (by omega)).mp (lcmp0.mp e)
        have hnc : ¬ cand N ch m 3 l v := fun h => e (hbv.mpr ⟨hvn, h.1, h.2⟩)
        refine go rfl ?_
        refine go rfl ⟨_, _, rfl, ?_⟩
        refine go rfl ⟨_, rfl, ?_⟩
        refine go rfl ⟨_, _, rfl, fun e2 => ?_, fun e2 => ?_⟩
        · exact next (sv_n hnc) _ G f2 hg hqg g18 hf2
        · exact absurd rfl e2
      have e : bt (fo 3) v := Classical.byContradiction (fun q => e (lcmp0.mpr ((bt_may (by omega)).mpr q)))
      have hcd : cand N ch m 3 l v := ⟨(hbv.mp e).2.1, (hbv.mp e).2.2⟩
      refine go rfl ?_
      refine go rfl ?_
      refine go rfl ⟨_, _, rfl, ?_⟩
      refine go rfl ⟨_, rfl, ?_⟩
      refine go rfl ⟨_, _, rfl, fun e2 => ?_, fun e2 => ?_⟩
      · exact absurd e2 (by decide)
      refine go rfl ⟨_, rfl, ?_⟩
      refine go rfl ⟨_, rfl, ?_⟩
      refine go rfl ⟨_, rfl, ?_⟩
      refine go rfl ⟨_, rfl, ?_⟩
      refine go rfl ⟨_, _, _, _, _, _, rfl, g15, rfl, rfl, rfl, ⟨n, N, ch, S, lt, st, _, _, m, f2, l, v, rfl, g3, g4, g5, hw, g15, g16, g17, hqg, hm, g18, fun i hi => (hf2 i hi).trans (hfl i hi), hrw_t hh (fun x hx => hg _ (by omega)), ⟨fo, g24, hob⟩, hvn, hd, hcd.1, fun F2 f3 q1 q2 q3 => ⟨fun r e5 q4 => ?_, fun e5 q4 => ?_⟩⟩⟩
      · refine go rfl ⟨_, _, rfl, fun e3 => ?_, fun e3 => ?_⟩
        · exact absurd e3 (by decide)
        refine go rfl ?_
        refine go rfl ⟨_, rfl, rfl, rfl, (Or.inr rfl), ?_⟩
        refine (hp F2 f3 q1 (sfr_tr hg q2) q3).1 r ?_ q4
        rw [hs]
        exact scf_s (by rw [sv_y hcd]; exact e5)
      · refine go rfl ⟨_, _, rfl, fun e3 => ?_, fun e3 => ?_⟩
        · refine next (by rw [sv_y hcd]; exact e5) _ F2 f3 (sfr_tr hg q2) q3 q1 (fun i hi => ?_)
          rw [q4 i hi]
          exact hf2 i hi
        · exact absurd rfl e3
  refine go rfl ?_
  refine go rfl ⟨_, _, rfl, ?_⟩
  exact loop n 0 none F fl (by omega) (sfr_rf 3 F) hq h18 (fun _ _ => rfl) hsr
-- LadderWords$Squares.completeWith(III)Z
def sp_Q_completeWith2 : mx_Sp := fun As F P => ∃ (n : Nat) (N : Nat → Nat) (ch : Nat → Nat → Int32) (S : Nat → Nat) (lt st : Nat → Int32) (qs qt : Int32) (m : Nat) (fl : Nat → Int32) (l : Nat → Nat) (j : Nat), As = [mx_r 15, mx_i (nI j), mx_i (nI 2), mx_i (nI m)] ∧ F 3 = some (e_W n) ∧ F 4 = some (mx_ia 360 lt) ∧ F 5 = some (mx_ia 61 st) ∧ wst n N ch S lt st ∧ F 15 = some (e_Q qs qt) ∧ F 16 = some (mx_qa 2 5 (mx_g5 19)) ∧ F 17 = some (mx_qa 2 5 (mx_g5 24)) ∧ qrw F ∧ m ≤ 5 ∧ F 18 = some (mx_ia 5 fl) ∧ (∀ i, i < 2 → fl i = nI (l i)) ∧ hrw n N ch m n 0 F ∧ orw n N ch m 2 l F ∧ j < n ∧ 2 < m ∧ N j = m ∧ ∀ F' f', F' 18 = some (mx_ia 5 f') → sfr 2 F F' → qrw F' → (∀ r, sr n N ch m (m - 3) 3 (pu l 2 j) = some r → (∀ i, i < m → f' i = nI (r i)) → P (some (mx_i (nI 1))) F') ∧ (sr n N ch m (m - 3) 3 (pu l 2 j) = none → (∀ i, i < 2 → f' i = fl i) → P (some (mx_i (nI 0))) F')
abbrev rm_Q_completeWith2 : Room := { frames := 80, cells := 0, slots := 0, locals := 1600 }
def t_Q_completeWith2  (P : Option mx_V → mx_F → Prop) : List (Nat × mx_O) := [
  (0, mx_aload 0 1),
  (1, mx_get 4 3 4),
  (4, mx_iload 2 5),
  (5, mx_iload 1 6),
  (6, mx_iast 7),
  (7, mx_iload 2 8),
  (8, mx_push (.inl (nI 1)) 9),
  (9, mx_iadd 10),
  (10, mx_istore 4 12),
  (12, mx_iload 4 14),
  (14, mx_iload 3 15),
  (15, mx_ic_ge 73 18),
  (18, mx_aload 0 19),
  (19, mx_get 4 2 22),
  (22, mx_iload 2 23),
  (23, mx_aald 24),
  (24, mx_iload 4 26),
  (26, mx_lald 27),
  (27, mx_aload 0 28),
  (28, mx_iload 2 29),
  (29, mx_aload 0 30),
  (30, mx_get 4 0 33),
  (33, mx_iload 1 34),
  (34, mx_iload 4 36),
  (36, mx_cv2 5 sp_W_letterOf 0 0 39),
  (39, mx_cv2 4 sp_Q_wordsWith 0 0 42),
  (42, mx_land 43),
  (43, mx_lstore 5 45),
  (45, mx_lload 5 47),
  (47, mx_push (.inr (.inl 0)) 48),
  (48, mx_lcmp 49),
  (49, mx_if_ne 54 52),
  (52, mx_push (.inl (nI 0)) 53),
  (53, mx_zret P),
  (54, mx_aload 0 55),
  (55, mx_get 4 2 58),
  (58, mx_iload 2 59),
  (59, mx_push (.inl (nI 1)) 60),
  (60, mx_iadd 61),
  (61, mx_aald 62),
  (62, mx_iload 4 64),
  (64, mx_lload 5 66),
  (66, mx_last 67),
  (67, mx_iinc 4 (nI 1) 70),
  (70, mx_goto 12),
  (73, mx_aload 0 74),
  (74, mx_iload 2 75),
  (75, mx_push (.inl (nI 1)) 76),
  (76, mx_iadd 77),
  (77, mx_iload 3 78),
  (78, mx_cv2 4 sp_Q_complete3 0 0 81),
  (81, mx_zret P)]
set_option maxRecDepth 20000 in
theorem a_Q_completeWith2  {p : Program} {l : Launch} {e : Env} {s : State} {m : MethodId} {args : Array Value} {below : List Frame} {meth : Method} {c : Code} {D : va_G} {tc : Nat → ClassId} {tb : Nat → Nat} {sz : Nat} {a0 : Nat → Nat} {G : mx_F} {P : Option mx_V → mx_F → Prop}  (C : mx_C p s m args c c_Q_completeWith y_Q_completeWith.cls w_Q_completeWith D tc tb (mx_A a0 G sz) 7 (mx_Ok0 a0 G)) (hr : meth.sig.returnType = (some .boolean)) (hlk : meth.locks = false) : mx_all (mx_W p l e rm_Q_completeWith2 s m args below meth c (MQ below (mx_Q D tc tb a0 G sz P) args s 0 0 (mx_A a0 G sz)) D tc tb (mx_A a0 G sz) 7 (mx_Ok0 a0 G)) (t_Q_completeWith2  P) :=
  ⟨mx_s_aload_n C d_Q_completeWith_0 rfl,
  mx_s_get (T := T_Q) (N := 6) (k := 3) C (fun w h => List.mem_cons_of_mem _ (in_Q w h)) rfl (by decide) (List.mem_cons_of_mem _ fk_Q_19) rfl d_Q_completeWith_1,
  mx_s_iload_n C d_Q_completeWith_4 rfl,
  mx_s_iload_n C d_Q_completeWith_5 rfl,
  mx_s_iast C d_Q_completeWith_6,
  mx_s_iload_n C d_Q_completeWith_7 rfl,
  mx_s_iconst C d_Q_completeWith_8 (by decide),
  mx_s_iadd C d_Q_completeWith_9,
  mx_s_istore C d_Q_completeWith_10 (by decide),
  mx_s_iload C d_Q_completeWith_12,
  mx_s_iload_n C d_Q_completeWith_14 rfl,
  mx_s_ic_ge C d_Q_completeWith_15 (by decide),
  mx_s_aload_n C d_Q_completeWith_18 rfl,
  mx_s_get (T := T_Q) (N := 6) (k := 2) C (fun w h => List.mem_cons_of_mem _ (in_Q w h)) rfl (by decide) (List.mem_cons_of_mem _ fk_Q_16) rfl d_Q_completeWith_19,
  mx_s_iload_n C d_Q_completeWith_22 rfl,
  mx_s_aald C d_Q_completeWith_23,
  mx_s_iload C d_Q_completeWith_24,
  mx_s_lald C d_Q_completeWith_26,
  mx_s_aload_n C d_Q_completeWith_27 rfl,
  mx_s_iload_n C d_Q_completeWith_28 rfl,
  mx_s_aload_n C d_Q_completeWith_29 rfl,
  mx_s_get (T := T_Q) (N := 6) (k := 0) C (fun w h => List.mem_cons_of_mem _ (in_Q w h)) rfl (by decide) (List.mem_cons_of_mem _ fk_Q_23) rfl d_Q_completeWith_30,
  mx_s_iload_n C d_Q_completeWith_33 rfl,
  mx_s_iload C d_Q_completeWith_34,
  mx_s_cv2 C (m_W_letterOf l) rfl (cwV 2 C.2.2.2.2.1 (mx_gV (fun w h => List.mem_cons_of_mem _ h) mk_Q_56 im_W_letterOf se_W_letterOf ic_W co_W_letterOf) rfl rfl rfl (by decide +kernel) ⟨by decide, by decide⟩) d_Q_completeWith_36 ⟨Nat.zero_le _, Nat.zero_le _⟩,
  mx_s_cv2 C (m_Q_wordsWith l) rfl (cwV 2 C.2.2.2.2.1 (mx_gV (fun w h => List.mem_cons_of_mem _ h) mk_Q_64 im_Q_wordsWith se_Q_wordsWith ic_Q co_Q_wordsWith) rfl rfl rfl (by decide +kernel) ⟨by decide, by decide⟩) d_Q_completeWith_39 ⟨Nat.zero_le _, Nat.zero_le _⟩,
  mx_s_land C d_Q_completeWith_42,
  mx_s_lstore C d_Q_completeWith_43 (by decide),
  mx_s_lload C d_Q_completeWith_45,
  mx_s_lconst C d_Q_completeWith_47 (by decide),
  mx_s_lcmp C d_Q_completeWith_48,
  mx_s_if_ne C d_Q_completeWith_49 (by decide),
  mx_s_iconst C d_Q_completeWith_52 (by decide),
  mx_s_zret C hr hlk d_Q_completeWith_53,
  mx_s_aload_n C d_Q_completeWith_54 rfl,
  mx_s_get (T := T_Q) (N := 6) (k := 2) C (fun w h => List.mem_cons_of_mem _ (in_Q w h)) rfl (by decide) (List.mem_cons_of_mem _ fk_Q_16) rfl d_Q_completeWith_55,
  mx_s_iload_n C d_Q_completeWith_58 rfl,
  mx_s_iconst C d_Q_completeWith_59 (by decide),
  mx_s_iadd C d_Q_completeWith_60,
  mx_s_aald C d_Q_completeWith_61,
  mx_s_iload C d_Q_completeWith_62,
  mx_s_lload C d_Q_completeWith_64,
  mx_s_last C d_Q_completeWith_66,
  mx_s_iinc C d_Q_completeWith_67 (by decide) (by decide),
  mx_s_goto C d_Q_completeWith_70 (by decide),
  mx_s_aload_n C d_Q_completeWith_73 rfl,
  mx_s_iload_n C d_Q_completeWith_74 rfl,
  mx_s_iconst C d_Q_completeWith_75 (by decide),
  mx_s_iadd C d_Q_completeWith_76,
  mx_s_iload_n C d_Q_completeWith_77 rfl,
  mx_s_cv2 C (m_Q_complete3 l) rfl (cwV 2 C.2.2.2.2.1 (mx_gV (fun w h => List.mem_cons_of_mem _ h) mk_Q_35 im_Q_complete se_Q_complete ic_Q co_Q_complete) rfl rfl rfl (by decide +kernel) ⟨by decide, by decide⟩) d_Q_completeWith_78 ⟨Nat.zero_le _, Nat.zero_le _⟩,
  mx_s_zret C hr hlk d_Q_completeWith_81,
  trivial⟩
set_option maxRecDepth 20000 in
set_option maxHeartbeats 2000000 in
theorem m_Q_completeWith2 (l : Launch) : mx_M l y_Q_completeWith w_Q_completeWith rm_Q_completeWith2 sp_Q_completeWith2 := by
  intro zD ztc ztb zad As F P sz0 h
  obtain ⟨n, N, ch, S, lt, st, qs, qt, m, fl, l, j, rfl, h3, h4, h5, hw, h15, h16, h17, hq, hm, h18, hfl, hh, hor, hj, hd, hN, hp⟩ := h
  refine mx_run (cc := c_Q_completeWith) (maxL := 7) (ret := (some .boolean)) (tab := t_Q_completeWith2  P) (by decide) rfl zD ztc ztb zad _ F P sz0 (Nat.le_of_ble_eq_true rfl) (fun p e s m args below meth c C hr hlk => a_Q_completeWith2  C hr hlk) ?_
  intro Rr go
  have hn := hw.1.1
  obtain ⟨fo, hfo, hob⟩ := hor
  obtain ⟨f0, hf0⟩ := hq.2.1 3 (by omega)
  have hpre : ∀ i, i < 3 → upd fl 2 (nI j) i = nI (pu l 2 j i) := by
    intro i hi
    by_cases e : i = 2
    · rw [e, pk_us, pu_s]
    · rw [pk_un e, pu_n e]
      exact hfl i (by omega)

  have fin : ∀ (i : Nat) (j5 : Option mx_V) (f1 : Nat → Int64), i = m → (∀ x, 3 ≤ x → x < i → ∀ v, bt (f1 x) v ↔ ocd n N ch m 3 (pu l 2 j) x v) → Rr 73 [some (mx_r 15), some (mx_i (nI j)), some (mx_i (nI 2)), some (mx_i (nI m)), some (mx_i (nI i)), j5, none] [] (mx_put (mx_put F 18 (mx_ia 5 (upd fl 2 (nI j)))) (24 + 3) (mx_la 5 f1)) 0 0 := by
    intro i j5 f1 hi ho
    have hg : sfr 2 F (mx_put (mx_put F 18 (mx_ia 5 (upd fl 2 (nI j)))) (24 + 3) (mx_la 5 f1)) := sfr_tr sfr_18 (sfr_o (by omega))
    have hqg : qrw (mx_put (mx_put F 18 (mx_ia 5 (upd fl 2 (nI j)))) (24 + 3) (mx_la 5 f1)) := qrw_o (qrw_l hq) (show 3 < 5 by omega)
    generalize hGe : (mx_put (mx_put F 18 (mx_ia 5 (upd fl 2 (nI j)))) (24 + 3) (mx_la 5 f1)) = G at hg hqg ⊢
    have g3 : G 3 = _ := (hg 3 (by omega)).trans h3
    have g4 : G 4 = _ := (hg 4 (by omega)).trans h4
    have g5 : G 5 = _ := (hg 5 (by omega)).trans h5
    have g15 : G 15 = _ := (hg 15 (by omega)).trans h15
    have g16 : G 16 = _ := (hg 16 (by omega)).trans h16
    have g17 : G 17 = _ := (hg 17 (by omega)).trans h17
    have g18 : G 18 = some (mx_ia 5 (upd fl 2 (nI j))) := by rw [← hGe, mx_put_ne (by omega)]; exact mx_put_at _ _ _
    have gor : orw n N ch m 3 (pu l 2 j) G := ⟨f1, by rw [← hGe]; exact mx_put_at _ _ _, fun x h1 h2 v => ho x h1 (by omega) v⟩
    refine go rfl ⟨_, rfl, ?_⟩
    refine go rfl ⟨_, rfl, ?_⟩
    refine go rfl ?_
    refine go rfl ⟨_, _, _, rfl, ?_⟩
    rw [nI_add]
    refine go rfl ⟨_, rfl, ?_⟩
    refine go rfl ⟨_, _, _, _, _, rfl, g15, rfl, rfl, rfl, ⟨n, N, ch, S, lt, st, _, _, m, _, pu l 2 j, rfl, g3, g4, g5, hw, g15, g16, g17, hqg, hm, g18, hpre, hrw_t hh (fun x hx => hg _ (by omega)), gor, by omega, fun F2 f2 q1 q2 q3 => ⟨fun r e q4 => ?_, fun e q4 => ?_⟩⟩⟩
    · refine go rfl ⟨_, rfl, rfl, rfl, (Or.inr rfl), ?_⟩
      exact (hp F2 f2 q1 (sfr_tr hg (sfr_up q2)) q3).1 r e q4
    · refine go rfl ⟨_, rfl, rfl, rfl, (Or.inl rfl), ?_⟩
      refine (hp F2 f2 q1 (sfr_tr hg (sfr_up q2)) q3).2 e (fun x hx => ?_)
      rw [q4 x (by omega), pk_un (by omega)]
  have loop : ∀ (k i : Nat) (j5 : Option mx_V) (f1 : Nat → Int64), i + k = m → 3 ≤ i → (∀ x, 3 ≤ x → x < i → ∀ v, bt (f1 x) v ↔ ocd n N ch m 3 (pu l 2 j) x v) → Rr 12 [some (mx_r 15), some (mx_i (nI j)), some (mx_i (nI 2)), some (mx_i (nI m)), some (mx_i (nI i)), j5, none] [] (mx_put (mx_put F 18 (mx_ia 5 (upd fl 2 (nI j)))) (24 + 3) (mx_la 5 f1)) 0 0 := by
    intro k
    induction k with
    | zero =>
      intro i j5 f1 hi hi2 ho
      refine go rfl ⟨_, rfl, ?_⟩
      refine go rfl ⟨_, rfl, ?_⟩
      refine go rfl ⟨_, _, _, rfl, fun c => ?_, fun c => ?_⟩
      · exact fin i j5 f1 (by omega) ho
      · exact absurd (nI_le (by omega) (by omega)) c
    | succ k ih =>
      intro i j5 f1 hi hi2 ho
      have hg : sfr 2 F (mx_put (mx_put F 18 (mx_ia 5 (upd fl 2 (nI j)))) (24 + 3) (mx_la 5 f1)) := sfr_tr sfr_18 (sfr_o (by omega))
      have hqg : qrw (mx_put (mx_put F 18 (mx_ia 5 (upd fl 2 (nI j)))) (24 + 3) (mx_la 5 f1)) := qrw_o (qrw_l hq) (show 3 < 5 by omega)
      have g24 : (mx_put (mx_put F 18 (mx_ia 5 (upd fl 2 (nI j)))) (24 + 3) (mx_la 5 f1)) (24 + 2) = some (mx_la 5 fo) := (hg (24 + 2) (by omega)).trans hfo
      have g25 : (mx_put (mx_put F 18 (mx_ia 5 (upd fl 2 (nI j)))) (24 + 3) (mx_la 5 f1)) (24 + 3) = some (mx_la 5 f1) := mx_put_at _ _ _
      have g18 : (mx_put (mx_put F 18 (mx_ia 5 (upd fl 2 (nI j)))) (24 + 3) (mx_la 5 f1)) 18 = some (mx_ia 5 (upd fl 2 (nI j))) := by rw [mx_put_ne (by omega)]; exact mx_put_at _ _ _
      have hpp : ∀ f2, mx_put (mx_put (mx_put F 18 (mx_ia 5 (upd fl 2 (nI j)))) (24 + 3) (mx_la 5 f1)) (24 + 3) (mx_la 5 f2) = mx_put (mx_put F 18 (mx_ia 5 (upd fl 2 (nI j)))) (24 + 3) (mx_la 5 f2) := fun f2 => mx_pp _ _ _ _
      have hhv := hrw_t hh (fun x hx => hg (19 + x) (by omega))
      generalize hGe : (mx_put (mx_put F 18 (mx_ia 5 (upd fl 2 (nI j)))) (24 + 3) (mx_la 5 f1)) = G at hg hqg g24 g25 g18 hpp hhv ⊢
      have g3 : G 3 = _ := (hg 3 (by omega)).trans h3
      have g4 : G 4 = _ := (hg 4 (by omega)).trans h4
      have g5 : G 5 = _ := (hg 5 (by omega)).trans h5
      have g15 : G 15 = _ := (hg 15 (by omega)).trans h15
      have g16 : G 16 = _ := (hg 16 (by omega)).trans h16
      have g17 : G 17 = _ := (hg 17 (by omega)).trans h17
      have hG := mx_as6 g3 g4 g5 g15 g16 g17
      obtain ⟨fh, hfh, hs1, hs2⟩ := hhv 2 (by omega)
      obtain ⟨u, hu, eu, ee⟩ := vl_ixe (hw.2.1.2.2 j i hj (by omega))
      have hbit : ∀ v, bt (fo i &&& fh u) v ↔ ocd n N ch m 3 (pu l 2 j) i v := by
        intro v
        rw [bt_and, hob i (by omega) (by omega)]
        constructor
        · rintro ⟨⟨b1, b2, b3⟩, b4⟩
          refine ⟨b1, b2, fun x hx => ?_⟩
          by_cases ex : x = 2
          · rw [ex, pu_s, (hs1 u v hu b4).2.2, ee]
          · rw [pu_n ex]
            exact b3 x (by omega)
        · rintro ⟨b1, b2, b3⟩
          refine ⟨⟨b1, b2, fun x hx => ?_⟩, hs2 u v hu (Or.inl b1) b2 (by omega) ?_⟩
          · have := b3 x (by omega)
            rw [pu_n (by omega)] at this
            exact this
          · have := b3 2 (by omega)
            rw [pu_s, ee] at this
            exact this
      refine go rfl ⟨_, rfl, ?_⟩
      refine go rfl ⟨_, rfl, ?_⟩
      refine go rfl ⟨_, _, _, rfl, fun c => ?_, fun c => ?_⟩
      · exact absurd ((nI_leI (by omega) (by omega)).mp c) (by omega)
      rw [hG]
      refine go rfl ⟨_, rfl, ?_⟩
      refine go rfl ⟨_, _, _, _, rfl, rfl, rfl, ?_⟩
      refine go rfl ⟨_, rfl, ?_⟩
      refine go rfl ⟨_, _, _, _, _, _, _, rfl, rfl, ⟨_, rfl, rfl⟩, (vp_in_nI (show 2 < 5 by omega) (by omega)), (g5_at (show 2 < 5 by omega)), ?_⟩
      refine go rfl ⟨_, rfl, ?_⟩
      rw [← hG]
      refine go rfl ⟨_, _, _, _, _, rfl, g24, vp_in_nI (show i < 5 by omega) (by omega), ?_⟩
      rw [nI_clamp (by omega), hG]
      refine go rfl ⟨_, rfl, ?_⟩
      refine go rfl ⟨_, rfl, ?_⟩
      refine go rfl ⟨_, rfl, ?_⟩
      refine go rfl ⟨_, _, _, _, rfl, rfl, rfl, ?_⟩
      refine go rfl ⟨_, rfl, ?_⟩
      refine go rfl ⟨_, rfl, ?_⟩
      refine go rfl ⟨_, _, _, _, _, rfl, rfl, rfl, rfl, rfl, u_letterOf hw hj (show i < N j by omega) rfl rfl rfl ?_⟩
      rw [← hG, ee]
      refine go rfl ⟨_, _, _, _, _, rfl, g15, rfl, rfl, rfl, ⟨_, _, 2, u, fh, rfl, g15, g16, hfh, by omega, hu, ?_⟩⟩
      refine go rfl ⟨_, _, _, rfl, ?_⟩
      refine go rfl ⟨_, _, rfl, ?_⟩
      refine go rfl ⟨_, rfl, ?_⟩
      refine go rfl ?_
      refine go rfl ⟨_, _, _, rfl, ?_⟩
      refine go rfl ⟨_, _, rfl, fun e => ?_, fun e => ?_⟩
      · rw [hG]
        refine go rfl ⟨_, rfl, ?_⟩
        refine go rfl ⟨_, _, _, _, rfl, rfl, rfl, ?_⟩
        refine go rfl ⟨_, rfl, ?_⟩
        refine go rfl ?_
        refine go rfl ⟨_, _, _, rfl, ?_⟩
        rw [nI_add]
        refine go rfl ⟨_, _, _, _, _, _, _, rfl, rfl, ⟨_, rfl, rfl⟩, (vp_in_nI (show 3 < 5 by omega) (by omega)), (g5_at (show 3 < 5 by omega)), ?_⟩
        refine go rfl ⟨_, rfl, ?_⟩
        refine go rfl ⟨_, rfl, ?_⟩
        rw [← hG]
        refine go rfl ⟨_, _, _, _, _, _, rfl, g25, vp_in_nI (show i < 5 by omega) (by omega), ?_⟩
        rw [nI_clamp (by omega), hpp]
        refine go rfl ⟨_, rfl, ?_⟩
        refine go rfl ?_
        rw [nI_add]
        refine ih (i + 1) _ _ (by omega) (by omega) (fun x h1 h2 v => ?_)
        by_cases ex : x = i
        · rw [ex, pk_uLs]
          exact hbit v
        · rw [pk_uLn ex]
          exact ho x h1 (by omega) v
      · have e := lcmp0.mp e
        refine go rfl ?_
        refine go rfl ⟨_, rfl, rfl, rfl, (Or.inl rfl), ?_⟩
        refine (hp G _ g18 hg hqg).2 ?_ (fun x hx => pk_un (by omega))
        cases hr : sr n N ch m (m - 3) 3 (pu l 2 j) with
        | none => rfl
        | some r =>
          exfalso
          obtain ⟨k1, k2⟩ := sr_ok (q := m - 3) (k := 3) (by omega) hr
          obtain ⟨k3, k4, k5⟩ := k2 i hi2 (by omega)
          have hb := (hbit (r i)).mpr ⟨k3, k4, fun x hx => by rw [k5 x (by omega), k1 x hx]⟩
          rw [e] at hb
          exact bt_0 hb

  have hF := mx_as2 h15 h18
  have hX0 : mx_put F 15 (e_Q qs qt) = F := mx_self h15
  rw [hF]
  refine go rfl ⟨_, rfl, ?_⟩
  refine go rfl ⟨_, _, _, _, rfl, rfl, rfl, ?_⟩
  refine go rfl ⟨_, rfl, ?_⟩
  refine go rfl ⟨_, rfl, ?_⟩
  refine go rfl ⟨_, _, _, _, _, _, rfl, rfl, (vp_in_nI (show 2 < 5 by omega) (by omega)), ?_⟩
  rw [mx_pp, hX0, nI_clamp (show 2 < 2 ^ 31 by omega)]
  refine go rfl ⟨_, rfl, ?_⟩
  refine go rfl ?_
  refine go rfl ⟨_, _, _, rfl, ?_⟩
  rw [nI_add]
  refine go rfl ⟨_, _, rfl, ?_⟩
  have hX : (mx_put F 18 (mx_ia 5 (upd fl 2 (nI j)))) = mx_put (mx_put F 18 (mx_ia 5 (upd fl 2 (nI j)))) (24 + 3) (mx_la 5 f0) := (mx_self (by rw [mx_put_ne (by omega)]; exact hf0)).symm
  rw [hX]
  exact loop (m - 3) 3 none f0 (by omega) (by omega) (fun x h1 h2 => absurd h2 (by omega))
-- LadderWords$Squares.complete(II)Z
def sp_Q_complete2 : mx_Sp := fun As F P => ∃ (n : Nat) (N : Nat → Nat) (ch : Nat → Nat → Int32) (S : Nat → Nat) (lt st : Nat → Int32) (qs qt : Int32) (m : Nat) (fl : Nat → Int32) (l : Nat → Nat), As = [mx_r 15, mx_i (nI 2), mx_i (nI m)] ∧ F 3 = some (e_W n) ∧ F 4 = some (mx_ia 360 lt) ∧ F 5 = some (mx_ia 61 st) ∧ wst n N ch S lt st ∧ F 15 = some (e_Q qs qt) ∧ F 16 = some (mx_qa 2 5 (mx_g5 19)) ∧ F 17 = some (mx_qa 2 5 (mx_g5 24)) ∧ qrw F ∧ m ≤ 5 ∧ F 18 = some (mx_ia 5 fl) ∧ (∀ i, i < 2 → fl i = nI (l i)) ∧ hrw n N ch m n 0 F ∧ orw n N ch m 2 l F ∧ 2 ≤ m ∧ ∀ F' f', F' 18 = some (mx_ia 5 f') → sfr 2 F F' → qrw F' → (∀ r, sr n N ch m (m - 2) 2 l = some r → (∀ i, i < m → f' i = nI (r i)) → P (some (mx_i (nI 1))) F') ∧ (sr n N ch m (m - 2) 2 l = none → (∀ i, i < 2 → f' i = fl i) → P (some (mx_i (nI 0))) F')
abbrev rm_Q_complete2 : Room := { frames := 90, cells := 0, slots := 0, locals := 1800 }
def t_Q_complete2  (P : Option mx_V → mx_F → Prop) : List (Nat × mx_O) := [
  (0, mx_iload 1 1),
  (1, mx_iload 2 2),
  (2, mx_ic_ge 10 5),
  (5, mx_iload 1 6),
  (6, mx_push (.inl (nI 5)) 7),
  (7, mx_ic_lt 12 10),
  (10, mx_push (.inl (nI 1)) 11),
  (11, mx_zret P),
  (12, mx_push (.inl (nI 0)) 13),
  (13, mx_istore 3 14),
  (14, mx_iload 3 15),
  (15, mx_aload 0 16),
  (16, mx_get 4 0 19),
  (19, mx_cv0 5 sp_W_count 0 0 22),
  (22, mx_ic_ge 72 25),
  (25, mx_aload 0 26),
  (26, mx_get 4 2 29),
  (29, mx_iload 1 30),
  (30, mx_aald 31),
  (31, mx_iload 1 32),
  (32, mx_lald 33),
  (33, mx_iload 3 34),
  (34, mx_lushr 35),
  (35, mx_push (.inr (.inl 1)) 36),
  (36, mx_land 37),
  (37, mx_push (.inr (.inl 0)) 38),
  (38, mx_lcmp 39),
  (39, mx_if_eq 46 42),
  (42, mx_push (.inl (nI 1)) 43),
  (43, mx_goto 47),
  (46, mx_push (.inl (nI 0)) 47),
  (47, mx_istore 4 49),
  (49, mx_iload 4 51),
  (51, mx_if_eq 66 54),
  (54, mx_aload 0 55),
  (55, mx_iload 3 56),
  (56, mx_iload 1 57),
  (57, mx_iload 2 58),
  (58, mx_cv3 4 sp_Q_completeWith2 0 0 61),
  (61, mx_if_eq 66 64),
  (64, mx_push (.inl (nI 1)) 65),
  (65, mx_zret P),
  (66, mx_iinc 3 (nI 1) 69),
  (69, mx_goto 14),
  (72, mx_push (.inl (nI 0)) 73),
  (73, mx_zret P)]
set_option maxRecDepth 20000 in
theorem a_Q_complete2  {p : Program} {l : Launch} {e : Env} {s : State} {m : MethodId} {args : Array Value} {below : List Frame} {meth : Method} {c : Code} {D : va_G} {tc : Nat → ClassId} {tb : Nat → Nat} {sz : Nat} {a0 : Nat → Nat} {G : mx_F} {P : Option mx_V → mx_F → Prop}  (C : mx_C p s m args c c_Q_complete y_Q_complete.cls w_Q_complete D tc tb (mx_A a0 G sz) 5 (mx_Ok0 a0 G)) (hr : meth.sig.returnType = (some .boolean)) (hlk : meth.locks = false) : mx_all (mx_W p l e rm_Q_complete2 s m args below meth c (MQ below (mx_Q D tc tb a0 G sz P) args s 0 0 (mx_A a0 G sz)) D tc tb (mx_A a0 G sz) 5 (mx_Ok0 a0 G)) (t_Q_complete2  P) :=
  ⟨mx_s_iload_n C d_Q_complete_0 rfl,
  mx_s_iload_n C d_Q_complete_1 rfl,
  mx_s_ic_ge C d_Q_complete_2 (by decide),
  mx_s_iload_n C d_Q_complete_5 rfl,
  mx_s_iconst C d_Q_complete_6 (by decide),
  mx_s_ic_lt C d_Q_complete_7 (by decide),
  mx_s_iconst C d_Q_complete_10 (by decide),
  mx_s_zret C hr hlk d_Q_complete_11,
  mx_s_iconst C d_Q_complete_12 (by decide),
  mx_s_istore_n C d_Q_complete_13 rfl (by decide),
  mx_s_iload_n C d_Q_complete_14 rfl,
  mx_s_aload_n C d_Q_complete_15 rfl,
  mx_s_get (T := T_Q) (N := 6) (k := 0) C (fun w h => List.mem_cons_of_mem _ (in_Q w h)) rfl (by decide) (List.mem_cons_of_mem _ fk_Q_23) rfl d_Q_complete_16,
  mx_s_cv0 C (m_W_count l) rfl (cwV 0 C.2.2.2.2.1 (mx_gV (fun w h => List.mem_cons_of_mem _ h) mk_Q_39 im_W_count se_W_count ic_W co_W_count) rfl rfl rfl (by decide +kernel) ⟨by decide, by decide⟩) d_Q_complete_19 ⟨Nat.zero_le _, Nat.zero_le _⟩,
  mx_s_ic_ge C d_Q_complete_22 (by decide),
  mx_s_aload_n C d_Q_complete_25 rfl,
  mx_s_get (T := T_Q) (N := 6) (k := 2) C (fun w h => List.mem_cons_of_mem _ (in_Q w h)) rfl (by decide) (List.mem_cons_of_mem _ fk_Q_16) rfl d_Q_complete_26,
  mx_s_iload_n C d_Q_complete_29 rfl,
  mx_s_aald C d_Q_complete_30,
  mx_s_iload_n C d_Q_complete_31 rfl,
  mx_s_lald C d_Q_complete_32,
  mx_s_iload_n C d_Q_complete_33 rfl,
  mx_s_lushr C d_Q_complete_34,
  mx_s_lconst C d_Q_complete_35 (by decide),
  mx_s_land C d_Q_complete_36,
  mx_s_lconst C d_Q_complete_37 (by decide),
  mx_s_lcmp C d_Q_complete_38,
  mx_s_if_eq C d_Q_complete_39 (by decide),
  mx_s_iconst C d_Q_complete_42 (by decide),
  mx_s_goto C d_Q_complete_43 (by decide),
  mx_s_iconst C d_Q_complete_46 (by decide),
  mx_s_istore C d_Q_complete_47 (by decide),
  mx_s_iload C d_Q_complete_49,
  mx_s_if_eq C d_Q_complete_51 (by decide),
  mx_s_aload_n C d_Q_complete_54 rfl,
  mx_s_iload_n C d_Q_complete_55 rfl,
  mx_s_iload_n C d_Q_complete_56 rfl,
  mx_s_iload_n C d_Q_complete_57 rfl,
  mx_s_cv3 C (m_Q_completeWith2 l) rfl (cwV 3 C.2.2.2.2.1 (mx_gV (fun w h => List.mem_cons_of_mem _ h) mk_Q_60 im_Q_completeWith se_Q_completeWith ic_Q co_Q_completeWith) rfl rfl rfl (by decide +kernel) ⟨by decide, by decide⟩) d_Q_complete_58 ⟨Nat.zero_le _, Nat.zero_le _⟩,
  mx_s_if_eq C d_Q_complete_61 (by decide),
  mx_s_iconst C d_Q_complete_64 (by decide),
  mx_s_zret C hr hlk d_Q_complete_65,
  mx_s_iinc C d_Q_complete_66 (by decide) (by decide),
  mx_s_goto C d_Q_complete_69 (by decide),
  mx_s_iconst C d_Q_complete_72 (by decide),
  mx_s_zret C hr hlk d_Q_complete_73,
  trivial⟩
set_option maxRecDepth 20000 in
set_option maxHeartbeats 2000000 in
theorem m_Q_complete2 (l : Launch) : mx_M l y_Q_complete w_Q_complete rm_Q_complete2 sp_Q_complete2 := by
  intro zD ztc ztb zad As F P sz0 h
  obtain ⟨n, N, ch, S, lt, st, qs, qt, m, fl, l, rfl, h3, h4, h5, hw, h15, h16, h17, hq, hm, h18, hfl, hh, hor, hdm, hp⟩ := h
  refine mx_run (cc := c_Q_complete) (maxL := 5) (ret := (some .boolean)) (tab := t_Q_complete2  P) (by decide) rfl zD ztc ztb zad _ F P sz0 (Nat.le_of_ble_eq_true rfl) (fun p e s m args below meth c C hr hlk => a_Q_complete2  C hr hlk) ?_
  intro Rr go
  have hn := hw.1.1
  obtain ⟨fo, hfo, hob⟩ := id hor
  rcases Nat.lt_or_ge 2 m with hd | hd
  rotate_left
  · refine go rfl ⟨_, rfl, ?_⟩
    refine go rfl ⟨_, rfl, ?_⟩
    refine go rfl ⟨_, _, _, rfl, fun c => ?_, fun c => ?_⟩
    · refine go rfl ?_
      refine go rfl ⟨_, rfl, rfl, rfl, (Or.inr rfl), ?_⟩
      refine (hp F fl h18 (sfr_rf 2 F) hq).1 l ?_ (fun i hi => hfl i (by omega))
      rw [show m - 2 = 0 by omega]
      rfl
    · exact absurd (nI_le hd (by omega)) c
  refine go rfl ⟨_, rfl, ?_⟩
  refine go rfl ⟨_, rfl, ?_⟩
  refine go rfl ⟨_, _, _, rfl, fun c => ?_, fun c => ?_⟩
  · exact absurd ((nI_leI (by omega) (by omega)).mp c) (by omega)
  refine go rfl ⟨_, rfl, ?_⟩
  refine go rfl ?_
  refine go rfl ⟨_, _, _, rfl, fun c2 => ?_, fun c2 => ?_⟩
  rotate_left
  · exact absurd (nI_lt (show 2 < 5 by omega) (by omega)) c2
  have hsr : sr n N ch m (m - 2) 2 l = scf (sv n N ch m (m - 3) 2 l) 0 n := by
    rw [show m - 2 = m - 3 + 1 by omega, sr_s]
  have loop : ∀ (k v : Nat) (jk : Option mx_V) (G : mx_F) (f2 : Nat → Int32), v + k = n → sfr 2 F G → qrw G → G 18 = some (mx_ia 5 f2) → (∀ i, i < 2 → f2 i = fl i) → sr n N ch m (m - 2) 2 l = scf (sv n N ch m (m - 3) 2 l) v k → Rr 14 [some (mx_r 15), some (mx_i (nI 2)), some (mx_i (nI m)), some (mx_i (nI v)), jk] [] G 0 0 := by
    intro k
    induction k with
    | zero =>
      intro v jk G f2 hv hg hqg g18 hf2 hs
      have g3 : G 3 = _ := (hg 3 (by omega)).trans h3
      have g15 : G 15 = _ := (hg 15 (by omega)).trans h15
      have hG := mx_as2 g3 g15
      rw [hG]
      refine go rfl ⟨_, rfl, ?_⟩
      refine go rfl ⟨_, rfl, ?_⟩
      refine go rfl ⟨_, _, _, _, rfl, rfl, rfl, ?_⟩
      refine go rfl ⟨_, _, _, rfl, rfl, rfl, rfl, rfl, ⟨n, rfl, rfl, ?_⟩⟩
      rw [← hG]
      refine go rfl ⟨_, _, _, rfl, fun c3 => ?_, fun c3 => ?_⟩
      · refine go rfl ?_
        refine go rfl ⟨_, rfl, rfl, rfl, (Or.inl rfl), ?_⟩
        exact (hp G f2 g18 hg hqg).2 hs hf2
      · exact absurd (nI_le (by omega) (by omega)) c3
    | succ k ih =>
      intro v jk G f2 hv hg hqg g18 hf2 hs
      have g3 : G 3 = _ := (hg 3 (by omega)).trans h3
      have g4 : G 4 = _ := (hg 4 (by omega)).trans h4
      have g5 : G 5 = _ := (hg 5 (by omega)).trans h5
      have g15 : G 15 = _ := (hg 15 (by omega)).trans h15
      have g16 : G 16 = _ := (hg 16 (by omega)).trans h16
      have g17 : G 17 = _ := (hg 17 (by omega)).trans h17
      have g24 : G (24 + 2) = some (mx_la 5 fo) := (hg (24 + 2) (by omega)).trans hfo
      have hG := mx_as3 g3 g15 g17
      have hvn : v < n := by omega
      have next : sv n N ch m (m - 3) 2 l v = none → ∀ (jk : Option mx_V) (G : mx_F) (f2 : Nat → Int32), sfr 2 F G → qrw G → G 18 = some (mx_ia 5 f2) → (∀ i, i < 2 → f2 i = fl i) → Rr 66 [some (mx_r 15), some (mx_i (nI 2)), some (mx_i (nI m)), some (mx_i (nI v)), jk] [] G 0 0 := by
        intro hno jk G f2 hg hqg g18 hf2
        refine go rfl ⟨_, rfl, ?_⟩
        refine go rfl ?_
        rw [nI_add]
        refine ih (v + 1) _ G f2 (by omega) hg hqg g18 hf2 ?_
        rw [hs, scf_n hno]
      rw [hG]
      refine go rfl ⟨_, rfl, ?_⟩
      refine go rfl ⟨_, rfl, ?_⟩
      refine go rfl ⟨_, _, _, _, rfl, rfl, rfl, ?_⟩
      refine go rfl ⟨_, _, _, rfl, rfl, rfl, rfl, rfl, ⟨n, rfl, rfl, ?_⟩⟩
      refine go rfl ⟨_, _, _, rfl, fun c3 => ?_, fun c3 => ?_⟩
      · exact absurd ((nI_leI (by omega) (by omega)).mp c3) (by omega)
      refine go rfl ⟨_, rfl, ?_⟩
      refine go rfl ⟨_, _, _, _, rfl, rfl, rfl, ?_⟩
      refine go rfl ⟨_, rfl, ?_⟩
      refine go rfl ⟨_, _, _, _, _, _, _, rfl, rfl, ⟨_, rfl, rfl⟩, (vp_in_nI (show 2 < 5 by omega) (by omega)), (g5_at (show 2 < 5 by omega)), ?_⟩
      refine go rfl ⟨_, rfl, ?_⟩
      rw [← hG]
      refine go rfl ⟨_, _, _, _, _, rfl, g24, vp_in_nI (show 2 < 5 by omega) (by omega), ?_⟩
      rw [nI_clamp (show 2 < 2 ^ 31 by omega)]
      refine go rfl ⟨_, rfl, ?_⟩
      refine go rfl ⟨_, _, _, rfl, ?_⟩
      refine go rfl ?_
      refine go rfl ⟨_, _, _, rfl, ?_⟩
      refine go rfl ?_
      refine go rfl ⟨_, _, _, rfl, ?_⟩
      have hbv := hob 2 (Nat.le_refl _) hd v
      refine go rfl ⟨_, _, rfl, fun e => ?_, fun e => ?_⟩
      · have e := (bt_may (by omega)).mp (lcmp0.mp e)
        have hnc : ¬ cand N ch m 2 l v := fun h => e (hbv.mpr ⟨hvn, h.1, h.2⟩)
        refine go rfl ?_
        refine go rfl ⟨_, _, rfl, ?_⟩
        refine go rfl ⟨_, rfl, ?_⟩
        refine go rfl ⟨_, _, rfl, fun e2 => ?_, fun e2 => ?_⟩
        · exact next (sv_n hnc) _ G f2 hg hqg g18 hf2
        · exact absurd rfl e2
      have e : bt (fo 2) v := Classical.byContradiction (fun q => e (lcmp0.mpr ((bt_may (by omega)).mpr q)))
      have hcd : cand N ch m 2 l v := ⟨(hbv.mp e).2.1, (hbv.mp e).2.2⟩
      refine go rfl ?_
      refine go rfl ?_
      refine go rfl ⟨_, _, rfl, ?_⟩
      refine go rfl ⟨_, rfl, ?_⟩
      refine go rfl ⟨_, _, rfl, fun e2 => ?_, fun e2 => ?_⟩
      · exact absurd e2 (by decide)
      refine go rfl ⟨_, rfl, ?_⟩
      refine go rfl ⟨_, rfl, ?_⟩
      refine go rfl ⟨_, rfl, ?_⟩
      refine go rfl ⟨_, rfl, ?_⟩
      refine go rfl ⟨_, _, _, _, _, _, rfl, g15, rfl, rfl, rfl, ⟨n, N, ch, S, lt, st, _, _, m, f2, l, v, rfl, g3, g4, g5, hw, g15, g16, g17, hqg, hm, g18, fun i hi => (hf2 i hi).trans (hfl i hi), hrw_t hh (fun x hx => hg _ (by omega)), ⟨fo, g24, hob⟩, hvn, hd, hcd.1, fun F2 f3 q1 q2 q3 => ⟨fun r e5 q4 => ?_, fun e5 q4 => ?_⟩⟩⟩
      · refine go rfl ⟨_, _, rfl, fun e3 => ?_, fun e3 => ?_⟩
        · exact absurd e3 (by decide)
        refine go rfl ?_
        refine go rfl ⟨_, rfl, rfl, rfl, (Or.inr rfl), ?_⟩
        refine (hp F2 f3 q1 (sfr_tr hg q2) q3).1 r ?_ q4
        rw [hs]
        exact scf_s (by rw [sv_y hcd]; exact e5)
      · refine go rfl ⟨_, _, rfl, fun e3 => ?_, fun e3 => ?_⟩
        · refine next (by rw [sv_y hcd]; exact e5) _ F2 f3 (sfr_tr hg q2) q3 q1 (fun i hi => ?_)
          rw [q4 i hi]
          exact hf2 i hi
        · exact absurd rfl e3
  refine go rfl ?_
  refine go rfl ⟨_, _, rfl, ?_⟩
  exact loop n 0 none F fl (by omega) (sfr_rf 2 F) hq h18 (fun _ _ => rfl) hsr
-- LadderWords$Squares.completeWith(III)Z
def sp_Q_completeWith1 : mx_Sp := fun As F P => ∃ (n : Nat) (N : Nat → Nat) (ch : Nat → Nat → Int32) (S : Nat → Nat) (lt st : Nat → Int32) (qs qt : Int32) (m : Nat) (fl : Nat → Int32) (l : Nat → Nat) (j : Nat), As = [mx_r 15, mx_i (nI j), mx_i (nI 1), mx_i (nI m)] ∧ F 3 = some (e_W n) ∧ F 4 = some (mx_ia 360 lt) ∧ F 5 = some (mx_ia 61 st) ∧ wst n N ch S lt st ∧ F 15 = some (e_Q qs qt) ∧ F 16 = some (mx_qa 2 5 (mx_g5 19)) ∧ F 17 = some (mx_qa 2 5 (mx_g5 24)) ∧ qrw F ∧ m ≤ 5 ∧ F 18 = some (mx_ia 5 fl) ∧ (∀ i, i < 1 → fl i = nI (l i)) ∧ hrw n N ch m n 0 F ∧ orw n N ch m 1 l F ∧ j < n ∧ 1 < m ∧ N j = m ∧ ∀ F' f', F' 18 = some (mx_ia 5 f') → sfr 1 F F' → qrw F' → (∀ r, sr n N ch m (m - 2) 2 (pu l 1 j) = some r → (∀ i, i < m → f' i = nI (r i)) → P (some (mx_i (nI 1))) F') ∧ (sr n N ch m (m - 2) 2 (pu l 1 j) = none → (∀ i, i < 1 → f' i = fl i) → P (some (mx_i (nI 0))) F')
abbrev rm_Q_completeWith1 : Room := { frames := 100, cells := 0, slots := 0, locals := 2000 }
def t_Q_completeWith1  (P : Option mx_V → mx_F → Prop) : List (Nat × mx_O) := [
  (0, mx_aload 0 1),
  (1, mx_get 4 3 4),
  (4, mx_iload 2 5),
  (5, mx_iload 1 6),
  (6, mx_iast 7),
  (7, mx_iload 2 8),
  (8, mx_push (.inl (nI 1)) 9),
  (9, mx_iadd 10),
  (10, mx_istore 4 12),
  (12, mx_iload 4 14),
  (14, mx_iload 3 15),
  (15, mx_ic_ge 73 18),
  (18, mx_aload 0 19),
  (19, mx_get 4 2 22),
  (22, mx_iload 2 23),
  (23, mx_aald 24),
  (24, mx_iload 4 26),
  (26, mx_lald 27),
  (27, mx_aload 0 28),
  (28, mx_iload 2 29),
  (29, mx_aload 0 30),
  (30, mx_get 4 0 33),
  (33, mx_iload 1 34),
  (34, mx_iload 4 36),
  (36, mx_cv2 5 sp_W_letterOf 0 0 39),
  (39, mx_cv2 4 sp_Q_wordsWith 0 0 42),
  (42, mx_land 43),
  (43, mx_lstore 5 45),
  (45, mx_lload 5 47),
  (47, mx_push (.inr (.inl 0)) 48),
  (48, mx_lcmp 49),
  (49, mx_if_ne 54 52),
  (52, mx_push (.inl (nI 0)) 53),
  (53, mx_zret P),
  (54, mx_aload 0 55),
  (55, mx_get 4 2 58),
  (58, mx_iload 2 59),
  (59, mx_push (.inl (nI 1)) 60),
  (60, mx_iadd 61),
  (61, mx_aald 62),
  (62, mx_iload 4 64),
  (64, mx_lload 5 66),
  (66, mx_last 67),
  (67, mx_iinc 4 (nI 1) 70),
  (70, mx_goto 12),
  (73, mx_aload 0 74),
  (74, mx_iload 2 75),
  (75, mx_push (.inl (nI 1)) 76),
  (76, mx_iadd 77),
  (77, mx_iload 3 78),
  (78, mx_cv2 4 sp_Q_complete2 0 0 81),
  (81, mx_zret P)]
set_option maxRecDepth 20000 in
theorem a_Q_completeWith1  {p : Program} {l : Launch} {e : Env} {s : State} {m : MethodId} {args : Array Value} {below : List Frame} {meth : Method} {c : Code} {D : va_G} {tc : Nat → ClassId} {tb : Nat → Nat} {sz : Nat} {a0 : Nat → Nat} {G : mx_F} {P : Option mx_V → mx_F → Prop}  (C : mx_C p s m args c c_Q_completeWith y_Q_completeWith.cls w_Q_completeWith D tc tb (mx_A a0 G sz) 7 (mx_Ok0 a0 G)) (hr : meth.sig.returnType = (some .boolean)) (hlk : meth.locks = false) : mx_all (mx_W p l e rm_Q_completeWith1 s m args below meth c (MQ below (mx_Q D tc tb a0 G sz P) args s 0 0 (mx_A a0 G sz)) D tc tb (mx_A a0 G sz) 7 (mx_Ok0 a0 G)) (t_Q_completeWith1  P) :=
  ⟨mx_s_aload_n C d_Q_completeWith_0 rfl,
  mx_s_get (T := T_Q) (N := 6) (k := 3) C (fun w h => List.mem_cons_of_mem _ (in_Q w h)) rfl (by decide) (List.mem_cons_of_mem _ fk_Q_19) rfl d_Q_completeWith_1,
  mx_s_iload_n C d_Q_completeWith_4 rfl,
  mx_s_iload_n C d_Q_completeWith_5 rfl,
  mx_s_iast C d_Q_completeWith_6,
  mx_s_iload_n C d_Q_completeWith_7 rfl,
  mx_s_iconst C d_Q_completeWith_8 (by decide),
  mx_s_iadd C d_Q_completeWith_9,
  mx_s_istore C d_Q_completeWith_10 (by decide),
  mx_s_iload C d_Q_completeWith_12,
  mx_s_iload_n C d_Q_completeWith_14 rfl,
  mx_s_ic_ge C d_Q_completeWith_15 (by decide),
  mx_s_aload_n C d_Q_completeWith_18 rfl,
  mx_s_get (T := T_Q) (N := 6) (k := 2) C (fun w h => List.mem_cons_of_mem _ (in_Q w h)) rfl (by decide) (List.mem_cons_of_mem _ fk_Q_16) rfl d_Q_completeWith_19,
  mx_s_iload_n C d_Q_completeWith_22 rfl,
  mx_s_aald C d_Q_completeWith_23,
  mx_s_iload C d_Q_completeWith_24,
  mx_s_lald C d_Q_completeWith_26,
  mx_s_aload_n C d_Q_completeWith_27 rfl,
  mx_s_iload_n C d_Q_completeWith_28 rfl,
  mx_s_aload_n C d_Q_completeWith_29 rfl,
  mx_s_get (T := T_Q) (N := 6) (k := 0) C (fun w h => List.mem_cons_of_mem _ (in_Q w h)) rfl (by decide) (List.mem_cons_of_mem _ fk_Q_23) rfl d_Q_completeWith_30,
  mx_s_iload_n C d_Q_completeWith_33 rfl,
  mx_s_iload C d_Q_completeWith_34,
  mx_s_cv2 C (m_W_letterOf l) rfl (cwV 2 C.2.2.2.2.1 (mx_gV (fun w h => List.mem_cons_of_mem _ h) mk_Q_56 im_W_letterOf se_W_letterOf ic_W co_W_letterOf) rfl rfl rfl (by decide +kernel) ⟨by decide, by decide⟩) d_Q_completeWith_36 ⟨Nat.zero_le _, Nat.zero_le _⟩,
  mx_s_cv2 C (m_Q_wordsWith l) rfl (cwV 2 C.2.2.2.2.1 (mx_gV (fun w h => List.mem_cons_of_mem _ h) mk_Q_64 im_Q_wordsWith se_Q_wordsWith ic_Q co_Q_wordsWith) rfl rfl rfl (by decide +kernel) ⟨by decide, by decide⟩) d_Q_completeWith_39 ⟨Nat.zero_le _, Nat.zero_le _⟩,
  mx_s_land C d_Q_completeWith_42,
  mx_s_lstore C d_Q_completeWith_43 (by decide),
  mx_s_lload C d_Q_completeWith_45,
  mx_s_lconst C d_Q_completeWith_47 (by decide),
  mx_s_lcmp C d_Q_completeWith_48,
  mx_s_if_ne C d_Q_completeWith_49 (by decide),
  mx_s_iconst C d_Q_completeWith_52 (by decide),
  mx_s_zret C hr hlk d_Q_completeWith_53,
  mx_s_aload_n C d_Q_completeWith_54 rfl,
  mx_s_get (T := T_Q) (N := 6) (k := 2) C (fun w h => List.mem_cons_of_mem _ (in_Q w h)) rfl (by decide) (List.mem_cons_of_mem _ fk_Q_16) rfl d_Q_completeWith_55,
  mx_s_iload_n C d_Q_completeWith_58 rfl,
  mx_s_iconst C d_Q_completeWith_59 (by decide),
  mx_s_iadd C d_Q_completeWith_60,
  mx_s_aald C d_Q_completeWith_61,
  mx_s_iload C d_Q_completeWith_62,
  mx_s_lload C d_Q_completeWith_64,
  mx_s_last C d_Q_completeWith_66,
  mx_s_iinc C d_Q_completeWith_67 (by decide) (by decide),
  mx_s_goto C d_Q_completeWith_70 (by decide),
  mx_s_aload_n C d_Q_completeWith_73 rfl,
  mx_s_iload_n C d_Q_completeWith_74 rfl,
  mx_s_iconst C d_Q_completeWith_75 (by decide),
  mx_s_iadd C d_Q_completeWith_76,
  mx_s_iload_n C d_Q_completeWith_77 rfl,
  mx_s_cv2 C (m_Q_complete2 l) rfl (cwV 2 C.2.2.2.2.1 (mx_gV (fun w h => List.mem_cons_of_mem _ h) mk_Q_35 im_Q_complete se_Q_complete ic_Q co_Q_complete) rfl rfl rfl (by decide +kernel) ⟨by decide, by decide⟩) d_Q_completeWith_78 ⟨Nat.zero_le _, Nat.zero_le _⟩,
  mx_s_zret C hr hlk d_Q_completeWith_81,
  trivial⟩
set_option maxRecDepth 20000 in
set_option maxHeartbeats 2000000 in
theorem m_Q_completeWith1 (l : Launch) : mx_M l y_Q_completeWith w_Q_completeWith rm_Q_completeWith1 sp_Q_completeWith1 := by
  intro zD ztc ztb zad As F P sz0 h
  obtain ⟨n, N, ch, S, lt, st, qs, qt, m, fl, l, j, rfl, h3, h4, h5, hw, h15, h16, h17, hq, hm, h18, hfl, hh, hor, hj, hd, hN, hp⟩ := h
  refine mx_run (cc := c_Q_completeWith) (maxL := 7) (ret := (some .boolean)) (tab := t_Q_completeWith1  P) (by decide) rfl zD ztc ztb zad _ F P sz0 (Nat.le_of_ble_eq_true rfl) (fun p e s m args below meth c C hr hlk => a_Q_completeWith1  C hr hlk) ?_
  intro Rr go
  have hn := hw.1.1
  obtain ⟨fo, hfo, hob⟩ := hor
  obtain ⟨f0, hf0⟩ := hq.2.1 2 (by omega)
  have hpre : ∀ i, i < 2 → upd fl 1 (nI j) i = nI (pu l 1 j i) := by
    intro i hi
    by_cases e : i = 1
    · rw [e, pk_us, pu_s]
    · rw [pk_un e, pu_n e]
      exact hfl i (by omega)

  have fin : ∀ (i : Nat) (j5 : Option mx_V) (f1 : Nat → Int64), i = m → (∀ x, 2 ≤ x → x < i → ∀ v, bt (f1 x) v ↔ ocd n N ch m 2 (pu l 1 j) x v) → Rr 73 [some (mx_r 15), some (mx_i (nI j)), some (mx_i (nI 1)), some (mx_i (nI m)), some (mx_i (nI i)), j5, none] [] (mx_put (mx_put F 18 (mx_ia 5 (upd fl 1 (nI j)))) (24 + 2) (mx_la 5 f1)) 0 0 := by
    intro i j5 f1 hi ho
    have hg : sfr 1 F (mx_put (mx_put F 18 (mx_ia 5 (upd fl 1 (nI j)))) (24 + 2) (mx_la 5 f1)) := sfr_tr sfr_18 (sfr_o (by omega))
    have hqg : qrw (mx_put (mx_put F 18 (mx_ia 5 (upd fl 1 (nI j)))) (24 + 2) (mx_la 5 f1)) := qrw_o (qrw_l hq) (show 2 < 5 by omega)
    generalize hGe : (mx_put (mx_put F 18 (mx_ia 5 (upd fl 1 (nI j)))) (24 + 2) (mx_la 5 f1)) = G at hg hqg ⊢
    have g3 : G 3 = _ := (hg 3 (by omega)).trans h3
    have g4 : G 4 = _ := (hg 4 (by omega)).trans h4
    have g5 : G 5 = _ := (hg 5 (by omega)).trans h5
    have g15 : G 15 = _ := (hg 15 (by omega)).trans h15
    have g16 : G 16 = _ := (hg 16 (by omega)).trans h16
    have g17 : G 17 = _ := (hg 17 (by omega)).trans h17
    have g18 : G 18 = some (mx_ia 5 (upd fl 1 (nI j))) := by rw [← hGe, mx_put_ne (by omega)]; exact mx_put_at _ _ _
    have gor : orw n N ch m 2 (pu l 1 j) G := ⟨f1, by rw [← hGe]; exact mx_put_at _ _ _, fun x h1 h2 v => ho x h1 (by omega) v⟩
    refine go rfl ⟨_, rfl, ?_⟩
    refine go rfl ⟨_, rfl, ?_⟩
    refine go rfl ?_
    refine go rfl ⟨_, _, _, rfl, ?_⟩
    rw [nI_add]
    refine go rfl ⟨_, rfl, ?_⟩
    refine go rfl ⟨_, _, _, _, _, rfl, g15, rfl, rfl, rfl, ⟨n, N, ch, S, lt, st, _, _, m, _, pu l 1 j, rfl, g3, g4, g5, hw, g15, g16, g17, hqg, hm, g18, hpre, hrw_t hh (fun x hx => hg _ (by omega)), gor, by omega, fun F2 f2 q1 q2 q3 => ⟨fun r e q4 => ?_, fun e q4 => ?_⟩⟩⟩
    · refine go rfl ⟨_, rfl, rfl, rfl, (Or.inr rfl), ?_⟩
      exact (hp F2 f2 q1 (sfr_tr hg (sfr_up q2)) q3).1 r e q4
    · refine go rfl ⟨_, rfl, rfl, rfl, (Or.inl rfl), ?_⟩
      refine (hp F2 f2 q1 (sfr_tr hg (sfr_up q2)) q3).2 e (fun x hx => ?_)
      rw [q4 x (by omega), pk_un (by omega)]
  have loop : ∀ (k i : Nat) (j5 : Option mx_V) (f1 : Nat → Int64), i + k = m → 2 ≤ i → (∀ x, 2 ≤ x → x < i → ∀ v, bt (f1 x) v ↔ ocd n N ch m 2 (pu l 1 j) x v) → Rr 12 [some (mx_r 15), some (mx_i (nI j)), some (mx_i (nI 1)), some (mx_i (nI m)), some (mx_i (nI i)), j5, none] [] (mx_put (mx_put F 18 (mx_ia 5 (upd fl 1 (nI j)))) (24 + 2) (mx_la 5 f1)) 0 0 := by
    intro k
    induction k with
    | zero =>
      intro i j5 f1 hi hi2 ho
      refine go rfl ⟨_, rfl, ?_⟩
      refine go rfl ⟨_, rfl, ?_⟩
      refine go rfl ⟨_, _, _, rfl, fun c => ?_, fun c => ?_⟩
      · exact fin i j5 f1 (by omega) ho
      · exact absurd (nI_le (by omega) (by omega)) c
    | succ k ih =>
      intro i j5 f1 hi hi2 ho
      have hg : sfr 1 F (mx_put (mx_put F 18 (mx_ia 5 (upd fl 1 (nI j)))) (24 + 2) (mx_la 5 f1)) := sfr_tr sfr_18 (sfr_o (by omega))
      have hqg : qrw (mx_put (mx_put F 18 (mx_ia 5 (upd fl 1 (nI j)))) (24 + 2) (mx_la 5 f1)) := qrw_o (qrw_l hq) (show 2 < 5 by omega)
      have g24 : (mx_put (mx_put F 18 (mx_ia 5 (upd fl 1 (nI j)))) (24 + 2) (mx_la 5 f1)) (24 + 1) = some (mx_la 5 fo) := (hg (24 + 1) (by omega)).trans hfo
      have g25 : (mx_put (mx_put F 18 (mx_ia 5 (upd fl 1 (nI j)))) (24 + 2) (mx_la 5 f1)) (24 + 2) = some (mx_la 5 f1) := mx_put_at _ _ _
      have g18 : (mx_put (mx_put F 18 (mx_ia 5 (upd fl 1 (nI j)))) (24 + 2) (mx_la 5 f1)) 18 = some (mx_ia 5 (upd fl 1 (nI j))) := by rw [mx_put_ne (by omega)]; exact mx_put_at _ _ _
      have hpp : ∀ f2, mx_put (mx_put (mx_put F 18 (mx_ia 5 (upd fl 1 (nI j)))) (24 + 2) (mx_la 5 f1)) (24 + 2) (mx_la 5 f2) = mx_put (mx_put F 18 (mx_ia 5 (upd fl 1 (nI j)))) (24 + 2) (mx_la 5 f2) := fun f2 => mx_pp _ _ _ _
      have hhv := hrw_t hh (fun x hx => hg (19 + x) (by omega))
      generalize hGe : (mx_put (mx_put F 18 (mx_ia 5 (upd fl 1 (nI j)))) (24 + 2) (mx_la 5 f1)) = G at hg hqg g24 g25 g18 hpp hhv ⊢
      have g3 : G 3 = _ := (hg 3 (by omega)).trans h3
      have g4 : G 4 = _ := (hg 4 (by omega)).trans h4
      have g5 : G 5 = _ := (hg 5 (by omega)).trans h5
      have g15 : G 15 = _ := (hg 15 (by omega)).trans h15
      have g16 : G 16 = _ := (hg 16 (by omega)).trans h16
      have g17 : G 17 = _ := (hg 17 (by omega)).trans h17
      have hG := mx_as6 g3 g4 g5 g15 g16 g17
      obtain ⟨fh, hfh, hs1, hs2⟩ := hhv 1 (by omega)
      obtain ⟨u, hu, eu, ee⟩ := vl_ixe (hw.2.1.2.2 j i hj (by omega))
      have hbit : ∀ v, bt (fo i &&& fh u) v ↔ ocd n N ch m 2 (pu l 1 j) i v := by
        intro v
        rw [bt_and, hob i (by omega) (by omega)]
        constructor
        · rintro ⟨⟨b1, b2, b3⟩, b4⟩
          refine ⟨b1, b2, fun x hx => ?_⟩
          by_cases ex : x = 1
          · rw [ex, pu_s, (hs1 u v hu b4).2.2, ee]
          · rw [pu_n ex]
            exact b3 x (by omega)
        · rintro ⟨b1, b2, b3⟩
          refine ⟨⟨b1, b2, fun x hx => ?_⟩, hs2 u v hu (Or.inl b1) b2 (by omega) ?_⟩
          · have := b3 x (by omega)
            rw [pu_n (by omega)] at this
            exact this
          · have := b3 1 (by omega)
            rw [pu_s, ee] at this
            exact this
      refine go rfl ⟨_, rfl, ?_⟩
      refine go rfl ⟨_, rfl, ?_⟩
      refine go rfl ⟨_, _, _, rfl, fun c => ?_, fun c => ?_⟩
      · exact absurd ((nI_leI (by omega) (by omega)).mp c) (by omega)
      rw [hG]
      refine go rfl ⟨_, rfl, ?_⟩
      refine go rfl ⟨_, _, _, _, rfl, rfl, rfl, ?_⟩
      refine go rfl ⟨_, rfl, ?_⟩
      refine go rfl ⟨_, _, _, _, _, _, _, rfl, rfl, ⟨_, rfl, rfl⟩, (vp_in_nI (show 1 < 5 by omega) (by omega)), (g5_at (show 1 < 5 by omega)), ?_⟩
      refine go rfl ⟨_, rfl, ?_⟩
      rw [← hG]
      refine go rfl ⟨_, _, _, _, _, rfl, g24, vp_in_nI (show i < 5 by omega) (by omega), ?_⟩
      rw [nI_clamp (by omega), hG]
      refine go rfl ⟨_, rfl, ?_⟩
      refine go rfl ⟨_, rfl, ?_⟩
      refine go rfl ⟨_, rfl, ?_⟩
      refine go rfl ⟨_, _, _, _, rfl, rfl, rfl, ?_⟩
      refine go rfl ⟨_, rfl, ?_⟩
      refine go rfl ⟨_, rfl, ?_⟩
      refine go rfl ⟨_, _, _, _, _, rfl, rfl, rfl, rfl, rfl, u_letterOf hw hj (show i < N j by omega) rfl rfl rfl ?_⟩
      rw [← hG, ee]
      refine go rfl ⟨_, _, _, _, _, rfl, g15, rfl, rfl, rfl, ⟨_, _, 1, u, fh, rfl, g15, g16, hfh, by omega, hu, ?_⟩⟩
      refine go rfl ⟨_, _, _, rfl, ?_⟩
      refine go rfl ⟨_, _, rfl, ?_⟩
      refine go rfl ⟨_, rfl, ?_⟩
      refine go rfl ?_
      refine go rfl ⟨_, _, _, rfl, ?_⟩
      refine go rfl ⟨_, _, rfl, fun e => ?_, fun e => ?_⟩
      · rw [hG]
        refine go rfl ⟨_, rfl, ?_⟩
        refine go rfl ⟨_, _, _, _, rfl, rfl, rfl, ?_⟩
        refine go rfl ⟨_, rfl, ?_⟩
        refine go rfl ?_
        refine go rfl ⟨_, _, _, rfl, ?_⟩
        rw [nI_add]
        refine go rfl ⟨_, _, _, _, _, _, _, rfl, rfl, ⟨_, rfl, rfl⟩, (vp_in_nI (show 2 < 5 by omega) (by omega)), (g5_at (show 2 < 5 by omega)), ?_⟩
        refine go rfl ⟨_, rfl, ?_⟩
        refine go rfl ⟨_, rfl, ?_⟩
        rw [← hG]
        refine go rfl ⟨_, _, _, _, _, _, rfl, g25, vp_in_nI (show i < 5 by omega) (by omega), ?_⟩
        rw [nI_clamp (by omega), hpp]
        refine go rfl ⟨_, rfl, ?_⟩
        refine go rfl ?_
        rw [nI_add]
        refine ih (i + 1) _ _ (by omega) (by omega) (fun x h1 h2 v => ?_)
        by_cases ex : x = i
        · rw [ex, pk_uLs]
          exact hbit v
        · rw [pk_uLn ex]
          exact ho x h1 (by omega) v
      · have e := lcmp0.mp e
        refine go rfl ?_
        refine go rfl ⟨_, rfl, rfl, rfl, (Or.inl rfl), ?_⟩
        refine (hp G _ g18 hg hqg).2 ?_ (fun x hx => pk_un (by omega))
        cases hr : sr n N ch m (m - 2) 2 (pu l 1 j) with
        | none => rfl
        | some r =>
          exfalso
          obtain ⟨k1, k2⟩ := sr_ok (q := m - 2) (k := 2) (by omega) hr
          obtain ⟨k3, k4, k5⟩ := k2 i hi2 (by omega)
          have hb := (hbit (r i)).mpr ⟨k3, k4, fun x hx => by rw [k5 x (by omega), k1 x hx]⟩
          rw [e] at hb
          exact bt_0 hb

  have hF := mx_as2 h15 h18
  have hX0 : mx_put F 15 (e_Q qs qt) = F := mx_self h15
  rw [hF]
  refine go rfl ⟨_, rfl, ?_⟩
  refine go rfl ⟨_, _, _, _, rfl, rfl, rfl, ?_⟩
  refine go rfl ⟨_, rfl, ?_⟩
  refine go rfl ⟨_, rfl, ?_⟩
  refine go rfl ⟨_, _, _, _, _, _, rfl, rfl, (vp_in_nI (show 1 < 5 by omega) (by omega)), ?_⟩
  rw [mx_pp, hX0, nI_clamp (show 1 < 2 ^ 31 by omega)]
  refine go rfl ⟨_, rfl, ?_⟩
  refine go rfl ?_
  refine go rfl ⟨_, _, _, rfl, ?_⟩
  rw [nI_add]
  refine go rfl ⟨_, _, rfl, ?_⟩
  have hX : (mx_put F 18 (mx_ia 5 (upd fl 1 (nI j)))) = mx_put (mx_put F 18 (mx_ia 5 (upd fl 1 (nI j)))) (24 + 2) (mx_la 5 f0) := (mx_self (by rw [mx_put_ne (by omega)]; exact hf0)).symm
  rw [hX]
  exact loop (m - 2) 2 none f0 (by omega) (by omega) (fun x h1 h2 => absurd h2 (by omega))
-- LadderWords$Squares.complete(II)Z
def sp_Q_complete1 : mx_Sp := fun As F P => ∃ (n : Nat) (N : Nat → Nat) (ch : Nat → Nat → Int32) (S : Nat → Nat) (lt st : Nat → Int32) (qs qt : Int32) (m : Nat) (fl : Nat → Int32) (l : Nat → Nat), As = [mx_r 15, mx_i (nI 1), mx_i (nI m)] ∧ F 3 = some (e_W n) ∧ F 4 = some (mx_ia 360 lt) ∧ F 5 = some (mx_ia 61 st) ∧ wst n N ch S lt st ∧ F 15 = some (e_Q qs qt) ∧ F 16 = some (mx_qa 2 5 (mx_g5 19)) ∧ F 17 = some (mx_qa 2 5 (mx_g5 24)) ∧ qrw F ∧ m ≤ 5 ∧ F 18 = some (mx_ia 5 fl) ∧ (∀ i, i < 1 → fl i = nI (l i)) ∧ hrw n N ch m n 0 F ∧ orw n N ch m 1 l F ∧ 1 ≤ m ∧ ∀ F' f', F' 18 = some (mx_ia 5 f') → sfr 1 F F' → qrw F' → (∀ r, sr n N ch m (m - 1) 1 l = some r → (∀ i, i < m → f' i = nI (r i)) → P (some (mx_i (nI 1))) F') ∧ (sr n N ch m (m - 1) 1 l = none → (∀ i, i < 1 → f' i = fl i) → P (some (mx_i (nI 0))) F')
abbrev rm_Q_complete1 : Room := { frames := 110, cells := 0, slots := 0, locals := 2200 }
def t_Q_complete1  (P : Option mx_V → mx_F → Prop) : List (Nat × mx_O) := [
  (0, mx_iload 1 1),
  (1, mx_iload 2 2),
  (2, mx_ic_ge 10 5),
  (5, mx_iload 1 6),
  (6, mx_push (.inl (nI 5)) 7),
  (7, mx_ic_lt 12 10),
  (10, mx_push (.inl (nI 1)) 11),
  (11, mx_zret P),
  (12, mx_push (.inl (nI 0)) 13),
  (13, mx_istore 3 14),
  (14, mx_iload 3 15),
  (15, mx_aload 0 16),
  (16, mx_get 4 0 19),
  (19, mx_cv0 5 sp_W_count 0 0 22),
  (22, mx_ic_ge 72 25),
  (25, mx_aload 0 26),
  (26, mx_get 4 2 29),
  (29, mx_iload 1 30),
  (30, mx_aald 31),
  (31, mx_iload 1 32),
  (32, mx_lald 33),
  (33, mx_iload 3 34),
  (34, mx_lushr 35),
  (35, mx_push (.inr (.inl 1)) 36),
  (36, mx_land 37),
  (37, mx_push (.inr (.inl 0)) 38),
  (38, mx_lcmp 39),
  (39, mx_if_eq 46 42),
  (42, mx_push (.inl (nI 1)) 43),
  (43, mx_goto 47),
  (46, mx_push (.inl (nI 0)) 47),
  (47, mx_istore 4 49),
  (49, mx_iload 4 51),
  (51, mx_if_eq 66 54),
  (54, mx_aload 0 55),
  (55, mx_iload 3 56),
  (56, mx_iload 1 57),
  (57, mx_iload 2 58),
  (58, mx_cv3 4 sp_Q_completeWith1 0 0 61),
  (61, mx_if_eq 66 64),
  (64, mx_push (.inl (nI 1)) 65),
  (65, mx_zret P),
  (66, mx_iinc 3 (nI 1) 69),
  (69, mx_goto 14),
  (72, mx_push (.inl (nI 0)) 73),
  (73, mx_zret P)]
set_option maxRecDepth 20000 in
theorem a_Q_complete1  {p : Program} {l : Launch} {e : Env} {s : State} {m : MethodId} {args : Array Value} {below : List Frame} {meth : Method} {c : Code} {D : va_G} {tc : Nat → ClassId} {tb : Nat → Nat} {sz : Nat} {a0 : Nat → Nat} {G : mx_F} {P : Option mx_V → mx_F → Prop}  (C : mx_C p s m args c c_Q_complete y_Q_complete.cls w_Q_complete D tc tb (mx_A a0 G sz) 5 (mx_Ok0 a0 G)) (hr : meth.sig.returnType = (some .boolean)) (hlk : meth.locks = false) : mx_all (mx_W p l e rm_Q_complete1 s m args below meth c (MQ below (mx_Q D tc tb a0 G sz P) args s 0 0 (mx_A a0 G sz)) D tc tb (mx_A a0 G sz) 5 (mx_Ok0 a0 G)) (t_Q_complete1  P) :=
  ⟨mx_s_iload_n C d_Q_complete_0 rfl,
  mx_s_iload_n C d_Q_complete_1 rfl,
  mx_s_ic_ge C d_Q_complete_2 (by decide),
  mx_s_iload_n C d_Q_complete_5 rfl,
  mx_s_iconst C d_Q_complete_6 (by decide),
  mx_s_ic_lt C d_Q_complete_7 (by decide),
  mx_s_iconst C d_Q_complete_10 (by decide),
  mx_s_zret C hr hlk d_Q_complete_11,
  mx_s_iconst C d_Q_complete_12 (by decide),
  mx_s_istore_n C d_Q_complete_13 rfl (by decide),
  mx_s_iload_n C d_Q_complete_14 rfl,
  mx_s_aload_n C d_Q_complete_15 rfl,
  mx_s_get (T := T_Q) (N := 6) (k := 0) C (fun w h => List.mem_cons_of_mem _ (in_Q w h)) rfl (by decide) (List.mem_cons_of_mem _ fk_Q_23) rfl d_Q_complete_16,
  mx_s_cv0 C (m_W_count l) rfl (cwV 0 C.2.2.2.2.1 (mx_gV (fun w h => List.mem_cons_of_mem _ h) mk_Q_39 im_W_count se_W_count ic_W co_W_count) rfl rfl rfl (by decide +kernel) ⟨by decide, by decide⟩) d_Q_complete_19 ⟨Nat.zero_le _, Nat.zero_le _⟩,
  mx_s_ic_ge C d_Q_complete_22 (by decide),
  mx_s_aload_n C d_Q_complete_25 rfl,
  mx_s_get (T := T_Q) (N := 6) (k := 2) C (fun w h => List.mem_cons_of_mem _ (in_Q w h)) rfl (by decide) (List.mem_cons_of_mem _ fk_Q_16) rfl d_Q_complete_26,
  mx_s_iload_n C d_Q_complete_29 rfl,
  mx_s_aald C d_Q_complete_30,
  mx_s_iload_n C d_Q_complete_31 rfl,
  mx_s_lald C d_Q_complete_32,
  mx_s_iload_n C d_Q_complete_33 rfl,
  mx_s_lushr C d_Q_complete_34,
  mx_s_lconst C d_Q_complete_35 (by decide),
  mx_s_land C d_Q_complete_36,
  mx_s_lconst C d_Q_complete_37 (by decide),
  mx_s_lcmp C d_Q_complete_38,
  mx_s_if_eq C d_Q_complete_39 (by decide),
  mx_s_iconst C d_Q_complete_42 (by decide),
  mx_s_goto C d_Q_complete_43 (by decide),
  mx_s_iconst C d_Q_complete_46 (by decide),
  mx_s_istore C d_Q_complete_47 (by decide),
  mx_s_iload C d_Q_complete_49,
  mx_s_if_eq C d_Q_complete_51 (by decide),
  mx_s_aload_n C d_Q_complete_54 rfl,
  mx_s_iload_n C d_Q_complete_55 rfl,
  mx_s_iload_n C d_Q_complete_56 rfl,
  mx_s_iload_n C d_Q_complete_57 rfl,
  mx_s_cv3 C (m_Q_completeWith1 l) rfl (cwV 3 C.2.2.2.2.1 (mx_gV (fun w h => List.mem_cons_of_mem _ h) mk_Q_60 im_Q_completeWith se_Q_completeWith ic_Q co_Q_completeWith) rfl rfl rfl (by decide +kernel) ⟨by decide, by decide⟩) d_Q_complete_58 ⟨Nat.zero_le _, Nat.zero_le _⟩,
  mx_s_if_eq C d_Q_complete_61 (by decide),
  mx_s_iconst C d_Q_complete_64 (by decide),
  mx_s_zret C hr hlk d_Q_complete_65,
  mx_s_iinc C d_Q_complete_66 (by decide) (by decide),
  mx_s_goto C d_Q_complete_69 (by decide),
  mx_s_iconst C d_Q_complete_72 (by decide),
  mx_s_zret C hr hlk d_Q_complete_73,
  trivial⟩
set_option maxRecDepth 20000 in
set_option maxHeartbeats 2000000 in
theorem m_Q_complete1 (l : Launch) : mx_M l y_Q_complete w_Q_complete rm_Q_complete1 sp_Q_complete1 := by
  intro zD ztc ztb zad As F P sz0 h
  obtain ⟨n, N, ch, S, lt, st, qs, qt, m, fl, l, rfl, h3, h4, h5, hw, h15, h16, h17, hq, hm, h18, hfl, hh, hor, hdm, hp⟩ := h
  refine mx_run (cc := c_Q_complete) (maxL := 5) (ret := (some .boolean)) (tab := t_Q_complete1  P) (by decide) rfl zD ztc ztb zad _ F P sz0 (Nat.le_of_ble_eq_true rfl) (fun p e s m args below meth c C hr hlk => a_Q_complete1  C hr hlk) ?_
  intro Rr go
  have hn := hw.1.1
  obtain ⟨fo, hfo, hob⟩ := id hor
  rcases Nat.lt_or_ge 1 m with hd | hd
  rotate_left
  · refine go rfl ⟨_, rfl, ?_⟩
    refine go rfl ⟨_, rfl, ?_⟩
    refine go rfl ⟨_, _, _, rfl, fun c => ?_, fun c => ?_⟩
    · refine go rfl ?_
      refine go rfl ⟨_, rfl, rfl, rfl, (Or.inr rfl), ?_⟩
      refine (hp F fl h18 (sfr_rf 1 F) hq).1 l ?_ (fun i hi => hfl i (by omega))
      rw [show m - 1 = 0 by omega]
      rfl
    · exact absurd (nI_le hd (by omega)) c
  refine go rfl ⟨_, rfl, ?_⟩
  refine go rfl ⟨_, rfl, ?_⟩
  refine go rfl ⟨_, _, _, rfl, fun c => ?_, fun c => ?_⟩
  · exact absurd ((nI_leI (by omega) (by omega)).mp c) (by omega)
  refine go rfl ⟨_, rfl, ?_⟩
  refine go rfl ?_
  refine go rfl ⟨_, _, _, rfl, fun c2 => ?_, fun c2 => ?_⟩
  rotate_left
  · exact absurd (nI_lt (show 1 < 5 by omega) (by omega)) c2
  have hsr : sr n N ch m (m - 1) 1 l = scf (sv n N ch m (m - 2) 1 l) 0 n := by
    rw [show m - 1 = m - 2 + 1 by omega, sr_s]
  have loop : ∀ (k v : Nat) (jk : Option mx_V) (G : mx_F) (f2 : Nat → Int32), v + k = n → sfr 1 F G → qrw G → G 18 = some (mx_ia 5 f2) → (∀ i, i < 1 → f2 i = fl i) → sr n N ch m (m - 1) 1 l = scf (sv n N ch m (m - 2) 1 l) v k → Rr 14 [some (mx_r 15), some (mx_i (nI 1)), some (mx_i (nI m)), some (mx_i (nI v)), jk] [] G 0 0 := by
    intro k
    induction k with
    | zero =>
      intro v jk G f2 hv hg hqg g18 hf2 hs
      have g3 : G 3 = _ := (hg 3 (by omega)).trans h3
      have g15 : G 15 = _ := (hg 15 (by omega)).trans h15
      have hG := mx_as2 g3 g15
      rw [hG]
      refine go rfl ⟨_, rfl, ?_⟩
      refine go rfl ⟨_, rfl, ?_⟩
      refine go rfl ⟨_, _, _, _, rfl, rfl, rfl, ?_⟩
      refine go rfl ⟨_, _, _, rfl, rfl, rfl, rfl, rfl, ⟨n, rfl, rfl, ?_⟩⟩
      rw [← hG]
      refine go rfl ⟨_, _, _, rfl, fun c3 => ?_, fun c3 => ?_⟩
      · refine go rfl ?_
        refine go rfl ⟨_, rfl, rfl, rfl, (Or.inl rfl), ?_⟩
        exact (hp G f2 g18 hg hqg).2 hs hf2
      · exact absurd (nI_le (by omega) (by omega)) c3
    | succ k ih =>
      intro v jk G f2 hv hg hqg g18 hf2 hs
      have g3 : G 3 = _ := (hg 3 (by omega)).trans h3
      have g4 : G 4 = _ := (hg 4 (by omega)).trans h4
      have g5 : G 5 = _ := (hg 5 (by omega)).trans h5
      have g15 : G 15 = _ := (hg 15 (by omega)).trans h15
      have g16 : G 16 = _ := (hg 16 (by omega)).trans h16
      have g17 : G 17 = _ := (hg 17 (by omega)).trans h17
      have g24 : G (24 + 1) = some (mx_la 5 fo) := (hg (24 + 1) (by omega)).trans hfo
      have hG := mx_as3 g3 g15 g17
      have hvn : v < n := by omega
      have next : sv n N ch m (m - 2) 1 l v = none → ∀ (jk : Option mx_V) (G : mx_F) (f2 : Nat → Int32), sfr 1 F G → qrw G → G 18 = some (mx_ia 5 f2) → (∀ i, i < 1 → f2 i = fl i) → Rr 66 [some (mx_r 15), some (mx_i (nI 1)), some (mx_i (nI m)), some (mx_i (nI v)), jk] [] G 0 0 := by
        intro hno jk G f2 hg hqg g18 hf2
        refine go rfl ⟨_, rfl, ?_⟩
        refine go rfl ?_
        rw [nI_add]
        refine ih (v + 1) _ G f2 (by omega) hg hqg g18 hf2 ?_
        rw [hs, scf_n hno]
      rw [hG]
      refine go rfl ⟨_, rfl, ?_⟩
      refine go rfl ⟨_, rfl, ?_⟩
      refine go rfl ⟨_, _, _, _, rfl, rfl, rfl, ?_⟩
      refine go rfl ⟨_, _, _, rfl, rfl, rfl, rfl, rfl, ⟨n, rfl, rfl, ?_⟩⟩
      refine go rfl ⟨_, _, _, rfl, fun c3 => ?_, fun c3 => ?_⟩
      · exact absurd ((nI_leI (by omega) (by omega)).mp c3) (by omega)
      refine go rfl ⟨_, rfl, ?_⟩
      refine go rfl ⟨_, _, _, _, rfl, rfl, rfl, ?_⟩
      refine go rfl ⟨_, rfl, ?_⟩
      refine go rfl ⟨_, _, _, _, _, _, _, rfl, rfl, ⟨_, rfl, rfl⟩, (vp_in_nI (show 1 < 5 by omega) (by omega)), (g5_at (show 1 < 5 by omega)), ?_⟩
      refine go rfl ⟨_, rfl, ?_⟩
      rw [← hG]
      refine go rfl ⟨_, _, _, _, _, rfl, g24, vp_in_nI (show 1 < 5 by omega) (by omega), ?_⟩
      rw [nI_clamp (show 1 < 2 ^ 31 by omega)]
      refine go rfl ⟨_, rfl, ?_⟩
      refine go rfl ⟨_, _, _, rfl, ?_⟩
      refine go rfl ?_
      refine go rfl ⟨_, _, _, rfl, ?_⟩
      refine go rfl ?_
      refine go rfl ⟨_, _, _, rfl, ?_⟩
      have hbv := hob 1 (Nat.le_refl _) hd v
      refine go rfl ⟨_, _, rfl, fun e => ?_, fun e => ?_⟩
      · have e := (bt_may (by omega)).mp (lcmp0.mp e)
        have hnc : ¬ cand N ch m 1 l v := fun h => e (hbv.mpr ⟨hvn, h.1, h.2⟩)
        refine go rfl ?_
        refine go rfl ⟨_, _, rfl, ?_⟩
        refine go rfl ⟨_, rfl, ?_⟩
        refine go rfl ⟨_, _, rfl, fun e2 => ?_, fun e2 => ?_⟩
        · exact next (sv_n hnc) _ G f2 hg hqg g18 hf2
        · exact absurd rfl e2
      have e : bt (fo 1) v := Classical.byContradiction (fun q => e (lcmp0.mpr ((bt_may (by omega)).mpr q)))
      have hcd : cand N ch m 1 l v := ⟨(hbv.mp e).2.1, (hbv.mp e).2.2⟩
      refine go rfl ?_
      refine go rfl ?_
      refine go rfl ⟨_, _, rfl, ?_⟩
      refine go rfl ⟨_, rfl, ?_⟩
      refine go rfl ⟨_, _, rfl, fun e2 => ?_, fun e2 => ?_⟩
      · exact absurd e2 (by decide)
      refine go rfl ⟨_, rfl, ?_⟩
      refine go rfl ⟨_, rfl, ?_⟩
      refine go rfl ⟨_, rfl, ?_⟩
      refine go rfl ⟨_, rfl, ?_⟩
      refine go rfl ⟨_, _, _, _, _, _, rfl, g15, rfl, rfl, rfl, ⟨n, N, ch, S, lt, st, _, _, m, f2, l, v, rfl, g3, g4, g5, hw, g15, g16, g17, hqg, hm, g18, fun i hi => (hf2 i hi).trans (hfl i hi), hrw_t hh (fun x hx => hg _ (by omega)), ⟨fo, g24, hob⟩, hvn, hd, hcd.1, fun F2 f3 q1 q2 q3 => ⟨fun r e5 q4 => ?_, fun e5 q4 => ?_⟩⟩⟩
      · refine go rfl ⟨_, _, rfl, fun e3 => ?_, fun e3 => ?_⟩
        · exact absurd e3 (by decide)
        refine go rfl ?_
        refine go rfl ⟨_, rfl, rfl, rfl, (Or.inr rfl), ?_⟩
        refine (hp F2 f3 q1 (sfr_tr hg q2) q3).1 r ?_ q4
        rw [hs]
        exact scf_s (by rw [sv_y hcd]; exact e5)
      · refine go rfl ⟨_, _, rfl, fun e3 => ?_, fun e3 => ?_⟩
        · refine next (by rw [sv_y hcd]; exact e5) _ F2 f3 (sfr_tr hg q2) q3 q1 (fun i hi => ?_)
          rw [q4 i hi]
          exact hf2 i hi
        · exact absurd rfl e3
  refine go rfl ?_
  refine go rfl ⟨_, _, rfl, ?_⟩
  exact loop n 0 none F fl (by omega) (sfr_rf 1 F) hq h18 (fun _ _ => rfl) hsr
-- LadderWords$Squares.completeWith(III)Z
def sp_Q_completeWith0 : mx_Sp := fun As F P => ∃ (n : Nat) (N : Nat → Nat) (ch : Nat → Nat → Int32) (S : Nat → Nat) (lt st : Nat → Int32) (qs qt : Int32) (m : Nat) (fl : Nat → Int32) (l : Nat → Nat) (j : Nat), As = [mx_r 15, mx_i (nI j), mx_i (nI 0), mx_i (nI m)] ∧ F 3 = some (e_W n) ∧ F 4 = some (mx_ia 360 lt) ∧ F 5 = some (mx_ia 61 st) ∧ wst n N ch S lt st ∧ F 15 = some (e_Q qs qt) ∧ F 16 = some (mx_qa 2 5 (mx_g5 19)) ∧ F 17 = some (mx_qa 2 5 (mx_g5 24)) ∧ qrw F ∧ m ≤ 5 ∧ F 18 = some (mx_ia 5 fl) ∧ (∀ i, i < 0 → fl i = nI (l i)) ∧ hrw n N ch m n 0 F ∧ orw n N ch m 0 l F ∧ j < n ∧ 0 < m ∧ N j = m ∧ ∀ F' f', F' 18 = some (mx_ia 5 f') → sfr 0 F F' → qrw F' → (∀ r, sr n N ch m (m - 1) 1 (pu l 0 j) = some r → (∀ i, i < m → f' i = nI (r i)) → P (some (mx_i (nI 1))) F') ∧ (sr n N ch m (m - 1) 1 (pu l 0 j) = none → (∀ i, i < 0 → f' i = fl i) → P (some (mx_i (nI 0))) F')
abbrev rm_Q_completeWith0 : Room := { frames := 120, cells := 0, slots := 0, locals := 2400 }
def t_Q_completeWith0  (P : Option mx_V → mx_F → Prop) : List (Nat × mx_O) := [
  (0, mx_aload 0 1),
  (1, mx_get 4 3 4),
  (4, mx_iload 2 5),
  (5, mx_iload 1 6),
  (6, mx_iast 7),
  (7, mx_iload 2 8),
  (8, mx_push (.inl (nI 1)) 9),
  (9, mx_iadd 10),
  (10, mx_istore 4 12),
  (12, mx_iload 4 14),
  (14, mx_iload 3 15),
  (15, mx_ic_ge 73 18),
  (18, mx_aload 0 19),
  (19, mx_get 4 2 22),
  (22, mx_iload 2 23),
  (23, mx_aald 24),
  (24, mx_iload 4 26),
  (26, mx_lald 27),
  (27, mx_aload 0 28),
  (28, mx_iload 2 29),
  (29, mx_aload 0 30),
  (30, mx_get 4 0 33),
  (33, mx_iload 1 34),
  (34, mx_iload 4 36),
  (36, mx_cv2 5 sp_W_letterOf 0 0 39),
  (39, mx_cv2 4 sp_Q_wordsWith 0 0 42),
  (42, mx_land 43),
  (43, mx_lstore 5 45),
  (45, mx_lload 5 47),
  (47, mx_push (.inr (.inl 0)) 48),
  (48, mx_lcmp 49),
  (49, mx_if_ne 54 52),
  (52, mx_push (.inl (nI 0)) 53),
  (53, mx_zret P),
  (54, mx_aload 0 55),
  (55, mx_get 4 2 58),
  (58, mx_iload 2 59),
  (59, mx_push (.inl (nI 1)) 60),
  (60, mx_iadd 61),
  (61, mx_aald 62),
  (62, mx_iload 4 64),
  (64, mx_lload 5 66),
  (66, mx_last 67),
  (67, mx_iinc 4 (nI 1) 70),
  (70, mx_goto 12),
  (73, mx_aload 0 74),
  (74, mx_iload 2 75),
  (75, mx_push (.inl (nI 1)) 76),
  (76, mx_iadd 77),
  (77, mx_iload 3 78),
  (78, mx_cv2 4 sp_Q_complete1 0 0 81),
  (81, mx_zret P)]
set_option maxRecDepth 20000 in
theorem a_Q_completeWith0  {p : Program} {l : Launch} {e : Env} {s : State} {m : MethodId} {args : Array Value} {below : List Frame} {meth : Method} {c : Code} {D : va_G} {tc : Nat → ClassId} {tb : Nat → Nat} {sz : Nat} {a0 : Nat → Nat} {G : mx_F} {P : Option mx_V → mx_F → Prop}  (C : mx_C p s m args c c_Q_completeWith y_Q_completeWith.cls w_Q_completeWith D tc tb (mx_A a0 G sz) 7 (mx_Ok0 a0 G)) (hr : meth.sig.returnType = (some .boolean)) (hlk : meth.locks = false) : mx_all (mx_W p l e rm_Q_completeWith0 s m args below meth c (MQ below (mx_Q D tc tb a0 G sz P) args s 0 0 (mx_A a0 G sz)) D tc tb (mx_A a0 G sz) 7 (mx_Ok0 a0 G)) (t_Q_completeWith0  P) :=
  ⟨mx_s_aload_n C d_Q_completeWith_0 rfl,
  mx_s_get (T := T_Q) (N := 6) (k := 3) C (fun w h => List.mem_cons_of_mem _ (in_Q w h)) rfl (by decide) (List.mem_cons_of_mem _ fk_Q_19) rfl d_Q_completeWith_1,
  mx_s_iload_n C d_Q_completeWith_4 rfl,
  mx_s_iload_n C d_Q_completeWith_5 rfl,
  mx_s_iast C d_Q_completeWith_6,
  mx_s_iload_n C d_Q_completeWith_7 rfl,
  mx_s_iconst C d_Q_completeWith_8 (by decide),
  mx_s_iadd C d_Q_completeWith_9,
  mx_s_istore C d_Q_completeWith_10 (by decide),
  mx_s_iload C d_Q_completeWith_12,
  mx_s_iload_n C d_Q_completeWith_14 rfl,
  mx_s_ic_ge C d_Q_completeWith_15 (by decide),
  mx_s_aload_n C d_Q_completeWith_18 rfl,
  mx_s_get (T := T_Q) (N := 6) (k := 2) C (fun w h => List.mem_cons_of_mem _ (in_Q w h)) rfl (by decide) (List.mem_cons_of_mem _ fk_Q_16) rfl d_Q_completeWith_19,
  mx_s_iload_n C d_Q_completeWith_22 rfl,
  mx_s_aald C d_Q_completeWith_23,
  mx_s_iload C d_Q_completeWith_24,
  mx_s_lald C d_Q_completeWith_26,
  mx_s_aload_n C d_Q_completeWith_27 rfl,
  mx_s_iload_n C d_Q_completeWith_28 rfl,
  mx_s_aload_n C d_Q_completeWith_29 rfl,
  mx_s_get (T := T_Q) (N := 6) (k := 0) C (fun w h => List.mem_cons_of_mem _ (in_Q w h)) rfl (by decide) (List.mem_cons_of_mem _ fk_Q_23) rfl d_Q_completeWith_30,
  mx_s_iload_n C d_Q_completeWith_33 rfl,
  mx_s_iload C d_Q_completeWith_34,
  mx_s_cv2 C (m_W_letterOf l) rfl (cwV 2 C.2.2.2.2.1 (mx_gV (fun w h => List.mem_cons_of_mem _ h) mk_Q_56 im_W_letterOf se_W_letterOf ic_W co_W_letterOf) rfl rfl rfl (by decide +kernel) ⟨by decide, by decide⟩) d_Q_completeWith_36 ⟨Nat.zero_le _, Nat.zero_le _⟩,
  mx_s_cv2 C (m_Q_wordsWith l) rfl (cwV 2 C.2.2.2.2.1 (mx_gV (fun w h => List.mem_cons_of_mem _ h) mk_Q_64 im_Q_wordsWith se_Q_wordsWith ic_Q co_Q_wordsWith) rfl rfl rfl (by decide +kernel) ⟨by decide, by decide⟩) d_Q_completeWith_39 ⟨Nat.zero_le _, Nat.zero_le _⟩,
  mx_s_land C d_Q_completeWith_42,
  mx_s_lstore C d_Q_completeWith_43 (by decide),
  mx_s_lload C d_Q_completeWith_45,
  mx_s_lconst C d_Q_completeWith_47 (by decide),
  mx_s_lcmp C d_Q_completeWith_48,
  mx_s_if_ne C d_Q_completeWith_49 (by decide),
  mx_s_iconst C d_Q_completeWith_52 (by decide),
  mx_s_zret C hr hlk d_Q_completeWith_53,
  mx_s_aload_n C d_Q_completeWith_54 rfl,
  mx_s_get (T := T_Q) (N := 6) (k := 2) C (fun w h => List.mem_cons_of_mem _ (in_Q w h)) rfl (by decide) (List.mem_cons_of_mem _ fk_Q_16) rfl d_Q_completeWith_55,
  mx_s_iload_n C d_Q_completeWith_58 rfl,
  mx_s_iconst C d_Q_completeWith_59 (by decide),
  mx_s_iadd C d_Q_completeWith_60,
  mx_s_aald C d_Q_completeWith_61,
  mx_s_iload C d_Q_completeWith_62,
  mx_s_lload C d_Q_completeWith_64,
  mx_s_last C d_Q_completeWith_66,
  mx_s_iinc C d_Q_completeWith_67 (by decide) (by decide),
  mx_s_goto C d_Q_completeWith_70 (by decide),
  mx_s_aload_n C d_Q_completeWith_73 rfl,
  mx_s_iload_n C d_Q_completeWith_74 rfl,
  mx_s_iconst C d_Q_completeWith_75 (by decide),
  mx_s_iadd C d_Q_completeWith_76,
  mx_s_iload_n C d_Q_completeWith_77 rfl,
  mx_s_cv2 C (m_Q_complete1 l) rfl (cwV 2 C.2.2.2.2.1 (mx_gV (fun w h => List.mem_cons_of_mem _ h) mk_Q_35 im_Q_complete se_Q_complete ic_Q co_Q_complete) rfl rfl rfl (by decide +kernel) ⟨by decide, by decide⟩) d_Q_completeWith_78 ⟨Nat.zero_le _, Nat.zero_le _⟩,
  mx_s_zret C hr hlk d_Q_completeWith_81,
  trivial⟩
set_option maxRecDepth 20000 in
set_option maxHeartbeats 2000000 in
theorem m_Q_completeWith0 (l : Launch) : mx_M l y_Q_completeWith w_Q_completeWith rm_Q_completeWith0 sp_Q_completeWith0 := by
  intro zD ztc ztb zad As F P sz0 h
  obtain ⟨n, N, ch, S, lt, st, qs, qt, m, fl, l, j, rfl, h3, h4, h5, hw, h15, h16, h17, hq, hm, h18, hfl, hh, hor, hj, hd, hN, hp⟩ := h
  refine mx_run (cc := c_Q_completeWith) (maxL := 7) (ret := (some .boolean)) (tab := t_Q_completeWith0  P) (by decide) rfl zD ztc ztb zad _ F P sz0 (Nat.le_of_ble_eq_true rfl) (fun p e s m args below meth c C hr hlk => a_Q_completeWith0  C hr hlk) ?_
  intro Rr go
  have hn := hw.1.1
  obtain ⟨fo, hfo, hob⟩ := hor
  obtain ⟨f0, hf0⟩ := hq.2.1 1 (by omega)
  have hpre : ∀ i, i < 1 → upd fl 0 (nI j) i = nI (pu l 0 j i) := by
    intro i hi
    by_cases e : i = 0
    · rw [e, pk_us, pu_s]
    · rw [pk_un e, pu_n e]
      exact hfl i (by omega)

  have fin : ∀ (i : Nat) (j5 : Option mx_V) (f1 : Nat → Int64), i = m → (∀ x, 1 ≤ x → x < i → ∀ v, bt (f1 x) v ↔ ocd n N ch m 1 (pu l 0 j) x v) → Rr 73 [some (mx_r 15), some (mx_i (nI j)), some (mx_i (nI 0)), some (mx_i (nI m)), some (mx_i (nI i)), j5, none] [] (mx_put (mx_put F 18 (mx_ia 5 (upd fl 0 (nI j)))) (24 + 1) (mx_la 5 f1)) 0 0 := by
    intro i j5 f1 hi ho
    have hg : sfr 0 F (mx_put (mx_put F 18 (mx_ia 5 (upd fl 0 (nI j)))) (24 + 1) (mx_la 5 f1)) := sfr_tr sfr_18 (sfr_o (by omega))
    have hqg : qrw (mx_put (mx_put F 18 (mx_ia 5 (upd fl 0 (nI j)))) (24 + 1) (mx_la 5 f1)) := qrw_o (qrw_l hq) (show 1 < 5 by omega)
    generalize hGe : (mx_put (mx_put F 18 (mx_ia 5 (upd fl 0 (nI j)))) (24 + 1) (mx_la 5 f1)) = G at hg hqg ⊢
    have g3 : G 3 = _ := (hg 3 (by omega)).trans h3
    have g4 : G 4 = _ := (hg 4 (by omega)).trans h4
    have g5 : G 5 = _ := (hg 5 (by omega)).trans h5
    have g15 : G 15 = _ := (hg 15 (by omega)).trans h15
    have g16 : G 16 = _ := (hg 16 (by omega)).trans h16
    have g17 : G 17 = _ := (hg 17 (by omega)).trans h17
    have g18 : G 18 = some (mx_ia 5 (upd fl 0 (nI j))) := by rw [← hGe, mx_put_ne (by omega)]; exact mx_put_at _ _ _
    have gor : orw n N ch m 1 (pu l 0 j) G := ⟨f1, by rw [← hGe]; exact mx_put_at _ _ _, fun x h1 h2 v => ho x h1 (by omega) v⟩
    refine go rfl ⟨_, rfl, ?_⟩
    refine go rfl ⟨_, rfl, ?_⟩
    refine go rfl ?_
    refine go rfl ⟨_, _, _, rfl, ?_⟩
    rw [nI_add]
    refine go rfl ⟨_, rfl, ?_⟩
    refine go rfl ⟨_, _, _, _, _, rfl, g15, rfl, rfl, rfl, ⟨n, N, ch, S, lt, st, _, _, m, _, pu l 0 j, rfl, g3, g4, g5, hw, g15, g16, g17, hqg, hm, g18, hpre, hrw_t hh (fun x hx => hg _ (by omega)), gor, by omega, fun F2 f2 q1 q2 q3 => ⟨fun r e q4 => ?_, fun e q4 => ?_⟩⟩⟩
    · refine go rfl ⟨_, rfl, rfl, rfl, (Or.inr rfl), ?_⟩
      exact (hp F2 f2 q1 (sfr_tr hg (sfr_up q2)) q3).1 r e q4
    · refine go rfl ⟨_, rfl, rfl, rfl, (Or.inl rfl), ?_⟩
      refine (hp F2 f2 q1 (sfr_tr hg (sfr_up q2)) q3).2 e (fun x hx => ?_)
      rw [q4 x (by omega), pk_un (by omega)]
  have loop : ∀ (k i : Nat) (j5 : Option mx_V) (f1 : Nat → Int64), i + k = m → 1 ≤ i → (∀ x, 1 ≤ x → x < i → ∀ v, bt (f1 x) v ↔ ocd n N ch m 1 (pu l 0 j) x v) → Rr 12 [some (mx_r 15), some (mx_i (nI j)), some (mx_i (nI 0)), some (mx_i (nI m)), some (mx_i (nI i)), j5, none] [] (mx_put (mx_put F 18 (mx_ia 5 (upd fl 0 (nI j)))) (24 + 1) (mx_la 5 f1)) 0 0 := by
    intro k
    induction k with
    | zero =>
      intro i j5 f1 hi hi2 ho
      refine go rfl ⟨_, rfl, ?_⟩
      refine go rfl ⟨_, rfl, ?_⟩
      refine go rfl ⟨_, _, _, rfl, fun c => ?_, fun c => ?_⟩
      · exact fin i j5 f1 (by omega) ho
      · exact absurd (nI_le (by omega) (by omega)) c
    | succ k ih =>
      intro i j5 f1 hi hi2 ho
      have hg : sfr 0 F (mx_put (mx_put F 18 (mx_ia 5 (upd fl 0 (nI j)))) (24 + 1) (mx_la 5 f1)) := sfr_tr sfr_18 (sfr_o (by omega))
      have hqg : qrw (mx_put (mx_put F 18 (mx_ia 5 (upd fl 0 (nI j)))) (24 + 1) (mx_la 5 f1)) := qrw_o (qrw_l hq) (show 1 < 5 by omega)
      have g24 : (mx_put (mx_put F 18 (mx_ia 5 (upd fl 0 (nI j)))) (24 + 1) (mx_la 5 f1)) (24 + 0) = some (mx_la 5 fo) := (hg (24 + 0) (by omega)).trans hfo
      have g25 : (mx_put (mx_put F 18 (mx_ia 5 (upd fl 0 (nI j)))) (24 + 1) (mx_la 5 f1)) (24 + 1) = some (mx_la 5 f1) := mx_put_at _ _ _
      have g18 : (mx_put (mx_put F 18 (mx_ia 5 (upd fl 0 (nI j)))) (24 + 1) (mx_la 5 f1)) 18 = some (mx_ia 5 (upd fl 0 (nI j))) := by rw [mx_put_ne (by omega)]; exact mx_put_at _ _ _
      have hpp : ∀ f2, mx_put (mx_put (mx_put F 18 (mx_ia 5 (upd fl 0 (nI j)))) (24 + 1) (mx_la 5 f1)) (24 + 1) (mx_la 5 f2) = mx_put (mx_put F 18 (mx_ia 5 (upd fl 0 (nI j)))) (24 + 1) (mx_la 5 f2) := fun f2 => mx_pp _ _ _ _
      have hhv := hrw_t hh (fun x hx => hg (19 + x) (by omega))
      generalize hGe : (mx_put (mx_put F 18 (mx_ia 5 (upd fl 0 (nI j)))) (24 + 1) (mx_la 5 f1)) = G at hg hqg g24 g25 g18 hpp hhv ⊢
      have g3 : G 3 = _ := (hg 3 (by omega)).trans h3
      have g4 : G 4 = _ := (hg 4 (by omega)).trans h4
      have g5 : G 5 = _ := (hg 5 (by omega)).trans h5
      have g15 : G 15 = _ := (hg 15 (by omega)).trans h15
      have g16 : G 16 = _ := (hg 16 (by omega)).trans h16
      have g17 : G 17 = _ := (hg 17 (by omega)).trans h17
      have hG := mx_as6 g3 g4 g5 g15 g16 g17
      obtain ⟨fh, hfh, hs1, hs2⟩ := hhv 0 (by omega)
      obtain ⟨u, hu, eu, ee⟩ := vl_ixe (hw.2.1.2.2 j i hj (by omega))
      have hbit : ∀ v, bt (fo i &&& fh u) v ↔ ocd n N ch m 1 (pu l 0 j) i v := by
        intro v
        rw [bt_and, hob i (by omega) (by omega)]
        constructor
        · rintro ⟨⟨b1, b2, b3⟩, b4⟩
          refine ⟨b1, b2, fun x hx => ?_⟩
          by_cases ex : x = 0
          · rw [ex, pu_s, (hs1 u v hu b4).2.2, ee]
          · rw [pu_n ex]
            exact b3 x (by omega)
        · rintro ⟨b1, b2, b3⟩
          refine ⟨⟨b1, b2, fun x hx => ?_⟩, hs2 u v hu (Or.inl b1) b2 (by omega) ?_⟩
          · have := b3 x (by omega)
            rw [pu_n (by omega)] at this
            exact this
          · have := b3 0 (by omega)
            rw [pu_s, ee] at this
            exact this
      refine go rfl ⟨_, rfl, ?_⟩
      refine go rfl ⟨_, rfl, ?_⟩
      refine go rfl ⟨_, _, _, rfl, fun c => ?_, fun c => ?_⟩
      · exact absurd ((nI_leI (by omega) (by omega)).mp c) (by omega)
      rw [hG]
      refine go rfl ⟨_, rfl, ?_⟩
      refine go rfl ⟨_, _, _, _, rfl, rfl, rfl, ?_⟩
      refine go rfl ⟨_, rfl, ?_⟩
      refine go rfl ⟨_, _, _, _, _, _, _, rfl, rfl, ⟨_, rfl, rfl⟩, (vp_in_nI (show 0 < 5 by omega) (by omega)), (g5_at (show 0 < 5 by omega)), ?_⟩
      refine go rfl ⟨_, rfl, ?_⟩
      rw [← hG]
      refine go rfl ⟨_, _, _, _, _, rfl, g24, vp_in_nI (show i < 5 by omega) (by omega), ?_⟩
      rw [nI_clamp (by omega), hG]
      refine go rfl ⟨_, rfl, ?_⟩
      refine go rfl ⟨_, rfl, ?_⟩
      refine go rfl ⟨_, rfl, ?_⟩
      refine go rfl ⟨_, _, _, _, rfl, rfl, rfl, ?_⟩
      refine go rfl ⟨_, rfl, ?_⟩
      refine go rfl ⟨_, rfl, ?_⟩
      refine go rfl ⟨_, _, _, _, _, rfl, rfl, rfl, rfl, rfl, u_letterOf hw hj (show i < N j by omega) rfl rfl rfl ?_⟩
      rw [← hG, ee]
      refine go rfl ⟨_, _, _, _, _, rfl, g15, rfl, rfl, rfl, ⟨_, _, 0, u, fh, rfl, g15, g16, hfh, by omega, hu, ?_⟩⟩
      refine go rfl ⟨_, _, _, rfl, ?_⟩
      refine go rfl ⟨_, _, rfl, ?_⟩
      refine go rfl ⟨_, rfl, ?_⟩
      refine go rfl ?_
      refine go rfl ⟨_, _, _, rfl, ?_⟩
      refine go rfl ⟨_, _, rfl, fun e => ?_, fun e => ?_⟩
      · rw [hG]
        refine go rfl ⟨_, rfl, ?_⟩
        refine go rfl ⟨_, _, _, _, rfl, rfl, rfl, ?_⟩
        refine go rfl ⟨_, rfl, ?_⟩
        refine go rfl ?_
        refine go rfl ⟨_, _, _, rfl, ?_⟩
        rw [nI_add]
        refine go rfl ⟨_, _, _, _, _, _, _, rfl, rfl, ⟨_, rfl, rfl⟩, (vp_in_nI (show 1 < 5 by omega) (by omega)), (g5_at (show 1 < 5 by omega)), ?_⟩
        refine go rfl ⟨_, rfl, ?_⟩
        refine go rfl ⟨_, rfl, ?_⟩
        rw [← hG]
        refine go rfl ⟨_, _, _, _, _, _, rfl, g25, vp_in_nI (show i < 5 by omega) (by omega), ?_⟩
        rw [nI_clamp (by omega), hpp]
        refine go rfl ⟨_, rfl, ?_⟩
        refine go rfl ?_
        rw [nI_add]
        refine ih (i + 1) _ _ (by omega) (by omega) (fun x h1 h2 v => ?_)
        by_cases ex : x = i
        · rw [ex, pk_uLs]
          exact hbit v
        · rw [pk_uLn ex]
          exact ho x h1 (by omega) v
      · have e := lcmp0.mp e
        refine go rfl ?_
        refine go rfl ⟨_, rfl, rfl, rfl, (Or.inl rfl), ?_⟩
        refine (hp G _ g18 hg hqg).2 ?_ (fun x hx => pk_un (by omega))
        cases hr : sr n N ch m (m - 1) 1 (pu l 0 j) with
        | none => rfl
        | some r =>
          exfalso
          obtain ⟨k1, k2⟩ := sr_ok (q := m - 1) (k := 1) (by omega) hr
          obtain ⟨k3, k4, k5⟩ := k2 i hi2 (by omega)
          have hb := (hbit (r i)).mpr ⟨k3, k4, fun x hx => by rw [k5 x (by omega), k1 x hx]⟩
          rw [e] at hb
          exact bt_0 hb

  have hF := mx_as2 h15 h18
  have hX0 : mx_put F 15 (e_Q qs qt) = F := mx_self h15
  rw [hF]
  refine go rfl ⟨_, rfl, ?_⟩
  refine go rfl ⟨_, _, _, _, rfl, rfl, rfl, ?_⟩
  refine go rfl ⟨_, rfl, ?_⟩
  refine go rfl ⟨_, rfl, ?_⟩
  refine go rfl ⟨_, _, _, _, _, _, rfl, rfl, (vp_in_nI (show 0 < 5 by omega) (by omega)), ?_⟩
  rw [mx_pp, hX0, nI_clamp (show 0 < 2 ^ 31 by omega)]
  refine go rfl ⟨_, rfl, ?_⟩
  refine go rfl ?_
  refine go rfl ⟨_, _, _, rfl, ?_⟩
  rw [nI_add]
  refine go rfl ⟨_, _, rfl, ?_⟩
  have hX : (mx_put F 18 (mx_ia 5 (upd fl 0 (nI j)))) = mx_put (mx_put F 18 (mx_ia 5 (upd fl 0 (nI j)))) (24 + 1) (mx_la 5 f0) := (mx_self (by rw [mx_put_ne (by omega)]; exact hf0)).symm
  rw [hX]
  exact loop (m - 1) 1 none f0 (by omega) (by omega) (fun x h1 h2 => absurd h2 (by omega))
-- LadderWords$Squares.complete(II)Z
def sp_Q_complete0 : mx_Sp := fun As F P => ∃ (n : Nat) (N : Nat → Nat) (ch : Nat → Nat → Int32) (S : Nat → Nat) (lt st : Nat → Int32) (qs qt : Int32) (m : Nat) (fl : Nat → Int32) (l : Nat → Nat), As = [mx_r 15, mx_i (nI 0), mx_i (nI m)] ∧ F 3 = some (e_W n) ∧ F 4 = some (mx_ia 360 lt) ∧ F 5 = some (mx_ia 61 st) ∧ wst n N ch S lt st ∧ F 15 = some (e_Q qs qt) ∧ F 16 = some (mx_qa 2 5 (mx_g5 19)) ∧ F 17 = some (mx_qa 2 5 (mx_g5 24)) ∧ qrw F ∧ m ≤ 5 ∧ F 18 = some (mx_ia 5 fl) ∧ (∀ i, i < 0 → fl i = nI (l i)) ∧ hrw n N ch m n 0 F ∧ orw n N ch m 0 l F ∧ 0 ≤ m ∧ ∀ F' f', F' 18 = some (mx_ia 5 f') → sfr 0 F F' → qrw F' → (∀ r, sr n N ch m (m - 0) 0 l = some r → (∀ i, i < m → f' i = nI (r i)) → P (some (mx_i (nI 1))) F') ∧ (sr n N ch m (m - 0) 0 l = none → (∀ i, i < 0 → f' i = fl i) → P (some (mx_i (nI 0))) F')
abbrev rm_Q_complete0 : Room := { frames := 130, cells := 0, slots := 0, locals := 2600 }
def t_Q_complete0  (P : Option mx_V → mx_F → Prop) : List (Nat × mx_O) := [
  (0, mx_iload 1 1),
  (1, mx_iload 2 2),
  (2, mx_ic_ge 10 5),
  (5, mx_iload 1 6),
  (6, mx_push (.inl (nI 5)) 7),
  (7, mx_ic_lt 12 10),
  (10, mx_push (.inl (nI 1)) 11),
  (11, mx_zret P),
  (12, mx_push (.inl (nI 0)) 13),
  (13, mx_istore 3 14),
  (14, mx_iload 3 15),
  (15, mx_aload 0 16),
  (16, mx_get 4 0 19),
  (19, mx_cv0 5 sp_W_count 0 0 22),
  (22, mx_ic_ge 72 25),
  (25, mx_aload 0 26),
  (26, mx_get 4 2 29),
  (29, mx_iload 1 30),
  (30, mx_aald 31),
  (31, mx_iload 1 32),
  (32, mx_lald 33),
  (33, mx_iload 3 34),
  (34, mx_lushr 35),
  (35, mx_push (.inr (.inl 1)) 36),
  (36, mx_land 37),
  (37, mx_push (.inr (.inl 0)) 38),
  (38, mx_lcmp 39),
  (39, mx_if_eq 46 42),
  (42, mx_push (.inl (nI 1)) 43),
  (43, mx_goto 47),
  (46, mx_push (.inl (nI 0)) 47),
  (47, mx_istore 4 49),
  (49, mx_iload 4 51),
  (51, mx_if_eq 66 54),
  (54, mx_aload 0 55),
  (55, mx_iload 3 56),
  (56, mx_iload 1 57),
  (57, mx_iload 2 58),
  (58, mx_cv3 4 sp_Q_completeWith0 0 0 61),
  (61, mx_if_eq 66 64),
  (64, mx_push (.inl (nI 1)) 65),
  (65, mx_zret P),
  (66, mx_iinc 3 (nI 1) 69),
  (69, mx_goto 14),
  (72, mx_push (.inl (nI 0)) 73),
  (73, mx_zret P)]
set_option maxRecDepth 20000 in
theorem a_Q_complete0  {p : Program} {l : Launch} {e : Env} {s : State} {m : MethodId} {args : Array Value} {below : List Frame} {meth : Method} {c : Code} {D : va_G} {tc : Nat → ClassId} {tb : Nat → Nat} {sz : Nat} {a0 : Nat → Nat} {G : mx_F} {P : Option mx_V → mx_F → Prop}  (C : mx_C p s m args c c_Q_complete y_Q_complete.cls w_Q_complete D tc tb (mx_A a0 G sz) 5 (mx_Ok0 a0 G)) (hr : meth.sig.returnType = (some .boolean)) (hlk : meth.locks = false) : mx_all (mx_W p l e rm_Q_complete0 s m args below meth c (MQ below (mx_Q D tc tb a0 G sz P) args s 0 0 (mx_A a0 G sz)) D tc tb (mx_A a0 G sz) 5 (mx_Ok0 a0 G)) (t_Q_complete0  P) :=
  ⟨mx_s_iload_n C d_Q_complete_0 rfl,
  mx_s_iload_n C d_Q_complete_1 rfl,
  mx_s_ic_ge C d_Q_complete_2 (by decide),
  mx_s_iload_n C d_Q_complete_5 rfl,
  mx_s_iconst C d_Q_complete_6 (by decide),
  mx_s_ic_lt C d_Q_complete_7 (by decide),
  mx_s_iconst C d_Q_complete_10 (by decide),
  mx_s_zret C hr hlk d_Q_complete_11,
  mx_s_iconst C d_Q_complete_12 (by decide),
  mx_s_istore_n C d_Q_complete_13 rfl (by decide),
  mx_s_iload_n C d_Q_complete_14 rfl,
  mx_s_aload_n C d_Q_complete_15 rfl,
  mx_s_get (T := T_Q) (N := 6) (k := 0) C (fun w h => List.mem_cons_of_mem _ (in_Q w h)) rfl (by decide) (List.mem_cons_of_mem _ fk_Q_23) rfl d_Q_complete_16,
  mx_s_cv0 C (m_W_count l) rfl (cwV 0 C.2.2.2.2.1 (mx_gV (fun w h => List.mem_cons_of_mem _ h) mk_Q_39 im_W_count se_W_count ic_W co_W_count) rfl rfl rfl (by decide +kernel) ⟨by decide, by decide⟩) d_Q_complete_19 ⟨Nat.zero_le _, Nat.zero_le _⟩,
  mx_s_ic_ge C d_Q_complete_22 (by decide),
  mx_s_aload_n C d_Q_complete_25 rfl,
  mx_s_get (T := T_Q) (N := 6) (k := 2) C (fun w h => List.mem_cons_of_mem _ (in_Q w h)) rfl (by decide) (List.mem_cons_of_mem _ fk_Q_16) rfl d_Q_complete_26,
  mx_s_iload_n C d_Q_complete_29 rfl,
  mx_s_aald C d_Q_complete_30,
  mx_s_iload_n C d_Q_complete_31 rfl,
  mx_s_lald C d_Q_complete_32,
  mx_s_iload_n C d_Q_complete_33 rfl,
  mx_s_lushr C d_Q_complete_34,
  mx_s_lconst C d_Q_complete_35 (by decide),
  mx_s_land C d_Q_complete_36,
  mx_s_lconst C d_Q_complete_37 (by decide),
  mx_s_lcmp C d_Q_complete_38,
  mx_s_if_eq C d_Q_complete_39 (by decide),
  mx_s_iconst C d_Q_complete_42 (by decide),
  mx_s_goto C d_Q_complete_43 (by decide),
  mx_s_iconst C d_Q_complete_46 (by decide),
  mx_s_istore C d_Q_complete_47 (by decide),
  mx_s_iload C d_Q_complete_49,
  mx_s_if_eq C d_Q_complete_51 (by decide),
  mx_s_aload_n C d_Q_complete_54 rfl,
  mx_s_iload_n C d_Q_complete_55 rfl,
  mx_s_iload_n C d_Q_complete_56 rfl,
  mx_s_iload_n C d_Q_complete_57 rfl,
  mx_s_cv3 C (m_Q_completeWith0 l) rfl (cwV 3 C.2.2.2.2.1 (mx_gV (fun w h => List.mem_cons_of_mem _ h) mk_Q_60 im_Q_completeWith se_Q_completeWith ic_Q co_Q_completeWith) rfl rfl rfl (by decide +kernel) ⟨by decide, by decide⟩) d_Q_complete_58 ⟨Nat.zero_le _, Nat.zero_le _⟩,
  mx_s_if_eq C d_Q_complete_61 (by decide),
  mx_s_iconst C d_Q_complete_64 (by decide),
  mx_s_zret C hr hlk d_Q_complete_65,
  mx_s_iinc C d_Q_complete_66 (by decide) (by decide),
  mx_s_goto C d_Q_complete_69 (by decide),
  mx_s_iconst C d_Q_complete_72 (by decide),
  mx_s_zret C hr hlk d_Q_complete_73,
  trivial⟩
set_option maxRecDepth 20000 in
set_option maxHeartbeats 2000000 in
theorem m_Q_complete0 (l : Launch) : mx_M l y_Q_complete w_Q_complete rm_Q_complete0 sp_Q_complete0 := by
  intro zD ztc ztb zad As F P sz0 h
  obtain ⟨n, N, ch, S, lt, st, qs, qt, m, fl, l, rfl, h3, h4, h5, hw, h15, h16, h17, hq, hm, h18, hfl, hh, hor, hdm, hp⟩ := h
  refine mx_run (cc := c_Q_complete) (maxL := 5) (ret := (some .boolean)) (tab := t_Q_complete0  P) (by decide) rfl zD ztc ztb zad _ F P sz0 (Nat.le_of_ble_eq_true rfl) (fun p e s m args below meth c C hr hlk => a_Q_complete0  C hr hlk) ?_
  intro Rr go
  have hn := hw.1.1
  obtain ⟨fo, hfo, hob⟩ := id hor
  rcases Nat.lt_or_ge 0 m with hd | hd
  rotate_left
  · refine go rfl ⟨_, rfl, ?_⟩
    refine go rfl ⟨_, rfl, ?_⟩
    refine go rfl ⟨_, _, _, rfl, fun c => ?_, fun c => ?_⟩
    · refine go rfl ?_
      refine go rfl ⟨_, rfl, rfl, rfl, (Or.inr rfl), ?_⟩
      refine (hp F fl h18 (sfr_rf 0 F) hq).1 l ?_ (fun i hi => hfl i (by omega))
      rw [show m - 0 = 0 by omega]
      rfl
    · exact absurd (nI_le hd (by omega)) c
  refine go rfl ⟨_, rfl, ?_⟩
  refine go rfl ⟨_, rfl, ?_⟩
  refine go rfl ⟨_, _, _, rfl, fun c => ?_, fun c => ?_⟩
  · exact absurd ((nI_leI (by omega) (by omega)).mp c) (by omega)
  refine go rfl ⟨_, rfl, ?_⟩
  refine go rfl ?_
  refine go rfl ⟨_, _, _, rfl, fun c2 => ?_, fun c2 => ?_⟩
  rotate_left
  · exact absurd (nI_lt (show 0 < 5 by omega) (by omega)) c2
  have hsr : sr n N ch m (m - 0) 0 l = scf (sv n N ch m (m - 1) 0 l) 0 n := by
    rw [show m - 0 = m - 1 + 1 by omega, sr_s]
  have loop : ∀ (k v : Nat) (jk : Option mx_V) (G : mx_F) (f2 : Nat → Int32), v + k = n → sfr 0 F G → qrw G → G 18 = some (mx_ia 5 f2) → (∀ i, i < 0 → f2 i = fl i) → sr n N ch m (m - 0) 0 l = scf (sv n N ch m (m - 1) 0 l) v k → Rr 14 [some (mx_r 15), some (mx_i (nI 0)), some (mx_i (nI m)), some (mx_i (nI v)), jk] [] G 0 0 := by
    intro k
    induction k with
    | zero =>
      intro v jk G f2 hv hg hqg g18 hf2 hs
      have g3 : G 3 = _ := (hg 3 (by omega)).trans h3
      have g15 : G 15 = _ := (hg 15 (by omega)).trans h15
      have hG := mx_as2 g3 g15
      rw [hG]
      refine go rfl ⟨_, rfl, ?_⟩
      refine go rfl ⟨_, rfl, ?_⟩
      refine go rfl ⟨_, _, _, _, rfl, rfl, rfl, ?_⟩
      refine go rfl ⟨_, _, _, rfl, rfl, rfl, rfl, rfl, ⟨n, rfl, rfl, ?_⟩⟩
      rw [← hG]
      refine go rfl ⟨_, _, _, rfl, fun c3 => ?_, fun c3 => ?_⟩
      · refine go rfl ?_
        refine go rfl ⟨_, rfl, rfl, rfl, (Or.inl rfl), ?_⟩
        exact (hp G f2 g18 hg hqg).2 hs hf2
      · exact absurd (nI_le (by omega) (by omega)) c3
    | succ k ih =>
      intro v jk G f2 hv hg hqg g18 hf2 hs
      have g3 : G 3 = _ := (hg 3 (by omega)).trans h3
      have g4 : G 4 = _ := (hg 4 (by omega)).trans h4
      have g5 : G 5 = _ := (hg 5 (by omega)).trans h5
      have g15 : G 15 = _ := (hg 15 (by omega)).trans h15
      have g16 : G 16 = _ := (hg 16 (by omega)).trans h16
      have g17 : G 17 = _ := (hg 17 (by omega)).trans h17
      have g24 : G (24 + 0) = some (mx_la 5 fo) := (hg (24 + 0) (by omega)).trans hfo
      have hG := mx_as3 g3 g15 g17
      have hvn : v < n := by omega
      have next : sv n N ch m (m - 1) 0 l v = none → ∀ (jk : Option mx_V) (G : mx_F) (f2 : Nat → Int32), sfr 0 F G → qrw G → G 18 = some (mx_ia 5 f2) → (∀ i, i < 0 → f2 i = fl i) → Rr 66 [some (mx_r 15), some (mx_i (nI 0)), some (mx_i (nI m)), some (mx_i (nI v)), jk] [] G 0 0 := by
        intro hno jk G f2 hg hqg g18 hf2
        refine go rfl ⟨_, rfl, ?_⟩
        refine go rfl ?_
        rw [nI_add]
        refine ih (v + 1) _ G f2 (by omega) hg hqg g18 hf2 ?_
        rw [hs, scf_n hno]
      rw [hG]
      refine go rfl ⟨_, rfl, ?_⟩
      refine go rfl ⟨_, rfl, ?_⟩
      refine go rfl ⟨_, _, _, _, rfl, rfl, rfl, ?_⟩
      refine go rfl ⟨_, _, _, rfl, rfl, rfl, rfl, rfl, ⟨n, rfl, rfl, ?_⟩⟩
      refine go rfl ⟨_, _, _, rfl, fun c3 => ?_, fun c3 => ?_⟩
      · exact absurd ((nI_leI (by omega) (by omega)).mp c3) (by omega)
      refine go rfl ⟨_, rfl, ?_⟩
      refine go rfl ⟨_, _, _, _, rfl, rfl, rfl, ?_⟩
      refine go rfl ⟨_, rfl, ?_⟩
      refine go rfl ⟨_, _, _, _, _, _, _, rfl, rfl, ⟨_, rfl, rfl⟩, (vp_in_nI (show 0 < 5 by omega) (by omega)), (g5_at (show 0 < 5 by omega)), ?_⟩
      refine go rfl ⟨_, rfl, ?_⟩
      rw [← hG]
      refine go rfl ⟨_, _, _, _, _, rfl, g24, vp_in_nI (show 0 < 5 by omega) (by omega), ?_⟩
      rw [nI_clamp (show 0 < 2 ^ 31 by omega)]
      refine go rfl ⟨_, rfl, ?_⟩
      refine go rfl ⟨_, _, _, rfl, ?_⟩
      refine go rfl ?_
      refine go rfl ⟨_, _, _, rfl, ?_⟩
      refine go rfl ?_
      refine go rfl ⟨_, _, _, rfl, ?_⟩
      have hbv := hob 0 (Nat.le_refl _) hd v
      refine go rfl ⟨_, _, rfl, fun e => ?_, fun e => ?_⟩
      · have e := (bt_may (by omega)).mp (lcmp0.mp e)
        have hnc : ¬ cand N ch m 0 l v := fun h => e (hbv.mpr ⟨hvn, h.1, h.2⟩)
        refine go rfl ?_
        refine go rfl ⟨_, _, rfl, ?_⟩
        refine go rfl ⟨_, rfl, ?_⟩
        refine go rfl ⟨_, _, rfl, fun e2 => ?_, fun e2 => ?_⟩
        · exact next (sv_n hnc) _ G f2 hg hqg g18 hf2
        · exact absurd rfl e2
      have e : bt (fo 0) v := Classical.byContradiction (fun q => e (lcmp0.mpr ((bt_may (by omega)).mpr q)))
      have hcd : cand N ch m 0 l v := ⟨(hbv.mp e).2.1, (hbv.mp e).2.2⟩
      refine go rfl ?_
      refine go rfl ?_
      refine go rfl ⟨_, _, rfl, ?_⟩
      refine go rfl ⟨_, rfl, ?_⟩
      refine go rfl ⟨_, _, rfl, fun e2 => ?_, fun e2 => ?_⟩
      · exact absurd e2 (by decide)
      refine go rfl ⟨_, rfl, ?_⟩
      refine go rfl ⟨_, rfl, ?_⟩
      refine go rfl ⟨_, rfl, ?_⟩
      refine go rfl ⟨_, rfl, ?_⟩
      refine go rfl ⟨_, _, _, _, _, _, rfl, g15, rfl, rfl, rfl, ⟨n, N, ch, S, lt, st, _, _, m, f2, l, v, rfl, g3, g4, g5, hw, g15, g16, g17, hqg, hm, g18, fun i hi => (hf2 i hi).trans (hfl i hi), hrw_t hh (fun x hx => hg _ (by omega)), ⟨fo, g24, hob⟩, hvn, hd, hcd.1, fun F2 f3 q1 q2 q3 => ⟨fun r e5 q4 => ?_, fun e5 q4 => ?_⟩⟩⟩
      · refine go rfl ⟨_, _, rfl, fun e3 => ?_, fun e3 => ?_⟩
        · exact absurd e3 (by decide)
        refine go rfl ?_
        refine go rfl ⟨_, rfl, rfl, rfl, (Or.inr rfl), ?_⟩
        refine (hp F2 f3 q1 (sfr_tr hg q2) q3).1 r ?_ q4
        rw [hs]
        exact scf_s (by rw [sv_y hcd]; exact e5)
      · refine go rfl ⟨_, _, rfl, fun e3 => ?_, fun e3 => ?_⟩
        · refine next (by rw [sv_y hcd]; exact e5) _ F2 f3 (sfr_tr hg q2) q3 q1 (fun i hi => ?_)
          rw [q4 i hi]
          exact hf2 i hi
        · exact absurd rfl e3
  refine go rfl ?_
  refine go rfl ⟨_, _, rfl, ?_⟩
  exact loop n 0 none F fl (by omega) (sfr_rf 0 F) hq h18 (fun _ _ => rfl) hsr
