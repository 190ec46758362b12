def mx_ci0 (sp : mx_Sp) (cm sm mc ms nx : Nat) : mx_O := fun lv st F ca sl K => ∃ (q : Nat) (r : mx_S), st = mx_r q :: r ∧ Nat.ble (mx_cs r) 8 = true ∧ mx_okS F r = true ∧ mx_okL F lv = true ∧ Nat.ble (ca + cm) mc = true ∧ Nat.ble (sl + sm) ms = true ∧ sp [mx_r q] F (mx_k nx lv r (ca + cm) (sl + sm) K)
def mx_ci1 (sp : mx_Sp) (cm sm mc ms nx : Nat) : mx_O := fun lv st F ca sl K => ∃ (q : Nat) (a1 : mx_V) (r : mx_S), st = a1 :: mx_r q :: r ∧ Nat.ble (mx_cs r) 8 = true ∧ mx_okS F r = true ∧ mx_okL F lv = true ∧ Nat.ble (ca + cm) mc = true ∧ Nat.ble (sl + sm) ms = true ∧ sp [mx_r q, a1] F (mx_k nx lv r (ca + cm) (sl + sm) K)
def mx_ci2 (sp : mx_Sp) (cm sm mc ms nx : Nat) : mx_O := fun lv st F ca sl K => ∃ (q : Nat) (a1 a2 : mx_V) (r : mx_S), st = a2 :: a1 :: mx_r q :: r ∧ Nat.ble (mx_cs r) 8 = true ∧ mx_okS F r = true ∧ mx_okL F lv = true ∧ Nat.ble (ca + cm) mc = true ∧ Nat.ble (sl + sm) ms = true ∧ sp [mx_r q, a1, a2] F (mx_k nx lv r (ca + cm) (sl + sm) K)
section MXI
variable {p : Program} {l : Launch} {e : Env} {R : Room} {s : State} {m : MethodId} {args : Array Value} {below : List Frame} {meth : Method} {c : Code} {Q : State → Prop} {cc : ByteArray} {own : String} {Ts : List Cond} {D : va_G} {tc : Nat → ClassId} {tb : Nat → Nat} {A : Nat → Prop} {nL : Nat} {Ok : (Nat → Nat) → mx_F → Prop} {pc : Nat}
theorem mx_after1 (C : mx_C p s m args c cc own Ts D tc tb A nL Ok) (hUp : ∀ (ad ad' : Nat → Nat) (F F' : mx_F), mx_Ok1 ad F ad' F' → Ok ad F → Ok ad' F') {ad : Nat → Nat} {F : mx_F} {H : Heap} {locs : List Loc} {ls : Array Slot} {lv : mx_L} {r : mx_S} {st0 : List Value} {a : Array Value} {ca sl cm sm : Nat}
    (hr : va_Run p l e R s m args below meth c H locs ca sl cm sm (F0 m pc ls st0) (r.map (mx_v ad tb)) (mx_Q1 D tc tb ad F H.size (mx_k (pc + 3) lv r (ca + cm) (sl + sm) (mx_W p l e R s m args below meth c Q D tc tb A nL Ok)) a) (mx_A ad F H.size))
    (hrS : mx_okS F r = true) (hrL : mx_okL F lv = true) (h1 : Ok ad F) (hD : mx_D A ad F) (hS : va_S A s.heap H locs) (hl : mx_H ad tb ls nL lv) : W p l e R s m args below meth c H locs ca sl Q (F0 m pc ls st0) := by
  obtain ⟨hx, hb, hml, hown, hts, hK, hA, hZ, hOk⟩ := C
  intro T hT X
  obtain ⟨v, st₀, t, T', L, h0, X', hL, e1, e2, ⟨⟨rv, F', ad', hv, hk, ho, hP', hD'⟩, hz, hkp⟩, st⟩ := hr T hT X
  have hv2 : v = rv.map (mx_v ad' tb) := by cases hv; rfl
  subst hv2
  rw [h0] at hz hkp
  have hF : ∀ q, mx_A ad F H.size q → A q := by
    intro q hq
    rcases hq with ⟨k, x, hx2, rfl⟩ | hq
    · exact hD.2 k x hx2
    · exact hA q (Nat.le_trans hS.1 hq)
  have hD2 : mx_D A ad' F' := ⟨hD'.1, fun k x hx2 => hF _ (hD'.2 k x hx2)⟩
  have hS2 : va_S A s.heap T'.heap (locs ++ L) := ⟨Nat.le_trans hS.1 (by rw [e1]; exact hz), fun q g1 g2 => by rw [e1, hkp q (Nat.lt_of_lt_of_le g1 hS.1) (fun z => g2 (hF q z))]; exact hS.2.1 q g1 g2, fun q hq => by
      rcases List.mem_append.mp hq with h | h
      · exact hS.2.2 q h
      · exact hF _ (hL q h)⟩
  have hst := mx_st_same (tb := tb) (ad := ad) (ad' := ad') (st := r) (mx_okS_v ho.1 hrS)
  have hl2 := mx_H_same (tb := tb) (ad := ad) (ad' := ad') (mx_okL_v ho.1 hrL) hl
  rw [← hst] at st
  cases rv with
  | none =>
    obtain ⟨t2, a1, b1⟩ := hk ad' T'.heap (locs ++ L) ls (hUp ad ad' F F' ho h1) (by rw [e1]; exact hP') hD2 hS2 hl2 T' rfl X'
    exact ⟨t2, st t2 a1, b1⟩
  | some x =>
    obtain ⟨t2, a1, b1⟩ := hk ad' T'.heap (locs ++ L) ls (hUp ad ad' F F' ho h1) (by rw [e1]; exact hP') hD2 hS2 hl2 T' rfl X'
    exact ⟨t2, st t2 a1, b1⟩
theorem mx_Ok1_tr {a0 ad ad' : Nat → Nat} {G F F' : mx_F} (h : mx_Ok1 ad F ad' F') (h0 : mx_Ok1 a0 G ad F) : mx_Ok1 a0 G ad' F' := by
  refine ⟨fun k x hx => ?_, mx_in_tr h0.2 h.2⟩
  obtain ⟨y, hy⟩ := h0.2 k x hx
  rw [h.1 k y hy, h0.1 k x hx]
variable {y : MethodName} {ws : List Cond} {rm : Room} {sp : mx_Sp} {bytes : ByteArray} {maxL n i : Nat}
theorem mx_ciW (C : mx_C p s m args c cc own Ts D tc tb A nL Ok) (hUp : ∀ (ad ad' : Nat → Nat) (F F' : mx_F), mx_Ok1 ad F ad' F' → Ok ad F → Ok ad' F') (hM : mx_M1 l y ws rm sp) {cm sm : Nat} (hcm : rm.cells = cm) (hsm : rm.slots = sm) (cw : CallB R s args own i y bytes maxL none ws rm cm sm n ∧ y.name = "<init>" ∧ (Cond.instanceMethod y).before args s = true) (hd : decode cc pc = .ok (.invokespecial i, 3)) {q : Nat} {As : List mx_V} {r : mx_S} {lv : mx_L} {F : mx_F} (hn : As.length = n) (h8 : mx_cs r ≤ 8) (hrS : mx_okS F r = true) (hrL : mx_okL F lv = true) {ca sl : Nat} (hf : ca + cm ≤ R.cells ∧ sl + sm ≤ R.slots)
    (h : sp (mx_r q :: As) F (mx_k (pc + 3) lv r (ca + cm) (sl + sm) (mx_W p l e R s m args below meth c Q D tc tb A nL Ok))) : mx_W p l e R s m args below meth c Q D tc tb A nL Ok pc lv (As.reverse ++ mx_r q :: r) F ca sl := by
  subst hcm
  subst hsm
  intro ad H locs ls h1 hP hD hS hl
  refine mx_after1 (r := r) (lv := lv) C hUp (va_runI (As := As.map (mx_v ad tb)) (rest := r.map (mx_v ad tb)) (b := ad q) ⟨C.1, C.2.1, C.2.2.1, C.2.2.2.1, C.2.2.2.2.1⟩ (hM D tc tb ad (mx_r q :: As) F _ H.size h) cw ⟨mx_blind, fun U hU hW => mx_pre (As := mx_r q :: As) C hP hD hS U hU hW⟩ rfl (by rw [List.length_map]; exact hn) hl.2.1 ?_ (mx_room h8) hd hf) hrS hrL h1 hD hS hl
  show (As.reverse ++ mx_r q :: r).map (mx_v ad tb) = _
  rw [List.map_append, List.map_reverse]
  rfl
theorem mx_ciNW (C : mx_C p s m args c cc own Ts D tc tb A nL Ok) (hUp : ∀ (ad ad' : Nat → Nat) (F F' : mx_F), mx_Ok1 ad F ad' F' → Ok ad F → Ok ad' F') (hM : mx_M1 l y ws rm sp) {cm sm : Nat} (hcm : rm.cells = cm) (hsm : rm.slots = sm) {host : String} (cw : va_CN R s args own i y host bytes maxL none ws rm cm sm n ∧ y.name = "<init>" ∧ (Cond.instanceMethod y).before args s = true) (hd : decode cc pc = .ok (.invokespecial i, 3)) {q : Nat} {As : List mx_V} {r : mx_S} {lv : mx_L} {F : mx_F} (hn : As.length = n) (h8 : mx_cs r ≤ 8) (hrS : mx_okS F r = true) (hrL : mx_okL F lv = true) {ca sl : Nat} (hf : ca + cm ≤ R.cells ∧ sl + sm ≤ R.slots)
    (h : sp (mx_r q :: As) F (mx_k (pc + 3) lv r (ca + cm) (sl + sm) (mx_W p l e R s m args below meth c Q D tc tb A nL Ok))) : mx_W p l e R s m args below meth c Q D tc tb A nL Ok pc lv (As.reverse ++ mx_r q :: r) F ca sl := by
  subst hcm
  subst hsm
  intro ad H locs ls h1 hP hD hS hl
  refine mx_after1 (r := r) (lv := lv) C hUp (va_runIN (As := As.map (mx_v ad tb)) (rest := r.map (mx_v ad tb)) (b := ad q) ⟨C.1, C.2.1, C.2.2.1, C.2.2.2.1, C.2.2.2.2.1⟩ (hM D tc tb ad (mx_r q :: As) F _ H.size h) cw ⟨mx_blind, fun U hU hW => mx_pre (As := mx_r q :: As) C hP hD hS U hU hW⟩ rfl (by rw [List.length_map]; exact hn) hl.2.1 ?_ (mx_room h8) hd hf) hrS hrL h1 hD hS hl
  show (As.reverse ++ mx_r q :: r).map (mx_v ad tb) = _
  rw [List.map_append, List.map_reverse]
  rfl
theorem mx_s_ci0 (C : mx_C p s m args c cc own Ts D tc tb A nL Ok) (hUp : ∀ (ad ad' : Nat → Nat) (F F' : mx_F), mx_Ok1 ad F ad' F' → Ok ad F → Ok ad' F') (hM : mx_M1 l y ws rm sp) {cm sm mc ms : Nat} (hcm : rm.cells = cm) (hsm : rm.slots = sm) (cw : CallB R s args own i y bytes maxL none ws rm cm sm 0 ∧ y.name = "<init>" ∧ (Cond.instanceMethod y).before args s = true) (hd : decode cc pc = .ok (.invokespecial i, 3)) (hR : mc ≤ R.cells ∧ ms ≤ R.slots) : mx_So (mx_W p l e R s m args below meth c Q D tc tb A nL Ok) pc (mx_ci0 sp cm sm mc ms (pc + 3)) := by
  intro lv st F ca sl h
  obtain ⟨q, r, rfl, h8, hrS, hrL, g1, g2, h⟩ := h
  exact mx_ciW (As := []) C hUp hM hcm hsm cw hd rfl (Nat.le_of_ble_eq_true h8) hrS hrL ⟨Nat.le_trans (Nat.le_of_ble_eq_true g1) hR.1, Nat.le_trans (Nat.le_of_ble_eq_true g2) hR.2⟩ h
theorem mx_s_ciN0 (C : mx_C p s m args c cc own Ts D tc tb A nL Ok) (hUp : ∀ (ad ad' : Nat → Nat) (F F' : mx_F), mx_Ok1 ad F ad' F' → Ok ad F → Ok ad' F') (hM : mx_M1 l y ws rm sp) {cm sm mc ms : Nat} (hcm : rm.cells = cm) (hsm : rm.slots = sm) {host : String} (cw : va_CN R s args own i y host bytes maxL none ws rm cm sm 0 ∧ y.name = "<init>" ∧ (Cond.instanceMethod y).before args s = true) (hd : decode cc pc = .ok (.invokespecial i, 3)) (hR : mc ≤ R.cells ∧ ms ≤ R.slots) : mx_So (mx_W p l e R s m args below meth c Q D tc tb A nL Ok) pc (mx_ci0 sp cm sm mc ms (pc + 3)) := by
  intro lv st F ca sl h
  obtain ⟨q, r, rfl, h8, hrS, hrL, g1, g2, h⟩ := h
  exact mx_ciNW (As := []) C hUp hM hcm hsm cw hd rfl (Nat.le_of_ble_eq_true h8) hrS hrL ⟨Nat.le_trans (Nat.le_of_ble_eq_true g1) hR.1, Nat.le_trans (Nat.le_of_ble_eq_true g2) hR.2⟩ h
theorem mx_s_ci1 (C : mx_C p s m args c cc own Ts D tc tb A nL Ok) (hUp : ∀ (ad ad' : Nat → Nat) (F F' : mx_F), mx_Ok1 ad F ad' F' → Ok ad F → Ok ad' F') (hM : mx_M1 l y ws rm sp) {cm sm mc ms : Nat} (hcm : rm.cells = cm) (hsm : rm.slots = sm) (cw : CallB R s args own i y bytes maxL none ws rm cm sm 1 ∧ y.name = "<init>" ∧ (Cond.instanceMethod y).before args s = true) (hd : decode cc pc = .ok (.invokespecial i, 3)) (hR : mc ≤ R.cells ∧ ms ≤ R.slots) : mx_So (mx_W p l e R s m args below meth c Q D tc tb A nL Ok) pc (mx_ci1 sp cm sm mc ms (pc + 3)) := by
  intro lv st F ca sl h
  obtain ⟨q, a1, r, rfl, h8, hrS, hrL, g1, g2, h⟩ := h
  exact mx_ciW (As := [a1]) C hUp hM hcm hsm cw hd rfl (Nat.le_of_ble_eq_true h8) hrS hrL ⟨Nat.le_trans (Nat.le_of_ble_eq_true g1) hR.1, Nat.le_trans (Nat.le_of_ble_eq_true g2) hR.2⟩ h
theorem mx_s_ciN1 (C : mx_C p s m args c cc own Ts D tc tb A nL Ok) (hUp : ∀ (ad ad' : Nat → Nat) (F F' : mx_F), mx_Ok1 ad F ad' F' → Ok ad F → Ok ad' F') (hM : mx_M1 l y ws rm sp) {cm sm mc ms : Nat} (hcm : rm.cells = cm) (hsm : rm.slots = sm) {host : String} (cw : va_CN R s args own i y host bytes maxL none ws rm cm sm 1 ∧ y.name = "<init>" ∧ (Cond.instanceMethod y).before args s = true) (hd : decode cc pc = .ok (.invokespecial i, 3)) (hR : mc ≤ R.cells ∧ ms ≤ R.slots) : mx_So (mx_W p l e R s m args below meth c Q D tc tb A nL Ok) pc (mx_ci1 sp cm sm mc ms (pc + 3)) := by
  intro lv st F ca sl h
  obtain ⟨q, a1, r, rfl, h8, hrS, hrL, g1, g2, h⟩ := h
  exact mx_ciNW (As := [a1]) C hUp hM hcm hsm cw hd rfl (Nat.le_of_ble_eq_true h8) hrS hrL ⟨Nat.le_trans (Nat.le_of_ble_eq_true g1) hR.1, Nat.le_trans (Nat.le_of_ble_eq_true g2) hR.2⟩ h
theorem mx_s_ci2 (C : mx_C p s m args c cc own Ts D tc tb A nL Ok) (hUp : ∀ (ad ad' : Nat → Nat) (F F' : mx_F), mx_Ok1 ad F ad' F' → Ok ad F → Ok ad' F') (hM : mx_M1 l y ws rm sp) {cm sm mc ms : Nat} (hcm : rm.cells = cm) (hsm : rm.slots = sm) (cw : CallB R s args own i y bytes maxL none ws rm cm sm 2 ∧ y.name = "<init>" ∧ (Cond.instanceMethod y).before args s = true) (hd : decode cc pc = .ok (.invokespecial i, 3)) (hR : mc ≤ R.cells ∧ ms ≤ R.slots) : mx_So (mx_W p l e R s m args below meth c Q D tc tb A nL Ok) pc (mx_ci2 sp cm sm mc ms (pc + 3)) := by
  intro lv st F ca sl h
  obtain ⟨q, a1, a2, r, rfl, h8, hrS, hrL, g1, g2, h⟩ := h
  exact mx_ciW (As := [a1, a2]) C hUp hM hcm hsm cw hd rfl (Nat.le_of_ble_eq_true h8) hrS hrL ⟨Nat.le_trans (Nat.le_of_ble_eq_true g1) hR.1, Nat.le_trans (Nat.le_of_ble_eq_true g2) hR.2⟩ h
theorem mx_s_ciN2 (C : mx_C p s m args c cc own Ts D tc tb A nL Ok) (hUp : ∀ (ad ad' : Nat → Nat) (F F' : mx_F), mx_Ok1 ad F ad' F' → Ok ad F → Ok ad' F') (hM : mx_M1 l y ws rm sp) {cm sm mc ms : Nat} (hcm : rm.cells = cm) (hsm : rm.slots = sm) {host : String} (cw : va_CN R s args own i y host bytes maxL none ws rm cm sm 2 ∧ y.name = "<init>" ∧ (Cond.instanceMethod y).before args s = true) (hd : decode cc pc = .ok (.invokespecial i, 3)) (hR : mc ≤ R.cells ∧ ms ≤ R.slots) : mx_So (mx_W p l e R s m args below meth c Q D tc tb A nL Ok) pc (mx_ci2 sp cm sm mc ms (pc + 3)) := by
  intro lv st F ca sl h
  obtain ⟨q, a1, a2, r, rfl, h8, hrS, hrL, g1, g2, h⟩ := h
  exact mx_ciNW (As := [a1, a2]) C hUp hM hcm hsm cw hd rfl (Nat.le_of_ble_eq_true h8) hrS hrL ⟨Nat.le_trans (Nat.le_of_ble_eq_true g1) hR.1, Nat.le_trans (Nat.le_of_ble_eq_true g2) hR.2⟩ h
end MXI
theorem mx_s_ret1 {p : Program} {l : Launch} {e : Env} {R : Room} {s : State} {m : MethodId} {args : Array Value} {below : List Frame} {meth : Method} {c : Code} {cc : ByteArray} {own : String} {Ts : List Cond} {D : va_G} {tc : Nat → ClassId} {tb : Nat → Nat} {nL pc sz mc ms : Nat} {a0 : Nat → Nat} {G : mx_F} {P : Option mx_V → mx_F → Prop} (C : mx_C p s m args c cc own Ts D tc tb (mx_A a0 G sz) nL (mx_Ok1 a0 G)) (hr : meth.sig.returnType = none) (hlk : meth.locks = false) (hd : decode cc pc = .ok (.return_, 1)) : mx_So (mx_W p l e R s m args below meth c (MQ below (mx_Q1 D tc tb a0 G sz P) args s mc ms (mx_A a0 G sz)) D tc tb (mx_A a0 G sz) nL (mx_Ok1 a0 G)) pc (mx_ret1 P mc ms) := by
  obtain ⟨hx, hb, hml, hown, hts, hK, hA, hZ, hOk⟩ := C
  intro lv st F ca sl h
  obtain ⟨rfl, g1, g2, h⟩ := h
  intro ad H locs ls h1 hP hD hS hl
  refine W.widen (k := mc) (n := ms) (Nat.le_of_ble_eq_true g1) (Nat.le_of_ble_eq_true g2) ?_
  exact W.vret hx hb hr (fun t ht hW => ⟨⟨none, F, ad, rfl, h, h1, by rw [ht]; exact hP, hD⟩, hS.F ht⟩) hS.2.2 hd hlk
