/-! CONTRACTS OVER WORLDS: entry, return, call -/
/-- the addresses stay, the places stay -/
def mx_Ok0 (a0 : Nat → Nat) (G : mx_F) : (Nat → Nat) → mx_F → Prop := fun ad F => ad = a0 ∧ mx_in G F
def mx_B (D : va_G) (tc : Nat → ClassId) (tb ad : Nat → Nat) (F : mx_F) (sz : Nat) : State → Prop := fun U => U.heap.size = sz ∧ mx_P D tc ad tb F U.heap ∧ va_K D vwCl (mx_t tc mx_ft) U ∧ mx_D (fun _ => True) ad F ∧ mx_Z tb (mx_A ad F sz) U U.heap
def mx_Q (D : va_G) (tc : Nat → ClassId) (tb ad : Nat → Nat) (F : mx_F) (sz : Nat) (P : Option mx_V → mx_F → Prop) : Array Value → State → Outcome → State → Prop := fun _ st oc t =>
  (∃ (r : Option mx_V) (F' : mx_F), oc = .returned (r.map (mx_v ad tb)) ∧ P r F' ∧ mx_in F F' ∧ mx_P D tc ad tb F' t.heap ∧ mx_D (mx_A ad F sz) ad F') ∧ va_F (mx_A ad F sz) st t
/-- a contract: what the specification asks for gives what the answer and the world must be; no cell is made -/
def mx_M (l : Launch) (y : MethodName) (ws : List Cond) (rm : Room) (sp : mx_Sp) : Prop := ∀ (D : va_G) (tc : Nat → ClassId) (tb ad : Nat → Nat) (As : List mx_V) (F : mx_F) (P : Option mx_V → mx_F → Prop) (sz : Nat), sp As F P →
  Met l y ws rm (va_Pc (As.map (mx_v ad tb)) (mx_B D tc tb ad F sz)) (mx_Q D tc tb ad F sz P) 0 0 (mx_A ad F sz)
theorem mx_blind {D : va_G} {tc : Nat → ClassId} {tb ad : Nat → Nat} {F : mx_F} {sz : Nat} {av : List Value} : FrameBlind (va_Pc av (mx_B D tc tb ad F sz)) := by
  intro a U g mk q
  obtain ⟨q0, q1, qP, qK, qD, qZ⟩ := q
  exact ⟨q0, q1, qP, va_K.moved (u := U) (U := U.calling g mk a) (Vm.Alike.refl U.vm) qK, qD, qZ.to (U := U.calling g mk a) (Vm.Alike.refl U.vm) (mx_nw_same rfl) (fun _ _ _ => rfl) (fun _ h => h)⟩
-- the locals at the entry
def mx_ar : List mx_V → mx_L
  | [] => []
  | v :: r => match v with
    | .inr (.inl _) => some v :: none :: mx_ar r
    | _ => some v :: mx_ar r
def mx_en (As : List mx_V) (n : Nat) : mx_L := mx_ar As ++ List.replicate (n - (mx_ar As).length) none
theorem mx_ar_len (ad tb : Nat → Nat) (As : List mx_V) : (lg_sl (As.map (mx_v ad tb))).length = (mx_ar As).length := by
  induction As with
  | nil => rfl
  | cons v r ih =>
    have e1 : lg_sl ((v :: r).map (mx_v ad tb)) = (if (mx_v ad tb v).category = 2 then [.val (mx_v ad tb v), .second] else [.val (mx_v ad tb v)]) ++ lg_sl (r.map (mx_v ad tb)) := by
      simp [lg_sl]
    rw [e1, List.length_append, ih, mx_cat_v]
    rcases v with x | x | x | x <;> simp [mx_ar, mx_cat] <;> omega
theorem mx_ar_mem (ad tb : Nat → Nat) : ∀ (As : List mx_V) (i j : Nat) (w : mx_V), (mx_ar As)[j]? = some (some w) → (i + j, mx_v ad tb w) ∈ lv_args i (As.map (mx_v ad tb))
  | [], _, _, _, h => by simp [mx_ar] at h
  | v :: r, i, j, w, h => by
    have ih := mx_ar_mem ad tb r
    have e2 : lv_args i ((v :: r).map (mx_v ad tb)) = (i, mx_v ad tb v) :: lv_args (if (mx_v ad tb v).category = 2 then i + 2 else i + 1) (r.map (mx_v ad tb)) := rfl
    rw [e2, mx_cat_v]
    have one : ∀ (hc : mx_cat v ≠ 2) (h : (some v :: mx_ar r)[j]? = some (some w)), (i + j, mx_v ad tb w) ∈ (i, mx_v ad tb v) :: lv_args (if mx_cat v = 2 then i + 2 else i + 1) (r.map (mx_v ad tb)) := by
      intro hc h
      cases j with
      | zero =>
        simp at h
        subst h
        exact List.mem_cons_self
      | succ k =>
        rw [List.getElem?_cons_succ] at h
        rw [if_neg hc]
        have := ih (i + 1) k w h
        rw [show i + (k + 1) = i + 1 + k by omega]
        exact List.mem_cons_of_mem _ this
    rcases v with x | x | x | x
    · exact one (show (1 : Nat) ≠ 2 by decide) h
    · have h' : (some (Sum.inr (Sum.inl x)) :: none :: mx_ar r)[j]? = some (some w) := h
      match j, h' with
      | 0, h' =>
        simp at h'
        subst h'
        exact List.mem_cons_self
      | 1, h' => simp at h'
      | k + 2, h' =>
        rw [List.getElem?_cons_succ, List.getElem?_cons_succ] at h'
        have := ih (i + 2) k w h'
        rw [show i + (k + 2) = i + 2 + k by omega]
        exact List.mem_cons_of_mem _ this
    · exact one (show (1 : Nat) ≠ 2 by decide) h
    · exact one (show (1 : Nat) ≠ 2 by decide) h
theorem mx_entry {ad tb : Nat → Nat} {As : List mx_V} {n : Nat} (h : (mx_ar As).length ≤ n) : mx_H ad tb ((lg_sl (As.map (mx_v ad tb)) ++ List.replicate (n - (lg_sl (As.map (mx_v ad tb))).length) Slot.unset).toArray) n (mx_en As n) := by
  have hl := lv_entry (As.map (mx_v ad tb)) (n := n) (by rw [mx_ar_len]; exact h)
  refine ⟨by simp [mx_en]; omega, hl.1, hl.2.1, fun q hq => hl.2.2 q ?_⟩
  obtain ⟨w, h1, h2⟩ := mx_ls_mem.mp hq
  obtain ⟨j, x⟩ := q
  dsimp only at h1 h2
  unfold mx_en at h1
  rw [List.getElem?_append] at h1
  split at h1
  · have := mx_ar_mem ad tb As 0 j w h1
    rw [Nat.zero_add] at this
    rw [h2]
    exact this
  · rw [List.getElem?_replicate] at h1
    split at h1 <;> simp at h1
/-- a method's contract out of the walk of its body -/
theorem mx_enter {l : Launch} {y : MethodName} {ws ws' : List Cond} {rm : Room} {cc : ByteArray} {maxL : Nat} {ret : Option FieldType} (hy : plainName y.cls = true) (hw : ws = Cond.code y cc maxL ret :: ws') (D : va_G) (tc : Nat → ClassId) (tb ad : Nat → Nat) (As : List mx_V) (F : mx_F) (P : Option mx_V → mx_F → Prop) (sz : Nat) (hn : (mx_ar As).length ≤ maxL)
    (body : ∀ (p : Program) (e : Env) (s : State) (m : MethodId) (args : Array Value) (below : List Frame) (meth : Method) (c : Code), mx_C p s m args c cc y.cls ws D tc tb (mx_A ad F sz) maxL (mx_Ok0 ad F) → meth.sig.returnType = ret → meth.locks = false →
      mx_W p l e rm s m args below meth c (MQ below (mx_Q D tc tb ad F sz P) args s 0 0 (mx_A ad F sz)) D tc tb (mx_A ad F sz) maxL (mx_Ok0 ad F) 0 (mx_en As maxL) [] F 0 0) :
    Met l y ws rm (va_Pc (As.map (mx_v ad tb)) (mx_B D tc tb ad F sz)) (mx_Q D tc tb ad F sz P) 0 0 (mx_A ad F sz) := by
  refine Met.ofW (cc := cc) (maxL := maxL) (ret := ret) hy hw ?_
  intro p e s m args below meth c s₁ B hml hv
  obtain ⟨rfl, hsz, hP, hK, hD0, hZ⟩ := hv
  subst hsz
  have hD : mx_D (mx_A ad F s.heap.size) ad F := ⟨hD0.1, fun k x hx => Or.inl ⟨k, x, hx, rfl⟩⟩
  have hW := body p e s m _ below meth c ⟨B.exec, B.bytes, hml, findClass_of_methodNamed B.named, atoms_spec (ws := ws) B.pre, hK, fun q hq => Or.inr hq, hZ, fun a2 G G' h1 h2 => ⟨h2.1, mx_in_tr h2.2 h1⟩⟩ B.returns B.notSynchronized
  rw [lg_entry_eq]
  exact hW ad s.heap [] _ ⟨rfl, mx_in_rf F⟩ hP hD va_S.rf (mx_entry hn)
section MXR
variable {p : Program} {l : Launch} {e : Env} {R : Room} {s : State} {m : MethodId} {args : Array Value} {below : List Frame} {meth : Method} {c : Code} {cc : ByteArray} {own : String} {Ts : List Cond} {D : va_G} {tc : Nat → ClassId} {tb : Nat → Nat} {nL pc sz : Nat} {a0 : Nat → Nat} {G : mx_F} {P : Option mx_V → mx_F → Prop}
theorem mx_s_ret (C : mx_C p s m args c cc own Ts D tc tb (mx_A a0 G sz) nL (mx_Ok0 a0 G)) (hr : meth.sig.returnType = none) (hlk : meth.locks = false) (hd : decode cc pc = .ok (.return_, 1)) : mx_So (mx_W p l e R s m args below meth c (MQ below (mx_Q D tc tb a0 G sz P) args s 0 0 (mx_A a0 G sz)) D tc tb (mx_A a0 G sz) nL (mx_Ok0 a0 G)) pc (mx_ret P) := by
  obtain ⟨hx, hb, hml, hown, hts, hK, hA, hZ, hOk⟩ := C
  intro lv st F ca sl h
  obtain ⟨rfl, rfl, rfl, h⟩ := h
  intro ad H locs ls h1 hP hD hS hl
  obtain ⟨rfl, hin⟩ := h1
  exact W.vret hx hb hr (fun t ht hW => ⟨⟨none, F, rfl, h, hin, by rw [ht]; exact hP, hD⟩, hS.F ht⟩) hS.2.2 hd hlk
theorem mx_s_iret (C : mx_C p s m args c cc own Ts D tc tb (mx_A a0 G sz) nL (mx_Ok0 a0 G)) (hr : meth.sig.returnType = some .int) (hlk : meth.locks = false) (hd : decode cc pc = .ok (.ireturn, 1)) : mx_So (mx_W p l e R s m args below meth c (MQ below (mx_Q D tc tb a0 G sz P) args s 0 0 (mx_A a0 G sz)) D tc tb (mx_A a0 G sz) nL (mx_Ok0 a0 G)) pc (mx_iret P) := by
  obtain ⟨hx, hb, hml, hown, hts, hK, hA, hZ, hOk⟩ := C
  intro lv st F ca sl h
  obtain ⟨x, rfl, rfl, rfl, h⟩ := h
  intro ad H locs ls h1 hP hD hS hl
  obtain ⟨rfl, hin⟩ := h1
  exact W.iret (v := x) hx hb hr (fun t ht hW => ⟨⟨some (.inl x), F, rfl, h, hin, by rw [ht]; exact hP, hD⟩, hS.F ht⟩) hS.2.2 hd hlk
theorem mx_s_zret (C : mx_C p s m args c cc own Ts D tc tb (mx_A a0 G sz) nL (mx_Ok0 a0 G)) (hr : meth.sig.returnType = some .boolean) (hlk : meth.locks = false) (hd : decode cc pc = .ok (.ireturn, 1)) : mx_So (mx_W p l e R s m args below meth c (MQ below (mx_Q D tc tb a0 G sz P) args s 0 0 (mx_A a0 G sz)) D tc tb (mx_A a0 G sz) nL (mx_Ok0 a0 G)) pc (mx_zret P) := by
  obtain ⟨hx, hb, hml, hown, hts, hK, hA, hZ, hOk⟩ := C
  intro lv st F ca sl h
  obtain ⟨x, rfl, rfl, rfl, hx01, h⟩ := h
  intro ad H locs ls h1 hP hD hS hl
  obtain ⟨rfl, hin⟩ := h1
  have hn : narrow .boolean (.int x) = .int x := by
    rcases hx01 with rfl | rfl <;> rfl
  exact W.zret (v := x) hx hb hr hn (fun t ht hW => ⟨⟨some (.inl x), F, rfl, h, hin, by rw [ht]; exact hP, hD⟩, hS.F ht⟩) hS.2.2 hd hlk
theorem mx_s_lret (C : mx_C p s m args c cc own Ts D tc tb (mx_A a0 G sz) nL (mx_Ok0 a0 G)) (hr : meth.sig.returnType = some .long) (hlk : meth.locks = false) (hd : decode cc pc = .ok (.lreturn, 1)) : mx_So (mx_W p l e R s m args below meth c (MQ below (mx_Q D tc tb a0 G sz P) args s 0 0 (mx_A a0 G sz)) D tc tb (mx_A a0 G sz) nL (mx_Ok0 a0 G)) pc (mx_lret P) := by
  obtain ⟨hx, hb, hml, hown, hts, hK, hA, hZ, hOk⟩ := C
  intro lv st F ca sl h
  obtain ⟨x, rfl, rfl, rfl, h⟩ := h
  intro ad H locs ls h1 hP hD hS hl
  obtain ⟨rfl, hin⟩ := h1
  exact W.lret (v := x) hx hb hr (fun t ht hW => ⟨⟨some (.inr (.inl x)), F, rfl, h, hin, by rw [ht]; exact hP, hD⟩, hS.F ht⟩) hS.2.2 hd hlk
end MXR
section MXG
variable {p : Program} {l : Launch} {e : Env} {R : Room} {s : State} {m : MethodId} {args : Array Value} {below : List Frame} {meth : Method} {c : Code} {Q : State → Prop} {cc : ByteArray} {own : String} {Ts : List Cond} {D : va_G} {tc : Nat → ClassId} {tb : Nat → Nat} {A : Nat → Prop} {nL : Nat} {Ok : (Nat → Nat) → mx_F → Prop} {pc : Nat}
theorem mx_after (C : mx_C p s m args c cc own Ts D tc tb A nL Ok) {ad : Nat → Nat} {F : mx_F} {H : Heap} {locs : List Loc} {ls : Array Slot} {lv : mx_L} {r : mx_S} {st0 : List Value} {a : Array Value} {ca sl : Nat}
    (hr : va_Run p l e R s m args below meth c H locs ca sl 0 0 (F0 m pc ls st0) (r.map (mx_v ad tb)) (mx_Q D tc tb ad F H.size (mx_k (pc + 3) lv r ca sl (mx_W p l e R s m args below meth c Q D tc tb A nL Ok)) a) (mx_A ad F H.size))
    (h1 : Ok ad F) (hD : mx_D A ad F) (hS : va_S A s.heap H locs) (hl : mx_H ad tb ls nL lv) : W p l e R s m args below meth c H locs ca sl Q (F0 m pc ls st0) := by
  obtain ⟨hx, hb, hml, hown, hts, hK, hA, hZ, hOk⟩ := C
  intro T hT X
  obtain ⟨v, st₀, t, T', L, h0, X', hL, e1, e2, ⟨⟨rv, F', hv, hk, hin, hP', hD'⟩, hz, hkp⟩, st⟩ := hr T hT X
  have hv2 : v = rv.map (mx_v ad tb) := by cases hv; rfl
  subst hv2
  rw [h0] at hz hkp
  have hF : ∀ q, mx_A ad F H.size q → A q := by
    intro q hq
    rcases hq with ⟨k, x, hx2, rfl⟩ | hq
    · exact hD.2 k x hx2
    · exact hA q (Nat.le_trans hS.1 hq)
  have hD2 : mx_D A ad F' := ⟨hD'.1, fun k x hx2 => hF _ (hD'.2 k x hx2)⟩
  have hS2 : va_S A s.heap T'.heap (locs ++ L) := ⟨Nat.le_trans hS.1 (by rw [e1]; exact hz), fun q g1 g2 => by rw [e1, hkp q (Nat.lt_of_lt_of_le g1 hS.1) (fun z => g2 (hF q z))]; exact hS.2.1 q g1 g2, fun q hq => by
      rcases List.mem_append.mp hq with h | h
      · exact hS.2.2 q h
      · exact hF _ (hL q h)⟩
  cases rv with
  | none =>
    obtain ⟨t2, a1, b1⟩ := hk ad T'.heap (locs ++ L) ls (hOk ad F F' hin h1) (by rw [e1]; exact hP') hD2 hS2 hl T' rfl X'
    exact ⟨t2, st t2 a1, b1⟩
  | some x =>
    obtain ⟨t2, a1, b1⟩ := hk ad T'.heap (locs ++ L) ls (hOk ad F F' hin h1) (by rw [e1]; exact hP') hD2 hS2 hl T' rfl X'
    exact ⟨t2, st t2 a1, b1⟩
theorem mx_pre (C : mx_C p s m args c cc own Ts D tc tb A nL Ok) {ad : Nat → Nat} {F : mx_F} {H : Heap} {locs : List Loc} {As : List mx_V} (hP : mx_P D tc ad tb F H) (hD : mx_D A ad F) (hS : va_S A s.heap H locs) (U : State) (hU : U.heap = H) (hW : s.WarmedH U.vm) : va_Pc (As.map (mx_v ad tb)) (mx_B D tc tb ad F H.size) (As.map (mx_v ad tb)).toArray U := by
  obtain ⟨hx, hb, hml, hown, hts, hK, hA, hZ, hOk⟩ := C
  subst hU
  refine ⟨rfl, rfl, hP, va_K.moved hW.alike hK, ⟨hD.1, fun _ _ _ => trivial⟩, hZ.to hW.alike (mx_nw_warm hW) hS.2.1 ?_⟩
  intro q hq
  rcases hq with ⟨k, x, hx2, rfl⟩ | hq
  · exact hD.2 k x hx2
  · exact hA q (Nat.le_trans hS.1 hq)
theorem mx_recv (C : mx_C p s m args c cc own Ts D tc tb A nL Ok) {ad : Nat → Nat} {F : mx_F} {H : Heap} {q ci N : Nat} {Cn : String} {T : u_T} {fs : List mx_V} (hc : vwCl[ci]? = some (Cn, T, N)) (hP : mx_P D tc ad tb F H) (hq : F q = some (.inr (.inr (.inr (ci, fs))))) : ∃ cell : Cell, H[ad q]? = some cell ∧ cell.vm.isStatics = false ∧ s.vm.findClass Cn = some cell.cls := by
  obtain ⟨hx, hb, hml, hown, hts, hK, hA, hZ, hOk⟩ := C
  obtain ⟨r, h1, cell, g1, g2, g3, -⟩ := hP q _ hq
  exact ⟨cell, g1, by rw [g3]; rfl, by rw [g2]; exact (hK.1 ci _ hc).2.1⟩
theorem mx_room {r : mx_S} {ad : Nat → Nat} {ls : Array Slot} {st : List Value} (h : mx_cs r ≤ 8) : 2 * (F0 m pc ls st).monitorRoom + ((r.map (mx_v ad tb)).map fun v => v.category).sum ≤ 8 := by
  exact lv_room (by rw [mx_cs_map]; exact h)
variable {y : MethodName} {ws : List Cond} {rm : Room} {sp : mx_Sp} {bytes : ByteArray} {maxL n i : Nat} {ret : Option FieldType} {Cn : String}
/-- a virtual call -/
theorem mx_cvW (C : mx_C p s m args c cc own Ts D tc tb A nL Ok) (hM : mx_M l y ws rm sp) {T : u_T} {N ci : Nat} (hc : vwCl[ci]? = some (Cn, T, N)) (cw : CallW R s args own Cn i y bytes maxL ret ws rm 0 0 n) (hd : decode cc pc = .ok (.invokevirtual i, 3)) {q : Nat} {fs : List mx_V} {As : List mx_V} {r : mx_S} {lv : mx_L} {F : mx_F} (hq : F q = some (.inr (.inr (.inr (ci, fs))))) (hn : As.length = n) (h8 : mx_cs r ≤ 8) {ca sl : Nat} (hf : ca ≤ R.cells ∧ sl ≤ R.slots)
    (h : sp (mx_r q :: As) F (mx_k (pc + 3) lv r ca sl (mx_W p l e R s m args below meth c Q D tc tb A nL Ok))) : mx_W p l e R s m args below meth c Q D tc tb A nL Ok pc lv (As.reverse ++ mx_r q :: r) F ca sl := by
  intro ad H locs ls h1 hP hD hS hl
  refine mx_after (r := r) (lv := lv) C (va_runV (As := As.map (mx_v ad tb)) (rest := r.map (mx_v ad tb)) (b := ad q) ⟨C.1, C.2.1, C.2.2.1, C.2.2.2.1, C.2.2.2.2.1⟩ (hM D tc tb ad (mx_r q :: As) F _ H.size h) cw ⟨mx_blind, mx_recv C hc hP hq, fun U hU hW => mx_pre (As := mx_r q :: As) C hP hD hS U hU hW⟩ rfl (by rw [List.length_map]; exact hn) hl.2.1 ?_ (mx_room h8) hd hf) h1 hD hS hl
  show (As.reverse ++ mx_r q :: r).map (mx_v ad tb) = _
  rw [List.map_append, List.map_reverse]
  rfl
/-- a static call -/
theorem mx_csW (C : mx_C p s m args c cc own Ts D tc tb A nL Ok) (hM : mx_M l y ws rm sp) (cw : CallB R s args own i y bytes maxL ret ws rm 0 0 n ∧ (Cond.static y).before args s = true) (hd : decode cc pc = .ok (.invokestatic i, 3)) {As : List mx_V} {r : mx_S} {lv : mx_L} {F : mx_F} (hn : As.length = n) (h8 : mx_cs r ≤ 8) {ca sl : Nat} (hf : ca ≤ R.cells ∧ sl ≤ R.slots)
    (h : sp As F (mx_k (pc + 3) lv r ca sl (mx_W p l e R s m args below meth c Q D tc tb A nL Ok))) : mx_W p l e R s m args below meth c Q D tc tb A nL Ok pc lv (As.reverse ++ r) F ca sl := by
  intro ad H locs ls h1 hP hD hS hl
  refine mx_after (r := r) (lv := lv) C (va_runS (As := As.map (mx_v ad tb)) (rest := r.map (mx_v ad tb)) ⟨C.1, C.2.1, C.2.2.1, C.2.2.2.1, C.2.2.2.2.1⟩ (hM D tc tb ad As F _ H.size h) cw ⟨mx_blind, fun U hU hW => mx_pre (As := As) C hP hD hS U hU hW⟩ rfl (by rw [List.length_map]; exact hn) hl.2.1 ?_ (mx_room h8) hd hf) h1 hD hS hl
  show (As.reverse ++ r).map (mx_v ad tb) = _
  rw [List.map_append, List.map_reverse]
theorem mx_s_cv0 (C : mx_C p s m args c cc own Ts D tc tb A nL Ok) (hM : mx_M l y ws rm sp) {T : u_T} {N ci : Nat} (hc : vwCl[ci]? = some (Cn, T, N)) (cw : CallW R s args own Cn i y bytes maxL ret ws rm 0 0 0) (hd : decode cc pc = .ok (.invokevirtual i, 3)) {mc ms : Nat} (hR : mc ≤ R.cells ∧ ms ≤ R.slots) : mx_So (mx_W p l e R s m args below meth c Q D tc tb A nL Ok) pc (mx_cv0 ci sp mc ms (pc + 3)) := by
  intro lv st F ca sl h
  obtain ⟨q, r, fs, rfl, hq, h8, g1, g2, h⟩ := h
  exact mx_cvW (As := []) C hM hc cw hd hq rfl (Nat.le_of_ble_eq_true h8) ⟨Nat.le_trans (Nat.le_of_ble_eq_true g1) hR.1, Nat.le_trans (Nat.le_of_ble_eq_true g2) hR.2⟩ h
theorem mx_s_cv1 (C : mx_C p s m args c cc own Ts D tc tb A nL Ok) (hM : mx_M l y ws rm sp) {T : u_T} {N ci : Nat} (hc : vwCl[ci]? = some (Cn, T, N)) (cw : CallW R s args own Cn i y bytes maxL ret ws rm 0 0 1) (hd : decode cc pc = .ok (.invokevirtual i, 3)) {mc ms : Nat} (hR : mc ≤ R.cells ∧ ms ≤ R.slots) : mx_So (mx_W p l e R s m args below meth c Q D tc tb A nL Ok) pc (mx_cv1 ci sp mc ms (pc + 3)) := by
  intro lv st F ca sl h
  obtain ⟨q, a1, r, fs, rfl, hq, h8, g1, g2, h⟩ := h
  exact mx_cvW (As := [a1]) C hM hc cw hd hq rfl (Nat.le_of_ble_eq_true h8) ⟨Nat.le_trans (Nat.le_of_ble_eq_true g1) hR.1, Nat.le_trans (Nat.le_of_ble_eq_true g2) hR.2⟩ h
theorem mx_s_cv2 (C : mx_C p s m args c cc own Ts D tc tb A nL Ok) (hM : mx_M l y ws rm sp) {T : u_T} {N ci : Nat} (hc : vwCl[ci]? = some (Cn, T, N)) (cw : CallW R s args own Cn i y bytes maxL ret ws rm 0 0 2) (hd : decode cc pc = .ok (.invokevirtual i, 3)) {mc ms : Nat} (hR : mc ≤ R.cells ∧ ms ≤ R.slots) : mx_So (mx_W p l e R s m args below meth c Q D tc tb A nL Ok) pc (mx_cv2 ci sp mc ms (pc + 3)) := by
  intro lv st F ca sl h
  obtain ⟨q, a1, a2, r, fs, rfl, hq, h8, g1, g2, h⟩ := h
  exact mx_cvW (As := [a1, a2]) C hM hc cw hd hq rfl (Nat.le_of_ble_eq_true h8) ⟨Nat.le_trans (Nat.le_of_ble_eq_true g1) hR.1, Nat.le_trans (Nat.le_of_ble_eq_true g2) hR.2⟩ h
theorem mx_s_cv3 (C : mx_C p s m args c cc own Ts D tc tb A nL Ok) (hM : mx_M l y ws rm sp) {T : u_T} {N ci : Nat} (hc : vwCl[ci]? = some (Cn, T, N)) (cw : CallW R s args own Cn i y bytes maxL ret ws rm 0 0 3) (hd : decode cc pc = .ok (.invokevirtual i, 3)) {mc ms : Nat} (hR : mc ≤ R.cells ∧ ms ≤ R.slots) : mx_So (mx_W p l e R s m args below meth c Q D tc tb A nL Ok) pc (mx_cv3 ci sp mc ms (pc + 3)) := by
  intro lv st F ca sl h
  obtain ⟨q, a1, a2, a3, r, fs, rfl, hq, h8, g1, g2, h⟩ := h
  exact mx_cvW (As := [a1, a2, a3]) C hM hc cw hd hq rfl (Nat.le_of_ble_eq_true h8) ⟨Nat.le_trans (Nat.le_of_ble_eq_true g1) hR.1, Nat.le_trans (Nat.le_of_ble_eq_true g2) hR.2⟩ h
theorem mx_s_cv4 (C : mx_C p s m args c cc own Ts D tc tb A nL Ok) (hM : mx_M l y ws rm sp) {T : u_T} {N ci : Nat} (hc : vwCl[ci]? = some (Cn, T, N)) (cw : CallW R s args own Cn i y bytes maxL ret ws rm 0 0 4) (hd : decode cc pc = .ok (.invokevirtual i, 3)) {mc ms : Nat} (hR : mc ≤ R.cells ∧ ms ≤ R.slots) : mx_So (mx_W p l e R s m args below meth c Q D tc tb A nL Ok) pc (mx_cv4 ci sp mc ms (pc + 3)) := by
  intro lv st F ca sl h
  obtain ⟨q, a1, a2, a3, a4, r, fs, rfl, hq, h8, g1, g2, h⟩ := h
  exact mx_cvW (As := [a1, a2, a3, a4]) C hM hc cw hd hq rfl (Nat.le_of_ble_eq_true h8) ⟨Nat.le_trans (Nat.le_of_ble_eq_true g1) hR.1, Nat.le_trans (Nat.le_of_ble_eq_true g2) hR.2⟩ h
theorem mx_s_cv5 (C : mx_C p s m args c cc own Ts D tc tb A nL Ok) (hM : mx_M l y ws rm sp) {T : u_T} {N ci : Nat} (hc : vwCl[ci]? = some (Cn, T, N)) (cw : CallW R s args own Cn i y bytes maxL ret ws rm 0 0 5) (hd : decode cc pc = .ok (.invokevirtual i, 3)) {mc ms : Nat} (hR : mc ≤ R.cells ∧ ms ≤ R.slots) : mx_So (mx_W p l e R s m args below meth c Q D tc tb A nL Ok) pc (mx_cv5 ci sp mc ms (pc + 3)) := by
  intro lv st F ca sl h
  obtain ⟨q, a1, a2, a3, a4, a5, r, fs, rfl, hq, h8, g1, g2, h⟩ := h
  exact mx_cvW (As := [a1, a2, a3, a4, a5]) C hM hc cw hd hq rfl (Nat.le_of_ble_eq_true h8) ⟨Nat.le_trans (Nat.le_of_ble_eq_true g1) hR.1, Nat.le_trans (Nat.le_of_ble_eq_true g2) hR.2⟩ h
theorem mx_s_cs1 (C : mx_C p s m args c cc own Ts D tc tb A nL Ok) (hM : mx_M l y ws rm sp) (cw : CallB R s args own i y bytes maxL ret ws rm 0 0 1 ∧ (Cond.static y).before args s = true) (hd : decode cc pc = .ok (.invokestatic i, 3)) {mc ms : Nat} (hR : mc ≤ R.cells ∧ ms ≤ R.slots) : mx_So (mx_W p l e R s m args below meth c Q D tc tb A nL Ok) pc (mx_cs1 sp mc ms (pc + 3)) := by
  intro lv st F ca sl h
  obtain ⟨a0, r, rfl, h8, g1, g2, h⟩ := h
  exact mx_csW (As := [a0]) C hM cw hd rfl (Nat.le_of_ble_eq_true h8) ⟨Nat.le_trans (Nat.le_of_ble_eq_true g1) hR.1, Nat.le_trans (Nat.le_of_ble_eq_true g2) hR.2⟩ h
theorem mx_s_cs2 (C : mx_C p s m args c cc own Ts D tc tb A nL Ok) (hM : mx_M l y ws rm sp) (cw : CallB R s args own i y bytes maxL ret ws rm 0 0 2 ∧ (Cond.static y).before args s = true) (hd : decode cc pc = .ok (.invokestatic i, 3)) {mc ms : Nat} (hR : mc ≤ R.cells ∧ ms ≤ R.slots) : mx_So (mx_W p l e R s m args below meth c Q D tc tb A nL Ok) pc (mx_cs2 sp mc ms (pc + 3)) := by
  intro lv st F ca sl h
  obtain ⟨a0, a1, r, rfl, h8, g1, g2, h⟩ := h
  exact mx_csW (As := [a0, a1]) C hM cw hd rfl (Nat.le_of_ble_eq_true h8) ⟨Nat.le_trans (Nat.le_of_ble_eq_true g1) hR.1, Nat.le_trans (Nat.le_of_ble_eq_true g2) hR.2⟩ h
theorem mx_s_cs3 (C : mx_C p s m args c cc own Ts D tc tb A nL Ok) (hM : mx_M l y ws rm sp) (cw : CallB R s args own i y bytes maxL ret ws rm 0 0 3 ∧ (Cond.static y).before args s = true) (hd : decode cc pc = .ok (.invokestatic i, 3)) {mc ms : Nat} (hR : mc ≤ R.cells ∧ ms ≤ R.slots) : mx_So (mx_W p l e R s m args below meth c Q D tc tb A nL Ok) pc (mx_cs3 sp mc ms (pc + 3)) := by
  intro lv st F ca sl h
  obtain ⟨a0, a1, a2, r, rfl, h8, g1, g2, h⟩ := h
  exact mx_csW (As := [a0, a1, a2]) C hM cw hd rfl (Nat.le_of_ble_eq_true h8) ⟨Nat.le_trans (Nat.le_of_ble_eq_true g1) hR.1, Nat.le_trans (Nat.le_of_ble_eq_true g2) hR.2⟩ h
theorem mx_s_cs4 (C : mx_C p s m args c cc own Ts D tc tb A nL Ok) (hM : mx_M l y ws rm sp) (cw : CallB R s args own i y bytes maxL ret ws rm 0 0 4 ∧ (Cond.static y).before args s = true) (hd : decode cc pc = .ok (.invokestatic i, 3)) {mc ms : Nat} (hR : mc ≤ R.cells ∧ ms ≤ R.slots) : mx_So (mx_W p l e R s m args below meth c Q D tc tb A nL Ok) pc (mx_cs4 sp mc ms (pc + 3)) := by
  intro lv st F ca sl h
  obtain ⟨a0, a1, a2, a3, r, rfl, h8, g1, g2, h⟩ := h
  exact mx_csW (As := [a0, a1, a2, a3]) C hM cw hd rfl (Nat.le_of_ble_eq_true h8) ⟨Nat.le_trans (Nat.le_of_ble_eq_true g1) hR.1, Nat.le_trans (Nat.le_of_ble_eq_true g2) hR.2⟩ h
end MXG
