/-! METHODS THAT MAKE CELLS: constructors, the law -/
def mx_noE (k : Nat) : mx_E → Prop
  | .inr (.inr (.inl (_, _, f))) => ∀ i, f i ≠ some k
  | .inr (.inr (.inr (_, fs))) => ∀ v ∈ fs, v ≠ mx_r k
  | _ => True
/-- nothing in the world points to k -/
def mx_no (k : Nat) (F : mx_F) : Prop := ∀ (j : Nat) (x : mx_E), F j = some x → mx_noE k x
theorem mx_no_put {k j : Nat} {F : mx_F} {e : mx_E} (h : mx_no k F) (he : mx_noE k e) : mx_no k (mx_put F j e) := by
  intro i x hx
  rcases mx_put_or hx with ⟨rfl, rfl⟩ | ⟨_, hx⟩
  · exact he
  · exact h i x hx
theorem mx_v_up {k q : Nat} {ad tb : Nat → Nat} {v : mx_V} (h : v ≠ mx_r k) : mx_v (va_up ad k q) tb v = mx_v ad tb v := by
  rcases v with x | x | (_ | x) | x
  · rfl
  · rfl
  · rfl
  · have hx : x ≠ k := fun z => h (by rw [z])
    show Value.ref (va_up ad k q x) = Value.ref (ad x)
    rw [va_up_ne _ _ hx]
  · rfl
theorem mx_e_up {k q : Nat} {tc : Nat → ClassId} {ad tb : Nat → Nat} {x : mx_E} (h : mx_noE k x) : mx_e tc (va_up ad k q) tb x = mx_e tc ad tb x := by
  rcases x with ⟨t, n, f⟩ | ⟨t, n, f⟩ | ⟨t, n, f⟩ | ⟨ci, fs⟩
  · rfl
  · rfl
  · have h2 : (fun j => (f j).map (va_up ad k q)) = (fun j => (f j).map ad) := by
      funext j
      cases hj : f j with
      | none => rfl
      | some z =>
        have hz : z ≠ k := fun w => h j (by rw [hj, w])
        show some (va_up ad k q z) = some (ad z)
        rw [va_up_ne _ _ hz]
    show (Sum.inl (tc t, n, Sum.inr (Sum.inr (Sum.inr (Sum.inr (fun j => (f j).map (va_up ad k q)))))) : va_E) = _
    rw [h2]
    rfl
  · have h2 : fs.map (mx_v (va_up ad k q) tb) = fs.map (mx_v ad tb) := List.map_congr_left fun v hv => mx_v_up (h v hv)
    show (Sum.inr (ci, fs.map (mx_v (va_up ad k q) tb)) : va_E) = _
    rw [h2]
    rfl
theorem mx_fresh {D : va_G} {tc : Nat → ClassId} {tb ad : Nat → Nat} {F : mx_F} {H H1 : Heap} {A : Nat → Prop} {k : Nat} {x : mx_E} (hP : mx_P D tc ad tb F H) (hD : mx_D A ad F) (hno : mx_no k F) (hne : mx_noE k x) (hA : A H.size) (hkept : ∀ z : Nat, z < H.size → H1[z]? = H[z]?) (hat : va_at D vwCl (H.size, mx_e tc ad tb x) H1) : mx_P D tc (va_up ad k H.size) tb (mx_put F k x) H1 ∧ mx_D A (va_up ad k H.size) (mx_put F k x) := by
  have hlt : ∀ (j : Nat) (y : mx_E), F j = some y → ad j < H.size := fun j y hy => (hP j y hy).lt
  refine ⟨fun j y hy => ?_, fun i j y z hy hz hij => ?_, fun j y hy => ?_⟩
  · rcases mx_put_or hy with ⟨rfl, rfl⟩ | ⟨hj, hy⟩
    · rw [va_up_self, mx_e_up hne]
      exact hat
    · rw [va_up_ne _ _ hj, mx_e_up (hno j y hy)]
      exact (hP j y hy).kept (hkept _ (hlt j y hy))
  · rcases mx_put_or hy with ⟨e1, e2⟩ | ⟨hi, hy2⟩
    · rcases mx_put_or hz with ⟨e3, e4⟩ | ⟨hj, hz2⟩
      · rw [e1, e3]
      · rw [e1, va_up_self, va_up_ne _ _ hj] at hij
        have := hlt j z hz2
        omega
    · rcases mx_put_or hz with ⟨e3, e4⟩ | ⟨hj, hz2⟩
      · rw [e3, va_up_self, va_up_ne _ _ hi] at hij
        have := hlt i y hy2
        omega
      · rw [va_up_ne _ _ hi, va_up_ne _ _ hj] at hij
        exact hD.1 i j y z hy2 hz2 hij
  · rcases mx_put_or hy with ⟨rfl, rfl⟩ | ⟨hj, hy⟩
    · rw [va_up_self]
      exact hA
    · rw [va_up_ne _ _ hj]
      exact hD.2 j y hy
/-- no local, nothing on the stack points to k -/
def mx_nrL (k : Nat) : mx_L → Bool
  | [] => true
  | some (.inr (.inr (.inl (some q)))) :: r => (Nat.beq q k).not && mx_nrL k r
  | _ :: r => mx_nrL k r
def mx_nrS (k : Nat) : mx_S → Bool
  | [] => true
  | .inr (.inr (.inl (some q))) :: r => (Nat.beq q k).not && mx_nrS k r
  | _ :: r => mx_nrS k r
theorem mx_nrS_ok {k : Nat} : ∀ {st : mx_S}, mx_nrS k st = true → ∀ v ∈ st, v ≠ mx_r k
  | [], _, _, hv => by cases hv
  | w :: r, h, v, hv => by
    have hr : mx_nrS k r = true := by
      rcases w with x | x | (_ | x) | x
      · exact h
      · exact h
      · exact h
      · exact (Bool.and_eq_true_iff.mp h).2
      · exact h
    rcases List.mem_cons.mp hv with rfl | hv
    · intro z
      subst z
      have := (Bool.and_eq_true_iff.mp h).1
      rw [Nat.beq_refl] at this
      cases this
    · exact mx_nrS_ok hr v hv
theorem mx_nrL_ok {k : Nat} : ∀ {lv : mx_L}, mx_nrL k lv = true → ∀ v : mx_V, some v ∈ lv → v ≠ mx_r k
  | [], _, _, hv => by cases hv
  | w :: r, h, v, hv => by
    have hr : mx_nrL k r = true := by
      rcases w with _ | (x | x | (_ | x) | x)
      · exact h
      · exact h
      · exact h
      · exact h
      · exact (Bool.and_eq_true_iff.mp h).2
      · exact h
    rcases List.mem_cons.mp hv with hw | hv
    · intro z
      subst z
      subst hw
      have := (Bool.and_eq_true_iff.mp h).1
      rw [Nat.beq_refl] at this
      cases this
    · exact mx_nrL_ok hr v hv
theorem mx_st_same {tb ad ad' : Nat → Nat} {st : mx_S} (h : ∀ v ∈ st, mx_v ad' tb v = mx_v ad tb v) : st.map (mx_v ad' tb) = st.map (mx_v ad tb) := List.map_congr_left h
theorem mx_H_same {tb ad ad' : Nat → Nat} {ls : Array Slot} {nL : Nat} {lv : mx_L} (h : ∀ v : mx_V, some v ∈ lv → mx_v ad' tb v = mx_v ad tb v) (hl : mx_H ad tb ls nL lv) : mx_H ad' tb ls nL lv := by
  refine ⟨hl.1, hl.2.1, hl.2.2.1, fun q hq => ?_⟩
  obtain ⟨v, h1, h2⟩ := mx_ls_mem.mp hq
  rw [h2, h v (List.mem_of_getElem? h1)]
  exact hl.at h1
/-- a method that makes cells: old addresses stay -/
def mx_Ok1 (a0 : Nat → Nat) (G : mx_F) : (Nat → Nat) → mx_F → Prop := fun ad F => (∀ (k : Nat) (x : mx_E), G k = some x → ad k = a0 k) ∧ mx_in G F
theorem mx_Ok1_up {a0 ad : Nat → Nat} {G F : mx_F} {k q : Nat} {x : mx_E} (hk : F k = none) (h : mx_Ok1 a0 G ad F) : mx_Ok1 a0 G (va_up ad k q) (mx_put F k x) := by
  refine ⟨fun j y hy => ?_, mx_in_tr h.2 (mx_in_put F k x)⟩
  have hj : j ≠ k := by
    intro z
    subst z
    obtain ⟨w, hw⟩ := h.2 j y hy
    rw [hk] at hw
    cases hw
  rw [va_up_ne _ _ hj]
  exact h.1 j y hy
def mx_Q1 (D : va_G) (tc : Nat → ClassId) (tb ad : Nat → Nat) (F : mx_F) (sz : Nat) (P : Option mx_V → mx_F → Prop) : Array Value → State → Outcome → State → Prop := fun _ st oc t =>
  (∃ (r : Option mx_V) (F' : mx_F) (ad' : Nat → Nat), oc = .returned (r.map (mx_v ad' tb)) ∧ P r F' ∧ mx_Ok1 ad F ad' F' ∧ mx_P D tc ad' tb F' t.heap ∧ mx_D (mx_A ad F sz) ad' F') ∧ va_F (mx_A ad F sz) st t
def mx_M1 (l : Launch) (y : MethodName) (ws : List Cond) (rm : Room) (sp : mx_Sp) : Prop := ∀ (D : va_G) (tc : Nat → ClassId) (tb ad : Nat → Nat) (As : List mx_V) (F : mx_F) (P : Option mx_V → mx_F → Prop) (sz : Nat), sp As F P →
  Met l y ws rm (va_Pc (As.map (mx_v ad tb)) (mx_B D tc tb ad F sz)) (mx_Q1 D tc tb ad F sz P) rm.cells rm.slots (mx_A ad F sz)
theorem mx_enter1 {l : Launch} {y : MethodName} {ws ws' : List Cond} {rm : Room} {cc : ByteArray} {maxL : Nat} {ret : Option FieldType} (hy : plainName y.cls = true) (hw : ws = Cond.code y cc maxL ret :: ws') (D : va_G) (tc : Nat → ClassId) (tb ad : Nat → Nat) (As : List mx_V) (F : mx_F) (P : Option mx_V → mx_F → Prop) (sz : Nat) (hn : (mx_ar As).length ≤ maxL)
    (body : ∀ (p : Program) (e : Env) (s : State) (m : MethodId) (args : Array Value) (below : List Frame) (meth : Method) (c : Code), mx_C p s m args c cc y.cls ws D tc tb (mx_A ad F sz) maxL (mx_Ok1 ad F) → meth.sig.returnType = ret → meth.locks = false → meth.name = y.name →
      mx_W p l e rm s m args below meth c (MQ below (mx_Q1 D tc tb ad F sz P) args s rm.cells rm.slots (mx_A ad F sz)) D tc tb (mx_A ad F sz) maxL (mx_Ok1 ad F) 0 (mx_en As maxL) [] F 0 0) :
    Met l y ws rm (va_Pc (As.map (mx_v ad tb)) (mx_B D tc tb ad F sz)) (mx_Q1 D tc tb ad F sz P) rm.cells rm.slots (mx_A ad F sz) := by
  refine Met.ofW (cc := cc) (maxL := maxL) (ret := ret) hy hw ?_
  intro p e s m args below meth c s₁ B hml hv
  obtain ⟨rfl, hsz, hP, hK, hD0, hZ⟩ := hv
  subst hsz
  have hD : mx_D (mx_A ad F s.heap.size) ad F := ⟨hD0.1, fun k x hx => Or.inl ⟨k, x, hx, rfl⟩⟩
  have hW := body p e s m _ below meth c ⟨B.exec, B.bytes, hml, findClass_of_methodNamed B.named, atoms_spec (ws := ws) B.pre, hK, fun q hq => Or.inr hq, hZ, fun a2 G G' h1 h2 => ⟨h2.1, mx_in_tr h2.2 h1⟩⟩ B.returns B.notSynchronized (name_of_methodNamed B.named B.method).1
  rw [lg_entry_eq]
  exact hW ad s.heap [] _ ⟨fun _ _ _ => rfl, mx_in_rf F⟩ hP hD va_S.rf (mx_entry hn)
def mx_new (ci k N : Nat) (fs : List mx_V) (mc ms nx : Nat) : mx_O := fun lv st F ca sl K => F k = none ∧ mx_no k F ∧ mx_nrL k lv = true ∧ mx_nrS k st = true ∧ Nat.ble (ca + 1) mc = true ∧ Nat.ble (sl + N) ms = true ∧ K nx lv (mx_r k :: st) (mx_put F k (.inr (.inr (.inr (ci, fs))))) (ca + 1) (sl + N)
def mx_newi (k mc ms nx : Nat) : mx_O := fun lv st F ca sl K => ∃ (n : Nat) (r : mx_S), st = .inl (nI n) :: r ∧ Nat.ble n 1000000 = true ∧ F k = none ∧ mx_no k F ∧ mx_nrL k lv = true ∧ mx_nrS k r = true ∧ Nat.ble (ca + 1) mc = true ∧ Nat.ble (sl + n) ms = true ∧ K nx lv (mx_r k :: r) (mx_put F k (.inl (0, n, fun _ => 0))) (ca + 1) (sl + n)
def mx_newl (k mc ms nx : Nat) : mx_O := fun lv st F ca sl K => ∃ (n : Nat) (r : mx_S), st = .inl (nI n) :: r ∧ Nat.ble n 1000000 = true ∧ F k = none ∧ mx_no k F ∧ mx_nrL k lv = true ∧ mx_nrS k r = true ∧ Nat.ble (ca + 1) mc = true ∧ Nat.ble (sl + n) ms = true ∧ K nx lv (mx_r k :: r) (mx_put F k (.inr (.inl (1, n, fun _ => 0)))) (ca + 1) (sl + n)
def mx_putrF (ci k nx : Nat) : mx_O := fun lv st F ca sl K => ∃ (u q : Nat) (r : mx_S) (fs : List mx_V), st = mx_r u :: mx_r q :: r ∧ F q = some (.inr (.inr (.inr (ci, fs)))) ∧ k < fs.length ∧ K nx lv r (mx_put F q (.inr (.inr (.inr (ci, fs.set k (mx_r u)))))) ca sl
def mx_oi (nx : Nat) : mx_O := fun lv st F ca sl K => ∃ (q : Nat) (r : mx_S), st = mx_r q :: r ∧ Nat.ble (mx_cs r) 8 = true ∧ K nx lv r F ca sl
def mx_ret1 (P : Option mx_V → mx_F → Prop) (mc ms : Nat) : mx_O := fun _ st F ca sl _ => st = [] ∧ Nat.ble ca mc = true ∧ Nat.ble sl ms = true ∧ P none F
/-- all that is pointed to stands in the world -/
def mx_okS (F : mx_F) : mx_S → Bool
  | [] => true
  | .inr (.inr (.inl (some q))) :: r => (F q).isSome && mx_okS F r
  | _ :: r => mx_okS F r
def mx_okL (F : mx_F) : mx_L → Bool
  | [] => true
  | some (.inr (.inr (.inl (some q)))) :: r => (F q).isSome && mx_okL F r
  | _ :: r => mx_okL F r
theorem mx_okV {F : mx_F} {ad ad' tb : Nat → Nat} (ha : ∀ (k : Nat) (x : mx_E), F k = some x → ad' k = ad k) {q : Nat} (h : (F q).isSome = true) : mx_v ad' tb (mx_r q) = mx_v ad tb (mx_r q) := by
  obtain ⟨x, hx⟩ := Option.isSome_iff_exists.mp h
  show Value.ref (ad' q) = Value.ref (ad q)
  rw [ha q x hx]
theorem mx_okS_v {F : mx_F} {ad ad' tb : Nat → Nat} (ha : ∀ (k : Nat) (x : mx_E), F k = some x → ad' k = ad k) : ∀ {st : mx_S}, mx_okS F st = true → ∀ v ∈ st, mx_v ad' tb v = mx_v ad tb v
  | [], _, _, hv => by cases hv
  | w :: r, h, v, hv => by
    have ih := fun hr : mx_okS F r = true => mx_okS_v (tb := tb) ha hr v
    rcases List.mem_cons.mp hv with rfl | hv2
    · rcases v with x | x | (_ | x) | x
      · rfl
      · rfl
      · rfl
      · exact mx_okV ha (Bool.and_eq_true_iff.mp h).1
      · rfl
    · rcases w with x | x | (_ | x) | x
      · exact ih h hv2
      · exact ih h hv2
      · exact ih h hv2
      · exact ih (Bool.and_eq_true_iff.mp h).2 hv2
      · exact ih h hv2
theorem mx_okL_v {F : mx_F} {ad ad' tb : Nat → Nat} (ha : ∀ (k : Nat) (x : mx_E), F k = some x → ad' k = ad k) : ∀ {lv : mx_L}, mx_okL F lv = true → ∀ v : mx_V, some v ∈ lv → mx_v ad' tb v = mx_v ad tb v
  | [], _, _, hv => by cases hv
  | w :: r, h, v, hv => by
    have ih := fun hr : mx_okL F r = true => mx_okL_v (tb := tb) ha hr v
    rcases List.mem_cons.mp hv with hw | hv2
    · subst hw
      rcases v with x | x | (_ | x) | x
      · rfl
      · rfl
      · rfl
      · exact mx_okV ha (Bool.and_eq_true_iff.mp h).1
      · rfl
    · rcases w with _ | (x | x | (_ | x) | x)
      · exact ih h hv2
      · exact ih h hv2
      · exact ih h hv2
      · exact ih h hv2
      · exact ih (Bool.and_eq_true_iff.mp h).2 hv2
      · exact ih h hv2
section MXN
variable {p : Program} {l : Launch} {e : Env} {R : Room} {s : State} {m : MethodId} {args : Array Value} {below : List Frame} {meth : Method} {c : Code} {Q : State → Prop} {cc : ByteArray} {own : String} {Ts : List Cond} {D : va_G} {tc : Nat → ClassId} {tb : Nat → Nat} {A : Nat → Prop} {nL : Nat} {Ok : (Nat → Nat) → mx_F → Prop} {pc : Nat}
theorem mx_s_new (C : mx_C p s m args c cc own Ts D tc tb A nL Ok) (hUp : ∀ (ad : Nat → Nat) (F : mx_F) (k q : Nat) (x : mx_E), F k = none → Ok ad F → Ok (va_up ad k q) (mx_put F k x)) {Cn : String} {T : u_T} {N ci i k mc ms : Nat} {fs : List mx_V} (hin : ∀ w ∈ u_ws Cn T N, w ∈ Ts) (ty : Nat → FieldType) (hty : ∀ k, k < N → parseFieldDescriptor (T k).2.2.1 = some (ty k)) (hc : vwCl[ci]? = some (Cn, T, N)) (hcl : Jvm.Cond.classLink own i Cn ∈ Ts) (hinst : Jvm.Cond.instantiable Cn N ∈ Ts) (hini : Jvm.Cond.initialized Cn ∈ Ts) (hfs : ∀ (ad : Nat → Nat) (j : Nat), j < N → defaultValue (ty j) = vp_V (fs.map (mx_v ad tb)) j) (hfk : ∀ v ∈ fs, v ≠ mx_r k) (hd : decode cc pc = .ok (.new i, 3)) (hR : mc ≤ R.cells ∧ ms ≤ R.slots) : mx_So (mx_W p l e R s m args below meth c Q D tc tb A nL Ok) pc (mx_new ci k N fs mc ms (pc + 3)) := by
  obtain ⟨hx, hb, hml, hown, hts, hK, hA, hZ, hOk⟩ := C
  intro lv st F ca sl h
  obtain ⟨hk, hno, n1, n2, g1, g2, h⟩ := h
  intro ad H locs ls h1 hP hD hS hl
  have hKn := hK.1 ci _ hc
  refine W.newcK hx hb hown (hts _ hcl) (hts _ hinst) (hts _ hini) rfl hd (Nat.le_trans (Nat.le_of_ble_eq_true g1) hR.1) (Nat.le_trans (Nat.le_of_ble_eq_true g2) hR.2) hKn.2.1 rfl fun H1 kC hkC e1 z1 o1 => ?_
  obtain ⟨hP1, hD1⟩ := mx_fresh (k := k) (x := .inr (.inr (.inr (ci, fs)))) hP hD hno hfk (hA _ hS.1) o1 ⟨_, hc, (u_born ty hts hin hKn hkC e1 hty).to (hfs ad)⟩
  have h2 := h (va_up ad k H.size) H1 locs ls (hUp ad F k H.size _ hk h1) hP1 hD1 ⟨Nat.le_trans hS.1 (by omega), fun x q1 q2 => (o1 x (Nat.lt_of_lt_of_le q1 hS.1)).trans (hS.2.1 x q1 q2), hS.2.2⟩ (mx_H_same (fun v hv => mx_v_up (mx_nrL_ok n1 v hv)) hl)
  rw [List.map_cons, mx_st_same (ad := ad) (fun v hv => mx_v_up (mx_nrS_ok n2 v hv))] at h2
  have e5 : mx_v (va_up ad k H.size) tb (mx_r k) = .ref H.size := by
    show Value.ref (va_up ad k H.size k) = _
    rw [va_up_self]
  rw [e5] at h2
  exact h2
theorem mx_s_newi (C : mx_C p s m args c cc own Ts D tc tb A nL Ok) (hUp : ∀ (ad : Nat → Nat) (F : mx_F) (k q : Nat) (x : mx_E), F k = none → Ok ad F → Ok (va_up ad k q) (mx_put F k x)) {k mc ms : Nat} (harr : Jvm.Cond.arrayClass .int ∈ Ts) (hd : decode cc pc = .ok (.newarray .int, 2)) (hR : mc ≤ R.cells ∧ ms ≤ R.slots) : mx_So (mx_W p l e R s m args below meth c Q D tc tb A nL Ok) pc (mx_newi k mc ms (pc + 2)) := by
  obtain ⟨hx, hb, hml, hown, hts, hK, hA, hZ, hOk⟩ := C
  intro lv st F ca sl h
  obtain ⟨n, r, rfl, hn, hk, hno, n1, n2, g1, g2, h⟩ := h
  have hn := Nat.le_of_ble_eq_true hn
  intro ad H locs ls h1 hP hD hS hl
  refine va_newaK (atype := .int) (n := nI n) (N := n) hx hb (hts _ harr) rfl hd rfl (nI_pos (by omega)) (nI_clamp (by omega)) (by have e4 : componentBytes (newarray.typeOf .int) = 4 := rfl; rw [e4]; omega) (Nat.le_trans (Nat.le_of_ble_eq_true g1) hR.1) (Nat.le_trans (Nat.le_of_ble_eq_true g2) hR.2) rfl fun H1 cA e1 z1 o1 hAr hNm => ?_
  have hcA : cA = tc 0 := Option.some.inj (hNm.symm.trans (hK.2 0 _ (mx_t_get rfl)).2)
  subst hcA
  obtain ⟨hP1, hD1⟩ := mx_fresh (k := k) (x := .inl (0, n, fun _ => 0)) hP hD hno trivial (hA _ hS.1) o1 e1
  have h2 := h (va_up ad k H.size) H1 locs ls (hUp ad F k H.size _ hk h1) hP1 hD1 ⟨Nat.le_trans hS.1 (by omega), fun x q1 q2 => (o1 x (Nat.lt_of_lt_of_le q1 hS.1)).trans (hS.2.1 x q1 q2), hS.2.2⟩ (mx_H_same (fun v hv => mx_v_up (mx_nrL_ok n1 v hv)) hl)
  rw [List.map_cons, mx_st_same (ad := ad) (fun v hv => mx_v_up (mx_nrS_ok n2 v hv))] at h2
  have e5 : mx_v (va_up ad k H.size) tb (mx_r k) = .ref H.size := by
    show Value.ref (va_up ad k H.size k) = _
    rw [va_up_self]
  rw [e5] at h2
  exact h2
theorem mx_s_newl (C : mx_C p s m args c cc own Ts D tc tb A nL Ok) (hUp : ∀ (ad : Nat → Nat) (F : mx_F) (k q : Nat) (x : mx_E), F k = none → Ok ad F → Ok (va_up ad k q) (mx_put F k x)) {k mc ms : Nat} (harr : Jvm.Cond.arrayClass .long ∈ Ts) (hd : decode cc pc = .ok (.newarray .long, 2)) (hR : mc ≤ R.cells ∧ ms ≤ R.slots) : mx_So (mx_W p l e R s m args below meth c Q D tc tb A nL Ok) pc (mx_newl k mc ms (pc + 2)) := by
  obtain ⟨hx, hb, hml, hown, hts, hK, hA, hZ, hOk⟩ := C
  intro lv st F ca sl h
  obtain ⟨n, r, rfl, hn, hk, hno, n1, n2, g1, g2, h⟩ := h
  have hn := Nat.le_of_ble_eq_true hn
  intro ad H locs ls h1 hP hD hS hl
  refine va_newaK (atype := .long) (n := nI n) (N := n) hx hb (hts _ harr) rfl hd rfl (nI_pos (by omega)) (nI_clamp (by omega)) (by have e4 : componentBytes (newarray.typeOf .long) = 8 := rfl; rw [e4]; omega) (Nat.le_trans (Nat.le_of_ble_eq_true g1) hR.1) (Nat.le_trans (Nat.le_of_ble_eq_true g2) hR.2) rfl fun H1 cA e1 z1 o1 hAr hNm => ?_
  have hcA : cA = tc 1 := Option.some.inj (hNm.symm.trans (hK.2 1 _ (mx_t_get rfl)).2)
  subst hcA
  obtain ⟨hP1, hD1⟩ := mx_fresh (k := k) (x := .inr (.inl (1, n, fun _ => 0))) hP hD hno trivial (hA _ hS.1) o1 e1
  have h2 := h (va_up ad k H.size) H1 locs ls (hUp ad F k H.size _ hk h1) hP1 hD1 ⟨Nat.le_trans hS.1 (by omega), fun x q1 q2 => (o1 x (Nat.lt_of_lt_of_le q1 hS.1)).trans (hS.2.1 x q1 q2), hS.2.2⟩ (mx_H_same (fun v hv => mx_v_up (mx_nrL_ok n1 v hv)) hl)
  rw [List.map_cons, mx_st_same (ad := ad) (fun v hv => mx_v_up (mx_nrS_ok n2 v hv))] at h2
  have e5 : mx_v (va_up ad k H.size) tb (mx_r k) = .ref H.size := by
    show Value.ref (va_up ad k H.size k) = _
    rw [va_up_self]
  rw [e5] at h2
  exact h2
theorem mx_s_oi (C : mx_C p s m args c cc own Ts D tc tb A nL Ok) {i : Nat} (hl0 : Jvm.Cond.methodLink own i objectInit ∈ Ts) (hi0 : Jvm.Cond.instanceMethod objectInit ∈ Ts) (hc0 : Jvm.Cond.code objectInit ⟨#[0xb1]⟩ 1 none ∈ Ts) (hd : decode cc pc = .ok (.invokespecial i, 3)) (hR : 1 ≤ R.frames ∧ 20 ≤ R.locals) : mx_So (mx_W p l e R s m args below meth c Q D tc tb A nL Ok) pc (mx_oi (pc + 3)) := by
  obtain ⟨hx, hb, hml, hown, hts, hK, hA, hZ, hOk⟩ := C
  intro lv st F ca sl h
  obtain ⟨q, r, rfl, h8, h⟩ := h
  intro ad H locs ls h1 hP hD hS hl
  refine W.objInit (rest := r.map (mx_v ad tb)) hx hb hown (hts _ hl0) (hts _ hi0) (hts _ hc0) rfl (by rw [hml]; exact hl.2.1) rfl hd hR.1 ?_ ?_
  · have := mx_room (m := m) (pc := pc) (tb := tb) (ad := ad) (ls := ls) (st := ((mx_r q :: r).map (mx_v ad tb))) (Nat.le_of_ble_eq_true h8)
    omega
  · exact h ad H locs ls h1 hP hD hS hl
theorem mx_s_putrF (C : mx_C p s m args c cc own Ts D tc tb A nL Ok) (hin2 : meth.name = "<init>") {T : u_T} {N ci i k : Nat} {ty : FieldType} (hin : ∀ w ∈ u_ws own T N, w ∈ Ts) (hc : vwCl[ci]? = some (own, T, N)) (ty0 : Nat → FieldType) (hty : ∀ k, k < N → parseFieldDescriptor (T k).2.2.1 = some (ty0 k)) (hnm : ∀ a, a < N → ∀ b, b < N → a ≠ b → (T a).2.1 ≠ (T b).2.1) (hk : k < N) (hl0 : Jvm.Cond.fieldLink own i own (T k).2.1 (T k).2.2.1 ∈ Ts) (hr : (T k).1 = own) (hfin : (T k).2.2.2 = true) (hdd : parseFieldDescriptor (T k).2.2.1 = some ty) (hn : ∀ a, narrow ty (.ref a) = .ref a) (hfit : ∀ a, fits ty (.ref a) = true) (hd : decode cc pc = .ok (.putfield i, 3)) : mx_So (mx_W p l e R s m args below meth c Q D tc tb A nL Ok) pc (mx_putrF ci k (pc + 3)) := by
  obtain ⟨hx, hb, hml, hown, hts, hK, hA, hZ, hOk⟩ := C
  intro lv st F ca sl h
  obtain ⟨u, q, r, fs, rfl, hq, hlen, h⟩ := h
  intro ad H locs ls h1 hP hD hS hl
  have hap := va_apart (own := own) hts hin ty0 hty hnm hK hc
  obtain ⟨r2, h11, cell, q1, q2, q3, q4⟩ := hP q _ hq
  have hr2 : r2 = (own, T, N) := Option.some.inj (h11.symm.trans hc)
  subst hr2
  obtain ⟨hS9, hfc, kC, hkC, hkind⟩ := hK.1 ci _ hc
  obtain ⟨cf, kf, fi, f, hi, hsl⟩ := hS9 k hk
  have hlay := hts _ (hin _ (u_in_lay hk))
  unfold u_lay at hlay
  rw [if_pos hfin] at hlay
  have hst := (u_facts hfc hkC (u_lays hts hin hk) hi).1
  have hcf : m.cls = cf := by
    obtain ⟨_, _, c', _, _, _, -, -, hf', -, -, -, hown2, -⟩ := Cond.laysFinal_spec hlay
    have e1 : c' = cf := by have := hi.symm.trans hf'; simp at this; exact this.1.symm
    rw [hr] at hown2
    rw [← e1]; exact Option.some.inj (hown.symm.trans hown2)
  have h6 := u_fits hfc hkC hkind (Or.inr hlay) hi hdd (hn (ad u)) (hfit (ad u))
  refine W.putFinK hx hb hown (hts _ hl0) (by rw [← hr]; exact hi) hst hcf hin2 (by rw [q2]; exact h6) q1 q3 (by rw [hsl]; exact k2_hasslot (q4 k hk)) rfl rfl hd fun H' e1 e2 e3 => ?_
  rw [hsl] at e1 ⊢
  refine h ad H' _ ls (hOk ad F _ (mx_in_put F q _) h1) (hP.set hD hq ⟨_, hc, t_OB.to (V := updV (vp_V (fs.map (mx_v ad tb))) k (.ref (ad u))) ⟨_, e1, q2, q3, t_set q4 hap hk _⟩ (fun j _ => ?_)⟩ e3) (hD.set hq) (hS.put e2 e3 (hD.2 q _ hq)) hl
  show _ = vp_V ((fs.set k (mx_r u)).map (mx_v ad tb)) j
  rw [List.map_set]
  exact vp_updV_set (by rw [List.length_map]; exact hlen) _ j
end MXN
