/-! THE WALKING MACHINE: a value, a cell, a world by numbers of places (no address is seen), an instruction as a step on them, each step's soundness out of the kit's rows -/
/-- an int, a long, a cell by its place (none: null), a table of constants by its number -/
abbrev mx_V : Type := Int32 ⊕ Int64 ⊕ Option Nat ⊕ Nat
/-- an array of ints (kind, length, contents), of longs, of references; an object (class number, fields) -/
abbrev mx_E : Type := (Nat × Nat × (Nat → Int32)) ⊕ (Nat × Nat × (Nat → Int64)) ⊕ (Nat × Nat × (Nat → Option Nat)) ⊕ (Nat × List mx_V)
abbrev mx_L : Type := List (Option mx_V)
abbrev mx_S : Type := List mx_V
abbrev mx_F : Type := Nat → Option mx_E
abbrev mx_K : Type := Nat → mx_L → mx_S → mx_F → Nat → Nat → Prop
abbrev mx_O : Type := mx_L → mx_S → mx_F → Nat → Nat → mx_K → Prop
/-- a contract as it is used: arguments, world, what is asked of answer and world -/
abbrev mx_Sp : Type := List mx_V → mx_F → (Option mx_V → mx_F → Prop) → Prop
abbrev mx_i (x : Int32) : mx_V := .inl x
abbrev mx_l (x : Int64) : mx_V := .inr (.inl x)
abbrev mx_r (q : Nat) : mx_V := .inr (.inr (.inl (some q)))
abbrev mx_tb (t : Nat) : mx_V := .inr (.inr (.inr t))
abbrev mx_null : mx_V := .inr (.inr (.inl none))
abbrev mx_ia (n : Nat) (f : Nat → Int32) : mx_E := .inl (0, n, f)
abbrev mx_la (n : Nat) (f : Nat → Int64) : mx_E := .inr (.inl (1, n, f))
abbrev mx_qa (t n : Nat) (f : Nat → Option Nat) : mx_E := .inr (.inr (.inl (t, n, f)))
abbrev mx_ob (ci : Nat) (fs : List mx_V) : mx_E := .inr (.inr (.inr (ci, fs)))
def mx_v (ad tb : Nat → Nat) : mx_V → Value
  | .inl x => .int x
  | .inr (.inl y) => .long y
  | .inr (.inr (.inl none)) => .null
  | .inr (.inr (.inl (some p))) => .ref (ad p)
  | .inr (.inr (.inr t)) => .ref (tb t)
def mx_e (tc : Nat → ClassId) (ad tb : Nat → Nat) : mx_E → va_E
  | .inl (t, n, f) => .inl (tc t, n, .inl f)
  | .inr (.inl (t, n, f)) => .inl (tc t, n, .inr (.inl f))
  | .inr (.inr (.inl (t, n, f))) => .inl (tc t, n, .inr (.inr (.inr (.inr (fun j => (f j).map ad)))))
  | .inr (.inr (.inr (ci, fs))) => .inr (ci, fs.map (mx_v ad tb))
def mx_cat : mx_V → Nat
  | .inr (.inl _) => 2
  | _ => 1
theorem mx_cat_v (ad tb : Nat → Nat) (v : mx_V) : (mx_v ad tb v).category = mx_cat v := by
  rcases v with x | x | (_ | x) | x <;> rfl
def mx_cs : mx_S → Nat
  | [] => 0
  | v :: r => mx_cat v + mx_cs r
theorem mx_cs_map (ad tb : Nat → Nat) (r : mx_S) : ((r.map (mx_v ad tb)).map fun v => v.category).sum = mx_cs r := by
  induction r with
  | nil => rfl
  | cons v r ih => simp only [List.map_cons, List.sum_cons, mx_cs, mx_cat_v, ih]
/-- a kind of array by its number -/
def mx_t (tc : Nat → ClassId) (ft : List FieldType) : List (ClassId × FieldType) := ft.mapIdx (fun i t => (tc i, t))
theorem mx_t_get {tc : Nat → ClassId} {ft : List FieldType} {i : Nat} {t : FieldType} (h : ft[i]? = some t) : (mx_t tc ft)[i]? = some (tc i, t) := by
  unfold mx_t
  rw [List.getElem?_mapIdx, h]
  rfl
-- worlds
def mx_put (F : mx_F) (k : Nat) (e : mx_E) : mx_F := fun j => bif Nat.beq j k then some e else F j
theorem mx_beq_ne {j k : Nat} (h : j ≠ k) : Nat.beq j k = false := by
  cases hb : Nat.beq j k with
  | false => rfl
  | true => exact absurd (Nat.eq_of_beq_eq_true hb) h
theorem mx_put_at (F : mx_F) (k : Nat) (e : mx_E) : mx_put F k e k = some e := by
  unfold mx_put
  rw [Nat.beq_refl]
  rfl
theorem mx_put_ne {F : mx_F} {j k : Nat} {e : mx_E} (h : j ≠ k) : mx_put F k e j = F j := by
  unfold mx_put
  rw [mx_beq_ne h]
  rfl
theorem mx_put_or {F : mx_F} {j k : Nat} {e x : mx_E} (h : mx_put F k e j = some x) : (j = k ∧ x = e) ∨ (j ≠ k ∧ F j = some x) := by
  by_cases hj : j = k
  · subst hj
    rw [mx_put_at] at h
    exact Or.inl ⟨rfl, (Option.some.inj h).symm⟩
  · rw [mx_put_ne hj] at h
    exact Or.inr ⟨hj, h⟩
theorem mx_self {F : mx_F} {k : Nat} {e : mx_E} (h : F k = some e) : mx_put F k e = F := by
  funext j
  by_cases hj : j = k
  · subst hj
    rw [mx_put_at, h]
  · rw [mx_put_ne hj]
theorem mx_pp (F : mx_F) (k : Nat) (a b : mx_E) : mx_put (mx_put F k a) k b = mx_put F k b := by
  funext j
  by_cases hj : j = k
  · subst hj
    rw [mx_put_at, mx_put_at]
  · rw [mx_put_ne hj, mx_put_ne hj, mx_put_ne hj]
theorem mx_pc (F : mx_F) {j k : Nat} (a b : mx_E) (h : j ≠ k) : mx_put (mx_put F k a) j b = mx_put (mx_put F j b) k a := by
  funext i
  by_cases hj : i = j
  · subst hj
    rw [mx_put_at, mx_put_ne h, mx_put_at]
  · by_cases hk : i = k
    · subst hk
      rw [mx_put_ne hj, mx_put_at, mx_put_at]
    · rw [mx_put_ne hj, mx_put_ne hk, mx_put_ne hk, mx_put_ne hj]
def mx_P (D : va_G) (tc : Nat → ClassId) (ad tb : Nat → Nat) (F : mx_F) (H : Heap) : Prop := ∀ (k : Nat) (e : mx_E), F k = some e → va_at D vwCl (ad k, mx_e tc ad tb e) H
def mx_D (A : Nat → Prop) (ad : Nat → Nat) (F : mx_F) : Prop := (∀ (j k : Nat) (x y : mx_E), F j = some x → F k = some y → ad j = ad k → j = k) ∧ ∀ (k : Nat) (x : mx_E), F k = some x → A (ad k)
def mx_A (ad : Nat → Nat) (F : mx_F) (sz : Nat) : Nat → Prop := fun q => (∃ (k : Nat) (x : mx_E), F k = some x ∧ ad k = q) ∨ sz ≤ q
/-- the places of G are places of F -/
def mx_in (G F : mx_F) : Prop := ∀ (k : Nat) (x : mx_E), G k = some x → ∃ y, F k = some y
theorem mx_in_rf (F : mx_F) : mx_in F F := fun _ x h => ⟨x, h⟩
theorem mx_in_tr {F G I : mx_F} (h1 : mx_in F G) (h2 : mx_in G I) : mx_in F I := fun k x h => by
  obtain ⟨y, hy⟩ := h1 k x h
  exact h2 k y hy
theorem mx_in_put (F : mx_F) (k : Nat) (e : mx_E) : mx_in F (mx_put F k e) := fun j x h => by
  by_cases hj : j = k
  · subst hj
    exact ⟨e, mx_put_at _ _ _⟩
  · exact ⟨x, by rw [mx_put_ne hj]; exact h⟩
theorem mx_P.set {D : va_G} {tc : Nat → ClassId} {ad tb : Nat → Nat} {A : Nat → Prop} {F : mx_F} {H H1 : Heap} {k : Nat} {e0 e : mx_E} (h : mx_P D tc ad tb F H) (hD : mx_D A ad F) (hk : F k = some e0) (he : va_at D vwCl (ad k, mx_e tc ad tb e) H1) (oq : ∀ q : Nat, q ≠ ad k → H1[q]? = H[q]?) : mx_P D tc ad tb (mx_put F k e) H1 := by
  intro j x hx
  rcases mx_put_or hx with ⟨rfl, rfl⟩ | ⟨hj, hx⟩
  · exact he
  · exact (h j x hx).kept (oq _ (fun q => hj (hD.1 j k x e0 hx hk q)))
theorem mx_D.set {A : Nat → Prop} {ad : Nat → Nat} {F : mx_F} {k : Nat} {e0 e : mx_E} (hD : mx_D A ad F) (hk : F k = some e0) : mx_D A ad (mx_put F k e) := by
  have old : ∀ (j : Nat) (x : mx_E), mx_put F k e j = some x → ∃ y, F j = some y := by
    intro j x hx
    rcases mx_put_or hx with ⟨rfl, rfl⟩ | ⟨_, hx⟩
    · exact ⟨_, hk⟩
    · exact ⟨_, hx⟩
  refine ⟨fun i j x y hx hy h => ?_, fun j x hx => ?_⟩
  · obtain ⟨x', hx'⟩ := old i x hx
    obtain ⟨y', hy'⟩ := old j y hy
    exact hD.1 i j x' y' hx' hy' h
  · obtain ⟨x', hx'⟩ := old j x hx
    exact hD.2 j x' hx'
-- locals
def mx_ls (ad tb : Nat → Nat) (lv : mx_L) : List (Nat × Value) := (List.range lv.length).filterMap (fun i => match lv[i]? with
  | some (some v) => some (i, mx_v ad tb v)
  | _ => none)
theorem mx_ls_mem {ad tb : Nat → Nat} {lv : mx_L} {q : Nat × Value} : q ∈ mx_ls ad tb lv ↔ ∃ v, lv[q.1]? = some (some v) ∧ q.2 = mx_v ad tb v := by
  unfold mx_ls
  rw [List.mem_filterMap]
  constructor
  · rintro ⟨i, -, hi⟩
    split at hi
    · rename_i v hv
      cases hi
      exact ⟨v, hv, rfl⟩
    · cases hi
  · rintro ⟨v, hv, h2⟩
    refine ⟨q.1, List.mem_range.mpr (List.getElem?_eq_some_iff.mp hv).1, ?_⟩
    rw [hv]
    show some (q.1, mx_v ad tb v) = some q
    rw [← h2]
def mx_H (ad tb : Nat → Nat) (ls : Array Slot) (nL : Nat) (lv : mx_L) : Prop := lv.length = nL ∧ lv_has ls nL (mx_ls ad tb lv)
theorem mx_H.at {ad tb : Nat → Nat} {ls : Array Slot} {nL : Nat} {lv : mx_L} (h : mx_H ad tb ls nL lv) {i : Nat} {v : mx_V} (hv : lv[i]? = some (some v)) : ls[i]? = some (.val (mx_v ad tb v)) := h.2.2.2 (i, mx_v ad tb v) (mx_ls_mem.mpr ⟨v, hv, rfl⟩)
def mx_kp (lv : mx_L) : Nat → mx_L
  | 0 => lv
  | j + 1 => match lv[j]? with
    | some (some (.inr (.inl _))) => lv.set j none
    | _ => lv
def mx_st1 (lv : mx_L) (i : Nat) (v : mx_V) : mx_L := (mx_kp lv i).set i (some v)
def mx_st2 (lv : mx_L) (i : Nat) (v : mx_V) : mx_L := ((mx_kp lv i).set i (some v)).set (i + 1) none
theorem mx_kp_len (lv : mx_L) (i : Nat) : (mx_kp lv i).length = lv.length := by
  cases i with
  | zero => rfl
  | succ j =>
    simp only [mx_kp]
    split
    · rw [List.length_set]
    · rfl
theorem mx_kp_at {lv : mx_L} {i j : Nat} {w : mx_V} (h : (mx_kp lv i)[j]? = some (some w)) : lv[j]? = some (some w) ∧ ¬ (j + 1 = i ∧ mx_cat w = 2) := by
  cases i with
  | zero => exact ⟨h, fun q => by omega⟩
  | succ k =>
    simp only [mx_kp] at h
    split at h
    · rw [List.getElem?_set] at h
      split at h
      · split at h
        · cases h
        · cases h
      · rename_i hne
        exact ⟨h, fun q => hne (by omega)⟩
    · rename_i hno
      refine ⟨h, fun q => ?_⟩
      obtain ⟨q1, q2⟩ := q
      have hjk : j = k := by omega
      subst hjk
      rcases w with x | x | x | x
      · cases q2
      · exact hno x h
      · cases q2
      · cases q2
theorem mx_H.st1 {ad tb : Nat → Nat} {ls' : Array Slot} {nL : Nat} {lv : mx_L} {i : Nat} {v : mx_V} (hn : lv.length = nL) (h : lv_has ls' nL ((i, mx_v ad tb v) :: (mx_ls ad tb lv).filter (fun q => !(q.1 == i) && !(q.1 + 1 == i && q.2.category == 2)))) : mx_H ad tb ls' nL (mx_st1 lv i v) := by
  refine ⟨by rw [mx_st1, List.length_set, mx_kp_len, hn], h.1, h.2.1, fun q hq => h.2.2 q ?_⟩
  obtain ⟨w, h1, h2⟩ := mx_ls_mem.mp hq
  obtain ⟨j, x⟩ := q
  dsimp only at h1 h2
  rw [mx_st1, List.getElem?_set] at h1
  split at h1
  · rename_i hij
    subst hij
    split at h1
    · cases h1
      rw [h2]
      exact List.mem_cons_self
    · cases h1
  · rename_i hij
    obtain ⟨g1, g2⟩ := mx_kp_at h1
    refine List.mem_cons_of_mem _ (List.mem_filter.mpr ⟨mx_ls_mem.mpr ⟨w, g1, h2⟩, ?_⟩)
    dsimp only
    rw [h2, mx_cat_v]
    have e1 : (j == i) = false := by simp; omega
    rw [e1]
    by_cases e2 : j + 1 = i
    · have e3 : mx_cat w ≠ 2 := fun z => g2 ⟨e2, z⟩
      simp [e3]
    · simp [e2]
theorem mx_H.st2 {ad tb : Nat → Nat} {ls' : Array Slot} {nL : Nat} {lv : mx_L} {i : Nat} {v : mx_V} (hn : lv.length = nL) (h : lv_has ls' nL ((i, mx_v ad tb v) :: (mx_ls ad tb lv).filter (fun q => !(q.1 == i) && (!(q.1 == i + 1) && !(q.1 + 1 == i && q.2.category == 2))))) : mx_H ad tb ls' nL (mx_st2 lv i v) := by
  refine ⟨by rw [mx_st2, List.length_set, List.length_set, mx_kp_len, hn], h.1, h.2.1, fun q hq => h.2.2 q ?_⟩
  obtain ⟨w, h1, h2⟩ := mx_ls_mem.mp hq
  obtain ⟨j, x⟩ := q
  dsimp only at h1 h2
  rw [mx_st2, List.getElem?_set] at h1
  split at h1
  · split at h1
    · cases h1
    · cases h1
  rename_i hij1
  rw [List.getElem?_set] at h1
  split at h1
  · rename_i hij
    subst hij
    split at h1
    · cases h1
      rw [h2]
      exact List.mem_cons_self
    · cases h1
  · rename_i hij
    obtain ⟨g1, g2⟩ := mx_kp_at h1
    refine List.mem_cons_of_mem _ (List.mem_filter.mpr ⟨mx_ls_mem.mpr ⟨w, g1, h2⟩, ?_⟩)
    dsimp only
    rw [h2, mx_cat_v]
    have e1 : (j == i) = false := by simp; omega
    have e4 : (j == i + 1) = false := by simp; omega
    rw [e1, e4]
    by_cases e2 : j + 1 = i
    · have e3 : mx_cat w ≠ 2 := fun z => g2 ⟨e2, z⟩
      simp [e3]
    · simp [e2]
-- statics: fields that hold tables, and the tables
/-- the class of arrays of longs is the component of that of arrays of them -/
def mx_J (U : State) : Prop := ∃ (cQ cJ : ClassId) (kQ : Class), U.vm.findClass "[[J" = some cQ ∧ U.vm.findClass "[J" = some cJ ∧ U.vm.classes[cQ]? = some kQ ∧ kQ.kind = .array cJ (.array .long)
theorem mx_J.moved {u U : State} (hvm : u.vm.Alike U.vm) (h : mx_J u) : mx_J U := by
  obtain ⟨cQ, cJ, kQ, h1, h2, h3, h4⟩ := h
  obtain ⟨k', hk', he⟩ := hvm.2.2 _ _ h3
  exact ⟨cQ, cJ, k', by rw [hvm.findClass]; exact h1, by rw [hvm.findClass]; exact h2, hk', by rw [he]; exact h4⟩
def mx_Z (tb : Nat → Nat) (A : Nat → Prop) (U : State) (H : Heap) : Prop := (∀ z ∈ mx_zs, va_Z z.1 z.2.1 z.2.2.1 (.ref (tb z.2.2.2)) A U H) ∧ (∀ (t n : Nat) (f : Nat → Int32), mx_tt t = some (n, f) → va_T .int (tb t) n (fun j => .int (f j)) A U H) ∧ (∀ w ∈ mx_nw, va_Nw w U) ∧ mx_J U
theorem mx_Z.to {tb : Nat → Nat} {A B : Nat → Prop} {u U : State} {H H1 : Heap} (h : mx_Z tb A u H) (hvm : u.vm.Alike U.vm) (hN : ∀ w ∈ mx_nw, va_Nw w u → va_Nw w U) (hq : ∀ a : Nat, a < H.size → ¬ A a → H1[a]? = H[a]?) (hAB : ∀ q, B q → A q) : mx_Z tb B U H1 :=
  ⟨fun z hz => (((h.1 z hz).moved hvm).kept hq).narrow hAB, fun t n f ht => (((h.2.1 t n f ht).moved hvm).kept hq).narrow hAB, fun w hw => hN w hw (h.2.2.1 w hw), h.2.2.2.moved hvm⟩
theorem mx_nw_warm {s U : State} (hW : s.WarmedH U.vm) : ∀ w ∈ mx_nw, va_Nw w s → va_Nw w U := by
  intro w hw h
  simp only [mx_nw, List.mem_cons, List.not_mem_nil, or_false] at hw
  rcases hw with rfl | rfl
  · exact va_Nw.warmM hW h
  · exact va_Nw.warmM hW h
theorem mx_nw_same {u U : State} (hv : u.vm = U.vm) : ∀ w ∈ mx_nw, va_Nw w u → va_Nw w U := by
  intro w hw h
  simp only [mx_nw, List.mem_cons, List.not_mem_nil, or_false] at hw
  rcases hw with rfl | rfl
  · exact va_Nw.same rfl hv h
  · exact va_Nw.same rfl hv h
/-- the machine at a place: from every heap that holds the world it comes to Q -/
def mx_W (p : Program) (l : Launch) (e : Env) (R : Room) (s : State) (m : MethodId) (args : Array Value) (below : List Frame) (meth : Method) (c : Code) (Q : State → Prop) (D : va_G) (tc : Nat → ClassId) (tb : Nat → Nat) (A : Nat → Prop) (nL : Nat) (Ok : (Nat → Nat) → mx_F → Prop) : mx_K := fun pc lv st F ca sl =>
  ∀ (ad : Nat → Nat) (H : Heap) (locs : List Loc) (ls : Array Slot), Ok ad F → mx_P D tc ad tb F H → mx_D A ad F → va_S A s.heap H locs → mx_H ad tb ls nL lv → W p l e R s m args below meth c H locs ca sl Q (F0 m pc ls (st.map (mx_v ad tb)))
/-- what stays through a method -/
def mx_C (p : Program) (s : State) (m : MethodId) (args : Array Value) (c : Code) (cc : ByteArray) (own : String) (Ts : List Cond) (D : va_G) (tc : Nat → ClassId) (tb : Nat → Nat) (A : Nat → Prop) (nL : Nat) (Ok : (Nat → Nat) → mx_F → Prop) : Prop :=
  p.tables.exec = Jvm.exec ∧ c.code = cc ∧ c.maxLocals = nL ∧ s.vm.findClass own = some m.cls ∧ (∀ w ∈ Ts, w.before args s = true) ∧ va_K D vwCl (mx_t tc mx_ft) s ∧ (∀ q : Nat, s.heap.size ≤ q → A q) ∧ mx_Z tb A s s.heap ∧ ∀ (ad : Nat → Nat) (F F' : mx_F), mx_in F F' → Ok ad F → Ok ad F'
/-- a step is sound at a place -/
def mx_So (K : mx_K) (pc : Nat) (o : mx_O) : Prop := ∀ (lv : mx_L) (st : mx_S) (F : mx_F) (ca sl : Nat), o lv st F ca sl K → K pc lv st F ca sl
def mx_all (K : mx_K) : List (Nat × mx_O) → Prop
  | [] => True
  | q :: r => mx_So K q.1 q.2 ∧ mx_all K r
def mx_at : List (Nat × mx_O) → Nat → Option mx_O
  | [], _ => none
  | q :: r, pc => bif Nat.beq q.1 pc then some q.2 else mx_at r pc
theorem mx_go {K : mx_K} : ∀ {t : List (Nat × mx_O)}, mx_all K t → ∀ {pc : Nat} {o : mx_O} {lv : mx_L} {st : mx_S} {F : mx_F} {ca sl : Nat}, mx_at t pc = some o → o lv st F ca sl K → K pc lv st F ca sl
  | [], _, _, _, _, _, _, _, _, h, _ => by cases h
  | q :: r, ha, pc, o, lv, st, F, ca, sl, h, ho => by
    unfold mx_at at h
    cases hb : Nat.beq q.1 pc with
    | true =>
      rw [hb] at h
      have e1 : q.1 = pc := Nat.eq_of_beq_eq_true hb
      cases h
      rw [← e1]
      exact ha.1 lv st F ca sl ho
    | false =>
      rw [hb] at h
      exact mx_go ha.2 h ho
-- the steps
def mx_push (v : mx_V) (nx : Nat) : mx_O := fun lv st F ca sl K => K nx lv (v :: st) F ca sl
def mx_iload (i nx : Nat) : mx_O := fun lv st F ca sl K => ∃ (x : Int32), lv[i]? = some (some (.inl x)) ∧ K nx lv (.inl x :: st) F ca sl
def mx_lload (i nx : Nat) : mx_O := fun lv st F ca sl K => ∃ (x : Int64), lv[i]? = some (some (.inr (.inl x))) ∧ K nx lv (.inr (.inl x) :: st) F ca sl
def mx_aload (i nx : Nat) : mx_O := fun lv st F ca sl K => ∃ (q : Nat), lv[i]? = some (some (.inr (.inr (.inl (some q))))) ∧ K nx lv (.inr (.inr (.inl (some q))) :: st) F ca sl
def mx_istore (i nx : Nat) : mx_O := fun lv st F ca sl K => ∃ (x : Int32) (r : mx_S), st = .inl x :: r ∧ K nx (mx_st1 lv i (.inl x)) r F ca sl
def mx_lstore (i nx : Nat) : mx_O := fun lv st F ca sl K => ∃ (x : Int64) (r : mx_S), st = .inr (.inl x) :: r ∧ K nx (mx_st2 lv i (.inr (.inl x))) r F ca sl
def mx_astore (i nx : Nat) : mx_O := fun lv st F ca sl K => ∃ (q : Nat) (r : mx_S), st = .inr (.inr (.inl (some q))) :: r ∧ K nx (mx_st1 lv i (.inr (.inr (.inl (some q))))) r F ca sl
def mx_iinc (i : Nat) (k : Int32) (nx : Nat) : mx_O := fun lv st F ca sl K => ∃ (x : Int32), lv[i]? = some (some (.inl x)) ∧ K nx (mx_st1 lv i (.inl (x + k))) st F ca sl
def mx_goto (nx : Nat) : mx_O := fun lv st F ca sl K => K nx lv st F ca sl
def mx_dup (nx : Nat) : mx_O := fun lv st F ca sl K => ∃ (v : mx_V) (r : mx_S), st = v :: r ∧ mx_cat v = 1 ∧ K nx lv (v :: v :: r) F ca sl
def mx_dup2 (nx : Nat) : mx_O := fun lv st F ca sl K => ∃ (v w : mx_V) (r : mx_S), st = v :: w :: r ∧ mx_cat v = 1 ∧ mx_cat w = 1 ∧ K nx lv (v :: w :: v :: w :: r) F ca sl
def mx_pop (nx : Nat) : mx_O := fun lv st F ca sl K => ∃ (v : mx_V) (r : mx_S), st = v :: r ∧ mx_cat v = 1 ∧ K nx lv r F ca sl
def mx_dup_x1 (nx : Nat) : mx_O := fun lv st F ca sl K => ∃ (v w : mx_V) (r : mx_S), st = v :: w :: r ∧ mx_cat v = 1 ∧ mx_cat w = 1 ∧ K nx lv (v :: w :: v :: r) F ca sl
def mx_dup_x2 (nx : Nat) : mx_O := fun lv st F ca sl K => ∃ (v w u : mx_V) (r : mx_S), st = v :: w :: u :: r ∧ mx_cat v = 1 ∧ mx_cat w = 1 ∧ mx_cat u = 1 ∧ K nx lv (v :: w :: u :: v :: r) F ca sl
def mx_i2l (nx : Nat) : mx_O := fun lv st F ca sl K => ∃ (x : Int32) (r : mx_S), st = .inl x :: r ∧ K nx lv (.inr (.inl x.toInt64) :: r) F ca sl
def mx_l2i (nx : Nat) : mx_O := fun lv st F ca sl K => ∃ (x : Int64) (r : mx_S), st = .inr (.inl x) :: r ∧ K nx lv (.inl x.toInt32 :: r) F ca sl
def mx_ineg (nx : Nat) : mx_O := fun lv st F ca sl K => ∃ (x : Int32) (r : mx_S), st = .inl x :: r ∧ K nx lv (.inl (-x) :: r) F ca sl
def mx_lcmp (nx : Nat) : mx_O := fun lv st F ca sl K => ∃ (x y : Int64) (r : mx_S), st = .inr (.inl y) :: .inr (.inl x) :: r ∧ K nx lv (.inl (lg_cmp x y) :: r) F ca sl
def mx_get (ci k nx : Nat) : mx_O := fun lv st F ca sl K => ∃ (q : Nat) (r : mx_S) (fs : List mx_V) (v : mx_V), st = .inr (.inr (.inl (some q))) :: r ∧ F q = some (.inr (.inr (.inr (ci, fs)))) ∧ fs[k]? = some v ∧ K nx lv (v :: r) F ca sl
def mx_puti (ci k nx : Nat) : mx_O := fun lv st F ca sl K => ∃ (x : Int32) (q : Nat) (r : mx_S) (fs : List mx_V), st = .inl x :: .inr (.inr (.inl (some q))) :: r ∧ F q = some (.inr (.inr (.inr (ci, fs)))) ∧ k < fs.length ∧ K nx lv r (mx_put F q (.inr (.inr (.inr (ci, fs.set k (.inl x)))))) ca sl
def mx_putl (ci k nx : Nat) : mx_O := fun lv st F ca sl K => ∃ (x : Int64) (q : Nat) (r : mx_S) (fs : List mx_V), st = .inr (.inl x) :: .inr (.inr (.inl (some q))) :: r ∧ F q = some (.inr (.inr (.inr (ci, fs)))) ∧ k < fs.length ∧ K nx lv r (mx_put F q (.inr (.inr (.inr (ci, fs.set k (.inr (.inl x))))))) ca sl
def mx_gets (t nx : Nat) : mx_O := fun lv st F ca sl K => K nx lv (.inr (.inr (.inr t)) :: st) F ca sl
def mx_iald (nx : Nat) : mx_O := fun lv st F ca sl K => ∃ (i : Int32) (q : Nat) (r : mx_S) (n : Nat) (f : Nat → Int32), st = .inl i :: .inr (.inr (.inl (some q))) :: r ∧ F q = some (.inl (0, n, f)) ∧ vp_in i n ∧ K nx lv (.inl (f i.toNatClampNeg) :: r) F ca sl
def mx_tald (nx : Nat) : mx_O := fun lv st F ca sl K => ∃ (i : Int32) (t : Nat) (r : mx_S) (n : Nat) (f : Nat → Int32), st = .inl i :: .inr (.inr (.inr t)) :: r ∧ mx_tt t = some (n, f) ∧ vp_in i n ∧ K nx lv (.inl (f i.toNatClampNeg) :: r) F ca sl
def mx_lald (nx : Nat) : mx_O := fun lv st F ca sl K => ∃ (i : Int32) (q : Nat) (r : mx_S) (n : Nat) (f : Nat → Int64), st = .inl i :: .inr (.inr (.inl (some q))) :: r ∧ F q = some (.inr (.inl (1, n, f))) ∧ vp_in i n ∧ K nx lv (.inr (.inl (f i.toNatClampNeg)) :: r) F ca sl
def mx_aald (nx : Nat) : mx_O := fun lv st F ca sl K => ∃ (i : Int32) (q : Nat) (r : mx_S) (t n : Nat) (f : Nat → Option Nat) (u : Nat), st = .inl i :: .inr (.inr (.inl (some q))) :: r ∧ F q = some (.inr (.inr (.inl (t, n, f)))) ∧ (∃ ty, mx_ft[t]? = some ty ∧ ty.isReference = true) ∧ vp_in i n ∧ f i.toNatClampNeg = some u ∧ K nx lv (.inr (.inr (.inl (some u))) :: r) F ca sl
def mx_iast (nx : Nat) : mx_O := fun lv st F ca sl K => ∃ (x i : Int32) (q : Nat) (r : mx_S) (n : Nat) (f : Nat → Int32), st = .inl x :: .inl i :: .inr (.inr (.inl (some q))) :: r ∧ F q = some (.inl (0, n, f)) ∧ vp_in i n ∧ K nx lv r (mx_put F q (.inl (0, n, upd f i.toNatClampNeg x))) ca sl
def mx_last (nx : Nat) : mx_O := fun lv st F ca sl K => ∃ (x : Int64) (i : Int32) (q : Nat) (r : mx_S) (n : Nat) (f : Nat → Int64), st = .inr (.inl x) :: .inl i :: .inr (.inr (.inl (some q))) :: r ∧ F q = some (.inr (.inl (1, n, f))) ∧ vp_in i n ∧ K nx lv r (mx_put F q (.inr (.inl (1, n, vp_updL f i.toNatClampNeg x)))) ca sl
def mx_alen (nx : Nat) : mx_O := fun lv st F ca sl K => ∃ (q : Nat) (r : mx_S) (n : Nat) (f : Nat → Int32), st = .inr (.inr (.inl (some q))) :: r ∧ F q = some (.inl (0, n, f)) ∧ K nx lv (.inl (nI n) :: r) F ca sl
def mx_iadd (nx : Nat) : mx_O := fun lv st F ca sl K => ∃ (x y : Int32) (r : mx_S), st = .inl y :: .inl x :: r ∧ K nx lv (.inl (x + y) :: r) F ca sl
def mx_isub (nx : Nat) : mx_O := fun lv st F ca sl K => ∃ (x y : Int32) (r : mx_S), st = .inl y :: .inl x :: r ∧ K nx lv (.inl (x - y) :: r) F ca sl
def mx_imul (nx : Nat) : mx_O := fun lv st F ca sl K => ∃ (x y : Int32) (r : mx_S), st = .inl y :: .inl x :: r ∧ K nx lv (.inl (x * y) :: r) F ca sl
def mx_iand (nx : Nat) : mx_O := fun lv st F ca sl K => ∃ (x y : Int32) (r : mx_S), st = .inl y :: .inl x :: r ∧ K nx lv (.inl (x &&& y) :: r) F ca sl
def mx_ior (nx : Nat) : mx_O := fun lv st F ca sl K => ∃ (x y : Int32) (r : mx_S), st = .inl y :: .inl x :: r ∧ K nx lv (.inl (x ||| y) :: r) F ca sl
def mx_ixor (nx : Nat) : mx_O := fun lv st F ca sl K => ∃ (x y : Int32) (r : mx_S), st = .inl y :: .inl x :: r ∧ K nx lv (.inl (x ^^^ y) :: r) F ca sl
def mx_ishl (nx : Nat) : mx_O := fun lv st F ca sl K => ∃ (x y : Int32) (r : mx_S), st = .inl y :: .inl x :: r ∧ K nx lv (.inl (x <<< (y &&& 31)) :: r) F ca sl
def mx_ishr (nx : Nat) : mx_O := fun lv st F ca sl K => ∃ (x y : Int32) (r : mx_S), st = .inl y :: .inl x :: r ∧ K nx lv (.inl (x >>> (y &&& 31)) :: r) F ca sl
def mx_iushr (nx : Nat) : mx_O := fun lv st F ca sl K => ∃ (x y : Int32) (r : mx_S), st = .inl y :: .inl x :: r ∧ K nx lv (.inl ((x.toUInt32 >>> (y.toUInt32 &&& Int32.toUInt32 31)).toInt32) :: r) F ca sl
def mx_ladd (nx : Nat) : mx_O := fun lv st F ca sl K => ∃ (x y : Int64) (r : mx_S), st = .inr (.inl y) :: .inr (.inl x) :: r ∧ K nx lv (.inr (.inl (x + y)) :: r) F ca sl
def mx_lsub (nx : Nat) : mx_O := fun lv st F ca sl K => ∃ (x y : Int64) (r : mx_S), st = .inr (.inl y) :: .inr (.inl x) :: r ∧ K nx lv (.inr (.inl (x - y)) :: r) F ca sl
def mx_lmul (nx : Nat) : mx_O := fun lv st F ca sl K => ∃ (x y : Int64) (r : mx_S), st = .inr (.inl y) :: .inr (.inl x) :: r ∧ K nx lv (.inr (.inl (x * y)) :: r) F ca sl
def mx_land (nx : Nat) : mx_O := fun lv st F ca sl K => ∃ (x y : Int64) (r : mx_S), st = .inr (.inl y) :: .inr (.inl x) :: r ∧ K nx lv (.inr (.inl (x &&& y)) :: r) F ca sl
def mx_lor (nx : Nat) : mx_O := fun lv st F ca sl K => ∃ (x y : Int64) (r : mx_S), st = .inr (.inl y) :: .inr (.inl x) :: r ∧ K nx lv (.inr (.inl (x ||| y)) :: r) F ca sl
def mx_lxor (nx : Nat) : mx_O := fun lv st F ca sl K => ∃ (x y : Int64) (r : mx_S), st = .inr (.inl y) :: .inr (.inl x) :: r ∧ K nx lv (.inr (.inl (x ^^^ y)) :: r) F ca sl
def mx_lshl (nx : Nat) : mx_O := fun lv st F ca sl K => ∃ (x : Int64) (y : Int32) (r : mx_S), st = .inl y :: .inr (.inl x) :: r ∧ K nx lv (.inr (.inl (x <<< (y.toInt64 &&& 63))) :: r) F ca sl
def mx_lshr (nx : Nat) : mx_O := fun lv st F ca sl K => ∃ (x : Int64) (y : Int32) (r : mx_S), st = .inl y :: .inr (.inl x) :: r ∧ K nx lv (.inr (.inl (x >>> (y.toInt64 &&& 63))) :: r) F ca sl
def mx_lushr (nx : Nat) : mx_O := fun lv st F ca sl K => ∃ (x : Int64) (y : Int32) (r : mx_S), st = .inl y :: .inr (.inl x) :: r ∧ K nx lv (.inr (.inl ((x.toUInt64 >>> (y.toInt64.toUInt64 &&& Int64.toUInt64 63)).toInt64)) :: r) F ca sl
def mx_idiv (nx : Nat) : mx_O := fun lv st F ca sl K => ∃ (x y : Int32) (r : mx_S), st = .inl y :: .inl x :: r ∧ ¬ y = 0 ∧ K nx lv (.inl (x / y) :: r) F ca sl
def mx_irem (nx : Nat) : mx_O := fun lv st F ca sl K => ∃ (x y : Int32) (r : mx_S), st = .inl y :: .inl x :: r ∧ ¬ y = 0 ∧ K nx lv (.inl (x - x / y * y) :: r) F ca sl
def mx_ldiv (nx : Nat) : mx_O := fun lv st F ca sl K => ∃ (x y : Int64) (r : mx_S), st = .inr (.inl y) :: .inr (.inl x) :: r ∧ ¬ y = 0 ∧ K nx lv (.inr (.inl (x / y)) :: r) F ca sl
def mx_lrem (nx : Nat) : mx_O := fun lv st F ca sl K => ∃ (x y : Int64) (r : mx_S), st = .inr (.inl y) :: .inr (.inl x) :: r ∧ ¬ y = 0 ∧ K nx lv (.inr (.inl (x - x / y * y)) :: r) F ca sl
def mx_if_eq (tg nx : Nat) : mx_O := fun lv st F ca sl K => ∃ (x : Int32) (r : mx_S), st = .inl x :: r ∧ (x = 0 → K tg lv r F ca sl) ∧ (¬ x = 0 → K nx lv r F ca sl)
def mx_if_ne (tg nx : Nat) : mx_O := fun lv st F ca sl K => ∃ (x : Int32) (r : mx_S), st = .inl x :: r ∧ (¬ x = 0 → K tg lv r F ca sl) ∧ (x = 0 → K nx lv r F ca sl)
def mx_if_lt (tg nx : Nat) : mx_O := fun lv st F ca sl K => ∃ (x : Int32) (r : mx_S), st = .inl x :: r ∧ (x < 0 → K tg lv r F ca sl) ∧ (¬ x < 0 → K nx lv r F ca sl)
def mx_if_ge (tg nx : Nat) : mx_O := fun lv st F ca sl K => ∃ (x : Int32) (r : mx_S), st = .inl x :: r ∧ (0 ≤ x → K tg lv r F ca sl) ∧ (¬ 0 ≤ x → K nx lv r F ca sl)
def mx_if_gt (tg nx : Nat) : mx_O := fun lv st F ca sl K => ∃ (x : Int32) (r : mx_S), st = .inl x :: r ∧ (0 < x → K tg lv r F ca sl) ∧ (¬ 0 < x → K nx lv r F ca sl)
def mx_if_le (tg nx : Nat) : mx_O := fun lv st F ca sl K => ∃ (x : Int32) (r : mx_S), st = .inl x :: r ∧ (x ≤ 0 → K tg lv r F ca sl) ∧ (¬ x ≤ 0 → K nx lv r F ca sl)
def mx_ic_eq (tg nx : Nat) : mx_O := fun lv st F ca sl K => ∃ (x y : Int32) (r : mx_S), st = .inl y :: .inl x :: r ∧ (x = y → K tg lv r F ca sl) ∧ (¬ x = y → K nx lv r F ca sl)
def mx_ic_ne (tg nx : Nat) : mx_O := fun lv st F ca sl K => ∃ (x y : Int32) (r : mx_S), st = .inl y :: .inl x :: r ∧ (¬ x = y → K tg lv r F ca sl) ∧ (x = y → K nx lv r F ca sl)
def mx_ic_lt (tg nx : Nat) : mx_O := fun lv st F ca sl K => ∃ (x y : Int32) (r : mx_S), st = .inl y :: .inl x :: r ∧ (x < y → K tg lv r F ca sl) ∧ (¬ x < y → K nx lv r F ca sl)
def mx_ic_ge (tg nx : Nat) : mx_O := fun lv st F ca sl K => ∃ (x y : Int32) (r : mx_S), st = .inl y :: .inl x :: r ∧ (y ≤ x → K tg lv r F ca sl) ∧ (¬ y ≤ x → K nx lv r F ca sl)
def mx_ic_gt (tg nx : Nat) : mx_O := fun lv st F ca sl K => ∃ (x y : Int32) (r : mx_S), st = .inl y :: .inl x :: r ∧ (y < x → K tg lv r F ca sl) ∧ (¬ y < x → K nx lv r F ca sl)
def mx_ic_le (tg nx : Nat) : mx_O := fun lv st F ca sl K => ∃ (x y : Int32) (r : mx_S), st = .inl y :: .inl x :: r ∧ (x ≤ y → K tg lv r F ca sl) ∧ (¬ x ≤ y → K nx lv r F ca sl)
-- returns: what is asked of the answer
def mx_ret (P : Option mx_V → mx_F → Prop) : mx_O := fun _ st F ca sl _ => st = [] ∧ ca = 0 ∧ sl = 0 ∧ P none F
def mx_iret (P : Option mx_V → mx_F → Prop) : mx_O := fun _ st F ca sl _ => ∃ (x : Int32), st = [.inl x] ∧ ca = 0 ∧ sl = 0 ∧ P (some (.inl x)) F
def mx_zret (P : Option mx_V → mx_F → Prop) : mx_O := fun _ st F ca sl _ => ∃ (x : Int32), st = [.inl x] ∧ ca = 0 ∧ sl = 0 ∧ (x = 0 ∨ x = 1) ∧ P (some (.inl x)) F
def mx_lret (P : Option mx_V → mx_F → Prop) : mx_O := fun _ st F ca sl _ => ∃ (x : Int64), st = [.inr (.inl x)] ∧ ca = 0 ∧ sl = 0 ∧ P (some (.inr (.inl x))) F
-- calls that make no cell
def mx_k (nx : Nat) (lv : mx_L) (r : mx_S) (ca sl : Nat) (K : mx_K) : Option mx_V → mx_F → Prop := fun v F' => match v with
  | some x => K nx lv (x :: r) F' ca sl
  | none => K nx lv r F' ca sl
def mx_cv0 (ci : Nat) (sp : mx_Sp) (mc ms nx : Nat) : mx_O := fun lv st F ca sl K => ∃ (q : Nat) (r : mx_S) (fs : List mx_V), st = mx_r q :: r ∧ F q = some (.inr (.inr (.inr (ci, fs)))) ∧ Nat.ble (mx_cs r) 8 = true ∧ Nat.ble ca mc = true ∧ Nat.ble sl ms = true ∧ sp [mx_r q] F (mx_k nx lv r ca sl K)
def mx_cv1 (ci : Nat) (sp : mx_Sp) (mc ms nx : Nat) : mx_O := fun lv st F ca sl K => ∃ (q : Nat) (a1 : mx_V) (r : mx_S) (fs : List mx_V), st = a1 :: mx_r q :: r ∧ F q = some (.inr (.inr (.inr (ci, fs)))) ∧ Nat.ble (mx_cs r) 8 = true ∧ Nat.ble ca mc = true ∧ Nat.ble sl ms = true ∧ sp [mx_r q, a1] F (mx_k nx lv r ca sl K)
def mx_cv2 (ci : Nat) (sp : mx_Sp) (mc ms nx : Nat) : mx_O := fun lv st F ca sl K => ∃ (q : Nat) (a1 a2 : mx_V) (r : mx_S) (fs : List mx_V), st = a2 :: a1 :: mx_r q :: r ∧ F q = some (.inr (.inr (.inr (ci, fs)))) ∧ Nat.ble (mx_cs r) 8 = true ∧ Nat.ble ca mc = true ∧ Nat.ble sl ms = true ∧ sp [mx_r q, a1, a2] F (mx_k nx lv r ca sl K)
def mx_cv3 (ci : Nat) (sp : mx_Sp) (mc ms nx : Nat) : mx_O := fun lv st F ca sl K => ∃ (q : Nat) (a1 a2 a3 : mx_V) (r : mx_S) (fs : List mx_V), st = a3 :: a2 :: a1 :: mx_r q :: r ∧ F q = some (.inr (.inr (.inr (ci, fs)))) ∧ Nat.ble (mx_cs r) 8 = true ∧ Nat.ble ca mc = true ∧ Nat.ble sl ms = true ∧ sp [mx_r q, a1, a2, a3] F (mx_k nx lv r ca sl K)
def mx_cv4 (ci : Nat) (sp : mx_Sp) (mc ms nx : Nat) : mx_O := fun lv st F ca sl K => ∃ (q : Nat) (a1 a2 a3 a4 : mx_V) (r : mx_S) (fs : List mx_V), st = a4 :: a3 :: a2 :: a1 :: mx_r q :: r ∧ F q = some (.inr (.inr (.inr (ci, fs)))) ∧ Nat.ble (mx_cs r) 8 = true ∧ Nat.ble ca mc = true ∧ Nat.ble sl ms = true ∧ sp [mx_r q, a1, a2, a3, a4] F (mx_k nx lv r ca sl K)
def mx_cv5 (ci : Nat) (sp : mx_Sp) (mc ms nx : Nat) : mx_O := fun lv st F ca sl K => ∃ (q : Nat) (a1 a2 a3 a4 a5 : mx_V) (r : mx_S) (fs : List mx_V), st = a5 :: a4 :: a3 :: a2 :: a1 :: mx_r q :: r ∧ F q = some (.inr (.inr (.inr (ci, fs)))) ∧ Nat.ble (mx_cs r) 8 = true ∧ Nat.ble ca mc = true ∧ Nat.ble sl ms = true ∧ sp [mx_r q, a1, a2, a3, a4, a5] F (mx_k nx lv r ca sl K)
def mx_cs1 (sp : mx_Sp) (mc ms nx : Nat) : mx_O := fun lv st F ca sl K => ∃ (a0 : mx_V) (r : mx_S), st = a0 :: r ∧ Nat.ble (mx_cs r) 8 = true ∧ Nat.ble ca mc = true ∧ Nat.ble sl ms = true ∧ sp [a0] F (mx_k nx lv r ca sl K)
def mx_cs2 (sp : mx_Sp) (mc ms nx : Nat) : mx_O := fun lv st F ca sl K => ∃ (a0 a1 : mx_V) (r : mx_S), st = a1 :: a0 :: r ∧ Nat.ble (mx_cs r) 8 = true ∧ Nat.ble ca mc = true ∧ Nat.ble sl ms = true ∧ sp [a0, a1] F (mx_k nx lv r ca sl K)
def mx_cs3 (sp : mx_Sp) (mc ms nx : Nat) : mx_O := fun lv st F ca sl K => ∃ (a0 a1 a2 : mx_V) (r : mx_S), st = a2 :: a1 :: a0 :: r ∧ Nat.ble (mx_cs r) 8 = true ∧ Nat.ble ca mc = true ∧ Nat.ble sl ms = true ∧ sp [a0, a1, a2] F (mx_k nx lv r ca sl K)
def mx_cs4 (sp : mx_Sp) (mc ms nx : Nat) : mx_O := fun lv st F ca sl K => ∃ (a0 a1 a2 a3 : mx_V) (r : mx_S), st = a3 :: a2 :: a1 :: a0 :: r ∧ Nat.ble (mx_cs r) 8 = true ∧ Nat.ble ca mc = true ∧ Nat.ble sl ms = true ∧ sp [a0, a1, a2, a3] F (mx_k nx lv r ca sl K)
section MXS
variable {p : Program} {l : Launch} {e : Env} {R : Room} {s : State} {m : MethodId} {args : Array Value} {below : List Frame} {meth : Method} {c : Code} {Q : State → Prop} {cc : ByteArray} {own : String} {Ts : List Cond} {D : va_G} {tc : Nat → ClassId} {tb : Nat → Nat} {A : Nat → Prop} {nL : Nat} {Ok : (Nat → Nat) → mx_F → Prop} {pc : Nat}
theorem mx_s_iconst (C : mx_C p s m args c cc own Ts D tc tb A nL Ok) {n : Int} {x : Int32} (hd : decode cc pc = .ok (.iconst n, 1)) (hv : Int32.ofInt n = x) : mx_So (mx_W p l e R s m args below meth c Q D tc tb A nL Ok) pc (mx_push (.inl x) (pc + 1)) := by
  obtain ⟨hx, hb, hml, hown, hts, hK, hA, hZ, hOk⟩ := C
  intro lv st F ca sl h
  intro ad H locs ls h1 hP hD hS hl
  exact lv_iconst hx hb hd hv (h ad H locs ls h1 hP hD hS hl)
theorem mx_s_bipush (C : mx_C p s m args c cc own Ts D tc tb A nL Ok) {n : Int} {x : Int32} (hd : decode cc pc = .ok (.bipush n, 2)) (hv : (Int8.ofInt n).toInt32 = x) : mx_So (mx_W p l e R s m args below meth c Q D tc tb A nL Ok) pc (mx_push (.inl x) (pc + 2)) := by
  obtain ⟨hx, hb, hml, hown, hts, hK, hA, hZ, hOk⟩ := C
  intro lv st F ca sl h
  intro ad H locs ls h1 hP hD hS hl
  exact lv_bipush hx hb hd hv (h ad H locs ls h1 hP hD hS hl)
theorem mx_s_sipush (C : mx_C p s m args c cc own Ts D tc tb A nL Ok) {n : Int} {x : Int32} (hd : decode cc pc = .ok (.sipush n, 3)) (hv : (Int16.ofInt n).toInt32 = x) : mx_So (mx_W p l e R s m args below meth c Q D tc tb A nL Ok) pc (mx_push (.inl x) (pc + 3)) := by
  obtain ⟨hx, hb, hml, hown, hts, hK, hA, hZ, hOk⟩ := C
  intro lv st F ca sl h
  intro ad H locs ls h1 hP hD hS hl
  exact lv_sipush hx hb hd hv (h ad H locs ls h1 hP hD hS hl)
theorem mx_s_lconst (C : mx_C p s m args c cc own Ts D tc tb A nL Ok) {n : Fin 2} {x : Int64} (hd : decode cc pc = .ok (.lconst n, 1)) (hv : Int64.ofNat (n : Nat) = x) : mx_So (mx_W p l e R s m args below meth c Q D tc tb A nL Ok) pc (mx_push (.inr (.inl x)) (pc + 1)) := by
  obtain ⟨hx, hb, hml, hown, hts, hK, hA, hZ, hOk⟩ := C
  intro lv st F ca sl h
  intro ad H locs ls h1 hP hD hS hl
  exact lv_lconst hx hb hd hv (h ad H locs ls h1 hP hD hS hl)
theorem mx_s_ldc (C : mx_C p s m args c cc own Ts D tc tb A nL Ok) {i : Nat} {x : Int32} (hd : decode cc pc = .ok (.ldc i, 2)) (hw : Jvm.Cond.constant own i x ∈ Ts) : mx_So (mx_W p l e R s m args below meth c Q D tc tb A nL Ok) pc (mx_push (.inl x) (pc + 2)) := by
  obtain ⟨hx, hb, hml, hown, hts, hK, hA, hZ, hOk⟩ := C
  intro lv st F ca sl h
  intro ad H locs ls h1 hP hD hS hl
  exact lv_ldc hx hb hown (hts _ hw) hd (h ad H locs ls h1 hP hD hS hl)
theorem mx_s_ldc2 (C : mx_C p s m args c cc own Ts D tc tb A nL Ok) {i : Nat} {x : Int64} (hd : decode cc pc = .ok (.ldc2_w i, 3)) (hw : Jvm.Cond.constantLong own i x ∈ Ts) : mx_So (mx_W p l e R s m args below meth c Q D tc tb A nL Ok) pc (mx_push (.inr (.inl x)) (pc + 3)) := by
  obtain ⟨hx, hb, hml, hown, hts, hK, hA, hZ, hOk⟩ := C
  intro lv st F ca sl h
  intro ad H locs ls h1 hP hD hS hl
  exact lv_ldc2 hx hb hown (hts _ hw) hd (h ad H locs ls h1 hP hD hS hl)
theorem mx_s_iload_n (C : mx_C p s m args c cc own Ts D tc tb A nL Ok) {k : Fin 4} {i : Nat} (hd : decode cc pc = .ok (.iload_n k, 1)) (hi : (k : Nat) = i) : mx_So (mx_W p l e R s m args below meth c Q D tc tb A nL Ok) pc (mx_iload i (pc + 1)) := by
  obtain ⟨hx, hb, hml, hown, hts, hK, hA, hZ, hOk⟩ := C
  intro lv st F ca sl h
  obtain ⟨x, hv, h⟩ := h
  intro ad H locs ls h1 hP hD hS hl
  exact lv_iload_n hx hb hd hi (hl.at hv) (h ad H locs ls h1 hP hD hS hl)
theorem mx_s_iload (C : mx_C p s m args c cc own Ts D tc tb A nL Ok) {i : Nat} (hd : decode cc pc = .ok (.iload i, 2)) : mx_So (mx_W p l e R s m args below meth c Q D tc tb A nL Ok) pc (mx_iload i (pc + 2)) := by
  obtain ⟨hx, hb, hml, hown, hts, hK, hA, hZ, hOk⟩ := C
  intro lv st F ca sl h
  obtain ⟨x, hv, h⟩ := h
  intro ad H locs ls h1 hP hD hS hl
  exact lv_iload hx hb hd (hl.at hv) (h ad H locs ls h1 hP hD hS hl)
theorem mx_s_lload_n (C : mx_C p s m args c cc own Ts D tc tb A nL Ok) {k : Fin 4} {i : Nat} (hd : decode cc pc = .ok (.lload_n k, 1)) (hi : (k : Nat) = i) : mx_So (mx_W p l e R s m args below meth c Q D tc tb A nL Ok) pc (mx_lload i (pc + 1)) := by
  obtain ⟨hx, hb, hml, hown, hts, hK, hA, hZ, hOk⟩ := C
  intro lv st F ca sl h
  obtain ⟨x, hv, h⟩ := h
  intro ad H locs ls h1 hP hD hS hl
  exact lv_lload_n hx hb hd hi (hl.at hv) (h ad H locs ls h1 hP hD hS hl)
theorem mx_s_lload (C : mx_C p s m args c cc own Ts D tc tb A nL Ok) {i : Nat} (hd : decode cc pc = .ok (.lload i, 2)) : mx_So (mx_W p l e R s m args below meth c Q D tc tb A nL Ok) pc (mx_lload i (pc + 2)) := by
  obtain ⟨hx, hb, hml, hown, hts, hK, hA, hZ, hOk⟩ := C
  intro lv st F ca sl h
  obtain ⟨x, hv, h⟩ := h
  intro ad H locs ls h1 hP hD hS hl
  exact lv_lload hx hb hd (hl.at hv) (h ad H locs ls h1 hP hD hS hl)
theorem mx_s_aload_n (C : mx_C p s m args c cc own Ts D tc tb A nL Ok) {k : Fin 4} {i : Nat} (hd : decode cc pc = .ok (.aload_n k, 1)) (hi : (k : Nat) = i) : mx_So (mx_W p l e R s m args below meth c Q D tc tb A nL Ok) pc (mx_aload i (pc + 1)) := by
  obtain ⟨hx, hb, hml, hown, hts, hK, hA, hZ, hOk⟩ := C
  intro lv st F ca sl h
  obtain ⟨x, hv, h⟩ := h
  intro ad H locs ls h1 hP hD hS hl
  exact lv_aload_n hx hb hd hi (hl.at hv) (h ad H locs ls h1 hP hD hS hl)
theorem mx_s_aload (C : mx_C p s m args c cc own Ts D tc tb A nL Ok) {i : Nat} (hd : decode cc pc = .ok (.aload i, 2)) : mx_So (mx_W p l e R s m args below meth c Q D tc tb A nL Ok) pc (mx_aload i (pc + 2)) := by
  obtain ⟨hx, hb, hml, hown, hts, hK, hA, hZ, hOk⟩ := C
  intro lv st F ca sl h
  obtain ⟨x, hv, h⟩ := h
  intro ad H locs ls h1 hP hD hS hl
  exact lv_aload hx hb hd (hl.at hv) (h ad H locs ls h1 hP hD hS hl)
theorem mx_s_istore_n (C : mx_C p s m args c cc own Ts D tc tb A nL Ok) {k : Fin 4} {i : Nat} (hd : decode cc pc = .ok (.istore_n k, 1)) (hi : (k : Nat) = i) (hn : i < nL) : mx_So (mx_W p l e R s m args below meth c Q D tc tb A nL Ok) pc (mx_istore i (pc + 1)) := by
  obtain ⟨hx, hb, hml, hown, hts, hK, hA, hZ, hOk⟩ := C
  intro lv st F ca sl h
  obtain ⟨x, r, rfl, h⟩ := h
  intro ad H locs ls h1 hP hD hS hl
  exact lv_istore_n hx hb hd hi hl.2 hn rfl (fun ls' hl' => h ad H locs ls' h1 hP hD hS (mx_H.st1 (v := .inl x) hl.1 hl'))
theorem mx_s_istore (C : mx_C p s m args c cc own Ts D tc tb A nL Ok) {i : Nat} (hd : decode cc pc = .ok (.istore i, 2)) (hn : i < nL) : mx_So (mx_W p l e R s m args below meth c Q D tc tb A nL Ok) pc (mx_istore i (pc + 2)) := by
  obtain ⟨hx, hb, hml, hown, hts, hK, hA, hZ, hOk⟩ := C
  intro lv st F ca sl h
  obtain ⟨x, r, rfl, h⟩ := h
  intro ad H locs ls h1 hP hD hS hl
  exact lv_istore hx hb hd hl.2 hn rfl (fun ls' hl' => h ad H locs ls' h1 hP hD hS (mx_H.st1 (v := .inl x) hl.1 hl'))
theorem mx_s_lstore_n (C : mx_C p s m args c cc own Ts D tc tb A nL Ok) {k : Fin 4} {i : Nat} (hd : decode cc pc = .ok (.lstore_n k, 1)) (hi : (k : Nat) = i) (hn : i + 1 < nL) : mx_So (mx_W p l e R s m args below meth c Q D tc tb A nL Ok) pc (mx_lstore i (pc + 1)) := by
  obtain ⟨hx, hb, hml, hown, hts, hK, hA, hZ, hOk⟩ := C
  intro lv st F ca sl h
  obtain ⟨x, r, rfl, h⟩ := h
  intro ad H locs ls h1 hP hD hS hl
  exact lv_lstore_n hx hb hd hi hl.2 hn rfl (fun ls' hl' => h ad H locs ls' h1 hP hD hS (mx_H.st2 (v := .inr (.inl x)) hl.1 hl'))
theorem mx_s_lstore (C : mx_C p s m args c cc own Ts D tc tb A nL Ok) {i : Nat} (hd : decode cc pc = .ok (.lstore i, 2)) (hn : i + 1 < nL) : mx_So (mx_W p l e R s m args below meth c Q D tc tb A nL Ok) pc (mx_lstore i (pc + 2)) := by
  obtain ⟨hx, hb, hml, hown, hts, hK, hA, hZ, hOk⟩ := C
  intro lv st F ca sl h
  obtain ⟨x, r, rfl, h⟩ := h
  intro ad H locs ls h1 hP hD hS hl
  exact lv_lstore hx hb hd hl.2 hn rfl (fun ls' hl' => h ad H locs ls' h1 hP hD hS (mx_H.st2 (v := .inr (.inl x)) hl.1 hl'))
theorem mx_s_astore_n (C : mx_C p s m args c cc own Ts D tc tb A nL Ok) {k : Fin 4} {i : Nat} (hd : decode cc pc = .ok (.astore_n k, 1)) (hi : (k : Nat) = i) (hn : i < nL) : mx_So (mx_W p l e R s m args below meth c Q D tc tb A nL Ok) pc (mx_astore i (pc + 1)) := by
  obtain ⟨hx, hb, hml, hown, hts, hK, hA, hZ, hOk⟩ := C
  intro lv st F ca sl h
  obtain ⟨x, r, rfl, h⟩ := h
  intro ad H locs ls h1 hP hD hS hl
  exact lv_astore_n hx hb hd hi hl.2 hn rfl (fun ls' hl' => h ad H locs ls' h1 hP hD hS (mx_H.st1 (v := .inr (.inr (.inl (some x)))) hl.1 hl'))
theorem mx_s_astore (C : mx_C p s m args c cc own Ts D tc tb A nL Ok) {i : Nat} (hd : decode cc pc = .ok (.astore i, 2)) (hn : i < nL) : mx_So (mx_W p l e R s m args below meth c Q D tc tb A nL Ok) pc (mx_astore i (pc + 2)) := by
  obtain ⟨hx, hb, hml, hown, hts, hK, hA, hZ, hOk⟩ := C
  intro lv st F ca sl h
  obtain ⟨x, r, rfl, h⟩ := h
  intro ad H locs ls h1 hP hD hS hl
  exact lv_astore hx hb hd hl.2 hn rfl (fun ls' hl' => h ad H locs ls' h1 hP hD hS (mx_H.st1 (v := .inr (.inr (.inl (some x)))) hl.1 hl'))
theorem mx_s_iinc (C : mx_C p s m args c cc own Ts D tc tb A nL Ok) {i : Nat} {n : Int} {k : Int32} (hd : decode cc pc = .ok (.iinc i n, 3)) (hk : Int32.ofInt n = k) (hn : i < nL) : mx_So (mx_W p l e R s m args below meth c Q D tc tb A nL Ok) pc (mx_iinc i k (pc + 3)) := by
  obtain ⟨hx, hb, hml, hown, hts, hK, hA, hZ, hOk⟩ := C
  intro lv st F ca sl h
  obtain ⟨x, hv, h⟩ := h
  intro ad H locs ls h1 hP hD hS hl
  obtain ⟨j, hj⟩ := List.getElem?_of_mem (mx_ls_mem.mpr ⟨.inl x, hv, rfl⟩ : (i, Value.int x) ∈ mx_ls ad tb lv)
  exact lv_iinc hx hb hd hl.2 hj (by rw [hk]) hn rfl (fun ls' hl' => h ad H locs ls' h1 hP hD hS (mx_H.st1 (v := .inl (x + k)) hl.1 hl'))
theorem mx_s_goto (C : mx_C p s m args c cc own Ts D tc tb A nL Ok) {off : Int} {tg : Nat} (hd : decode cc pc = .ok (.goto off, 3)) (ht : (pc : Int) + off = (tg : Int)) : mx_So (mx_W p l e R s m args below meth c Q D tc tb A nL Ok) pc (mx_goto tg) := by
  obtain ⟨hx, hb, hml, hown, hts, hK, hA, hZ, hOk⟩ := C
  intro lv st F ca sl h
  intro ad H locs ls h1 hP hD hS hl
  exact lv_goto hx hb hd ht (h ad H locs ls h1 hP hD hS hl)
theorem mx_s_dup (C : mx_C p s m args c cc own Ts D tc tb A nL Ok) (hd : decode cc pc = .ok (.dup, 1)) : mx_So (mx_W p l e R s m args below meth c Q D tc tb A nL Ok) pc (mx_dup (pc + 1)) := by
  obtain ⟨hx, hb, hml, hown, hts, hK, hA, hZ, hOk⟩ := C
  intro lv st F ca sl h
  obtain ⟨v, r, rfl, hv, h⟩ := h
  intro ad H locs ls h1 hP hD hS hl
  exact lv_dup hx hb hd ((mx_cat_v ad tb v).trans hv) (h ad H locs ls h1 hP hD hS hl)
theorem mx_s_dup2 (C : mx_C p s m args c cc own Ts D tc tb A nL Ok) (hd : decode cc pc = .ok (.dup2, 1)) : mx_So (mx_W p l e R s m args below meth c Q D tc tb A nL Ok) pc (mx_dup2 (pc + 1)) := by
  obtain ⟨hx, hb, hml, hown, hts, hK, hA, hZ, hOk⟩ := C
  intro lv st F ca sl h
  obtain ⟨v, w, r, rfl, hv, hw, h⟩ := h
  intro ad H locs ls h1 hP hD hS hl
  exact lv_dup2_11 hx hb hd ((mx_cat_v ad tb v).trans hv) ((mx_cat_v ad tb w).trans hw) (h ad H locs ls h1 hP hD hS hl)
theorem mx_s_pop (C : mx_C p s m args c cc own Ts D tc tb A nL Ok) (hd : decode cc pc = .ok (.pop, 1)) : mx_So (mx_W p l e R s m args below meth c Q D tc tb A nL Ok) pc (mx_pop (pc + 1)) := by
  obtain ⟨hx, hb, hml, hown, hts, hK, hA, hZ, hOk⟩ := C
  intro lv st F ca sl h
  obtain ⟨v, r, rfl, hv, h⟩ := h
  intro ad H locs ls h1 hP hD hS hl
  exact lv_pop hx hb hd ((mx_cat_v ad tb v).trans hv) (h ad H locs ls h1 hP hD hS hl)
theorem mx_s_dup_x1 (C : mx_C p s m args c cc own Ts D tc tb A nL Ok) (hd : decode cc pc = .ok (.dup_x1, 1)) : mx_So (mx_W p l e R s m args below meth c Q D tc tb A nL Ok) pc (mx_dup_x1 (pc + 1)) := by
  obtain ⟨hx, hb, hml, hown, hts, hK, hA, hZ, hOk⟩ := C
  intro lv st F ca sl h
  obtain ⟨v, w, r, rfl, hv, hw, h⟩ := h
  intro ad H locs ls h1 hP hD hS hl
  exact lv_dup_x1 hx hb hd ((mx_cat_v ad tb v).trans hv) ((mx_cat_v ad tb w).trans hw) (h ad H locs ls h1 hP hD hS hl)
theorem mx_s_dup_x2 (C : mx_C p s m args c cc own Ts D tc tb A nL Ok) (hd : decode cc pc = .ok (.dup_x2, 1)) : mx_So (mx_W p l e R s m args below meth c Q D tc tb A nL Ok) pc (mx_dup_x2 (pc + 1)) := by
  obtain ⟨hx, hb, hml, hown, hts, hK, hA, hZ, hOk⟩ := C
  intro lv st F ca sl h
  obtain ⟨v, w, u, r, rfl, hv, hw, hu, h⟩ := h
  intro ad H locs ls h1 hP hD hS hl
  exact lv_dup_x2 hx hb hd ((mx_cat_v ad tb v).trans hv) ((mx_cat_v ad tb w).trans hw) ((mx_cat_v ad tb u).trans hu) (h ad H locs ls h1 hP hD hS hl)
theorem mx_s_i2l (C : mx_C p s m args c cc own Ts D tc tb A nL Ok) (hd : decode cc pc = .ok (.i2l, 1)) : mx_So (mx_W p l e R s m args below meth c Q D tc tb A nL Ok) pc (mx_i2l (pc + 1)) := by
  obtain ⟨hx, hb, hml, hown, hts, hK, hA, hZ, hOk⟩ := C
  intro lv st F ca sl h
  obtain ⟨x, r, rfl, h⟩ := h
  intro ad H locs ls h1 hP hD hS hl
  exact lv_i2l hx hb hd rfl (h ad H locs ls h1 hP hD hS hl)
theorem mx_s_l2i (C : mx_C p s m args c cc own Ts D tc tb A nL Ok) (hd : decode cc pc = .ok (.l2i, 1)) : mx_So (mx_W p l e R s m args below meth c Q D tc tb A nL Ok) pc (mx_l2i (pc + 1)) := by
  obtain ⟨hx, hb, hml, hown, hts, hK, hA, hZ, hOk⟩ := C
  intro lv st F ca sl h
  obtain ⟨x, r, rfl, h⟩ := h
  intro ad H locs ls h1 hP hD hS hl
  exact lv_l2i hx hb hd rfl (h ad H locs ls h1 hP hD hS hl)
theorem mx_s_ineg (C : mx_C p s m args c cc own Ts D tc tb A nL Ok) (hd : decode cc pc = .ok (.ineg, 1)) : mx_So (mx_W p l e R s m args below meth c Q D tc tb A nL Ok) pc (mx_ineg (pc + 1)) := by
  obtain ⟨hx, hb, hml, hown, hts, hK, hA, hZ, hOk⟩ := C
  intro lv st F ca sl h
  obtain ⟨x, r, rfl, h⟩ := h
  intro ad H locs ls h1 hP hD hS hl
  exact lv_ineg hx hb hd (h ad H locs ls h1 hP hD hS hl)
theorem mx_s_lcmp (C : mx_C p s m args c cc own Ts D tc tb A nL Ok) (hd : decode cc pc = .ok (.lcmp, 1)) : mx_So (mx_W p l e R s m args below meth c Q D tc tb A nL Ok) pc (mx_lcmp (pc + 1)) := by
  obtain ⟨hx, hb, hml, hown, hts, hK, hA, hZ, hOk⟩ := C
  intro lv st F ca sl h
  obtain ⟨x, y, r, rfl, h⟩ := h
  intro ad H locs ls h1 hP hD hS hl
  exact W.lcmp hx hb hd (h ad H locs ls h1 hP hD hS hl)
theorem mx_s_iadd (C : mx_C p s m args c cc own Ts D tc tb A nL Ok) (hd : decode cc pc = .ok (.iadd, 1)) : mx_So (mx_W p l e R s m args below meth c Q D tc tb A nL Ok) pc (mx_iadd (pc + 1)) := by
  obtain ⟨hx, hb, hml, hown, hts, hK, hA, hZ, hOk⟩ := C
  intro lv st F ca sl h
  obtain ⟨x, y, r, rfl, h⟩ := h
  intro ad H locs ls h1 hP hD hS hl
  exact lv_iadd hx hb hd (h ad H locs ls h1 hP hD hS hl)
theorem mx_s_isub (C : mx_C p s m args c cc own Ts D tc tb A nL Ok) (hd : decode cc pc = .ok (.isub, 1)) : mx_So (mx_W p l e R s m args below meth c Q D tc tb A nL Ok) pc (mx_isub (pc + 1)) := by
  obtain ⟨hx, hb, hml, hown, hts, hK, hA, hZ, hOk⟩ := C
  intro lv st F ca sl h
  obtain ⟨x, y, r, rfl, h⟩ := h
  intro ad H locs ls h1 hP hD hS hl
  exact lv_isub hx hb hd (h ad H locs ls h1 hP hD hS hl)
theorem mx_s_imul (C : mx_C p s m args c cc own Ts D tc tb A nL Ok) (hd : decode cc pc = .ok (.imul, 1)) : mx_So (mx_W p l e R s m args below meth c Q D tc tb A nL Ok) pc (mx_imul (pc + 1)) := by
  obtain ⟨hx, hb, hml, hown, hts, hK, hA, hZ, hOk⟩ := C
  intro lv st F ca sl h
  obtain ⟨x, y, r, rfl, h⟩ := h
  intro ad H locs ls h1 hP hD hS hl
  exact lv_imul hx hb hd (h ad H locs ls h1 hP hD hS hl)
theorem mx_s_iand (C : mx_C p s m args c cc own Ts D tc tb A nL Ok) (hd : decode cc pc = .ok (.iand, 1)) : mx_So (mx_W p l e R s m args below meth c Q D tc tb A nL Ok) pc (mx_iand (pc + 1)) := by
  obtain ⟨hx, hb, hml, hown, hts, hK, hA, hZ, hOk⟩ := C
  intro lv st F ca sl h
  obtain ⟨x, y, r, rfl, h⟩ := h
  intro ad H locs ls h1 hP hD hS hl
  exact lv_iand hx hb hd (h ad H locs ls h1 hP hD hS hl)
theorem mx_s_ior (C : mx_C p s m args c cc own Ts D tc tb A nL Ok) (hd : decode cc pc = .ok (.ior, 1)) : mx_So (mx_W p l e R s m args below meth c Q D tc tb A nL Ok) pc (mx_ior (pc + 1)) := by
  obtain ⟨hx, hb, hml, hown, hts, hK, hA, hZ, hOk⟩ := C
  intro lv st F ca sl h
  obtain ⟨x, y, r, rfl, h⟩ := h
  intro ad H locs ls h1 hP hD hS hl
  exact lv_ior hx hb hd (h ad H locs ls h1 hP hD hS hl)
theorem mx_s_ixor (C : mx_C p s m args c cc own Ts D tc tb A nL Ok) (hd : decode cc pc = .ok (.ixor, 1)) : mx_So (mx_W p l e R s m args below meth c Q D tc tb A nL Ok) pc (mx_ixor (pc + 1)) := by
  obtain ⟨hx, hb, hml, hown, hts, hK, hA, hZ, hOk⟩ := C
  intro lv st F ca sl h
  obtain ⟨x, y, r, rfl, h⟩ := h
  intro ad H locs ls h1 hP hD hS hl
  exact lv_ixor hx hb hd (h ad H locs ls h1 hP hD hS hl)
theorem mx_s_ishl (C : mx_C p s m args c cc own Ts D tc tb A nL Ok) (hd : decode cc pc = .ok (.ishl, 1)) : mx_So (mx_W p l e R s m args below meth c Q D tc tb A nL Ok) pc (mx_ishl (pc + 1)) := by
  obtain ⟨hx, hb, hml, hown, hts, hK, hA, hZ, hOk⟩ := C
  intro lv st F ca sl h
  obtain ⟨x, y, r, rfl, h⟩ := h
  intro ad H locs ls h1 hP hD hS hl
  exact lv_ishl hx hb hd (h ad H locs ls h1 hP hD hS hl)
theorem mx_s_ishr (C : mx_C p s m args c cc own Ts D tc tb A nL Ok) (hd : decode cc pc = .ok (.ishr, 1)) : mx_So (mx_W p l e R s m args below meth c Q D tc tb A nL Ok) pc (mx_ishr (pc + 1)) := by
  obtain ⟨hx, hb, hml, hown, hts, hK, hA, hZ, hOk⟩ := C
  intro lv st F ca sl h
  obtain ⟨x, y, r, rfl, h⟩ := h
  intro ad H locs ls h1 hP hD hS hl
  exact lv_ishr hx hb hd (h ad H locs ls h1 hP hD hS hl)
theorem mx_s_iushr (C : mx_C p s m args c cc own Ts D tc tb A nL Ok) (hd : decode cc pc = .ok (.iushr, 1)) : mx_So (mx_W p l e R s m args below meth c Q D tc tb A nL Ok) pc (mx_iushr (pc + 1)) := by
  obtain ⟨hx, hb, hml, hown, hts, hK, hA, hZ, hOk⟩ := C
  intro lv st F ca sl h
  obtain ⟨x, y, r, rfl, h⟩ := h
  intro ad H locs ls h1 hP hD hS hl
  exact lv_iushr hx hb hd rfl (h ad H locs ls h1 hP hD hS hl)
theorem mx_s_ladd (C : mx_C p s m args c cc own Ts D tc tb A nL Ok) (hd : decode cc pc = .ok (.ladd, 1)) : mx_So (mx_W p l e R s m args below meth c Q D tc tb A nL Ok) pc (mx_ladd (pc + 1)) := by
  obtain ⟨hx, hb, hml, hown, hts, hK, hA, hZ, hOk⟩ := C
  intro lv st F ca sl h
  obtain ⟨x, y, r, rfl, h⟩ := h
  intro ad H locs ls h1 hP hD hS hl
  exact lv_ladd hx hb hd (h ad H locs ls h1 hP hD hS hl)
theorem mx_s_lsub (C : mx_C p s m args c cc own Ts D tc tb A nL Ok) (hd : decode cc pc = .ok (.lsub, 1)) : mx_So (mx_W p l e R s m args below meth c Q D tc tb A nL Ok) pc (mx_lsub (pc + 1)) := by
  obtain ⟨hx, hb, hml, hown, hts, hK, hA, hZ, hOk⟩ := C
  intro lv st F ca sl h
  obtain ⟨x, y, r, rfl, h⟩ := h
  intro ad H locs ls h1 hP hD hS hl
  exact lv_lsub hx hb hd (h ad H locs ls h1 hP hD hS hl)
theorem mx_s_lmul (C : mx_C p s m args c cc own Ts D tc tb A nL Ok) (hd : decode cc pc = .ok (.lmul, 1)) : mx_So (mx_W p l e R s m args below meth c Q D tc tb A nL Ok) pc (mx_lmul (pc + 1)) := by
  obtain ⟨hx, hb, hml, hown, hts, hK, hA, hZ, hOk⟩ := C
  intro lv st F ca sl h
  obtain ⟨x, y, r, rfl, h⟩ := h
  intro ad H locs ls h1 hP hD hS hl
  exact lv_lmul hx hb hd (h ad H locs ls h1 hP hD hS hl)
theorem mx_s_land (C : mx_C p s m args c cc own Ts D tc tb A nL Ok) (hd : decode cc pc = .ok (.land, 1)) : mx_So (mx_W p l e R s m args below meth c Q D tc tb A nL Ok) pc (mx_land (pc + 1)) := by
  obtain ⟨hx, hb, hml, hown, hts, hK, hA, hZ, hOk⟩ := C
  intro lv st F ca sl h
  obtain ⟨x, y, r, rfl, h⟩ := h
  intro ad H locs ls h1 hP hD hS hl
  exact lv_land hx hb hd (h ad H locs ls h1 hP hD hS hl)
theorem mx_s_lor (C : mx_C p s m args c cc own Ts D tc tb A nL Ok) (hd : decode cc pc = .ok (.lor, 1)) : mx_So (mx_W p l e R s m args below meth c Q D tc tb A nL Ok) pc (mx_lor (pc + 1)) := by
  obtain ⟨hx, hb, hml, hown, hts, hK, hA, hZ, hOk⟩ := C
  intro lv st F ca sl h
  obtain ⟨x, y, r, rfl, h⟩ := h
  intro ad H locs ls h1 hP hD hS hl
  exact lv_lor hx hb hd (h ad H locs ls h1 hP hD hS hl)
theorem mx_s_lxor (C : mx_C p s m args c cc own Ts D tc tb A nL Ok) (hd : decode cc pc = .ok (.lxor, 1)) : mx_So (mx_W p l e R s m args below meth c Q D tc tb A nL Ok) pc (mx_lxor (pc + 1)) := by
  obtain ⟨hx, hb, hml, hown, hts, hK, hA, hZ, hOk⟩ := C
  intro lv st F ca sl h
  obtain ⟨x, y, r, rfl, h⟩ := h
  intro ad H locs ls h1 hP hD hS hl
  exact lv_lxor hx hb hd (h ad H locs ls h1 hP hD hS hl)
theorem mx_s_lshl (C : mx_C p s m args c cc own Ts D tc tb A nL Ok) (hd : decode cc pc = .ok (.lshl, 1)) : mx_So (mx_W p l e R s m args below meth c Q D tc tb A nL Ok) pc (mx_lshl (pc + 1)) := by
  obtain ⟨hx, hb, hml, hown, hts, hK, hA, hZ, hOk⟩ := C
  intro lv st F ca sl h
  obtain ⟨x, y, r, rfl, h⟩ := h
  intro ad H locs ls h1 hP hD hS hl
  exact lv_lshl hx hb hd rfl (h ad H locs ls h1 hP hD hS hl)
theorem mx_s_lshr (C : mx_C p s m args c cc own Ts D tc tb A nL Ok) (hd : decode cc pc = .ok (.lshr, 1)) : mx_So (mx_W p l e R s m args below meth c Q D tc tb A nL Ok) pc (mx_lshr (pc + 1)) := by
  obtain ⟨hx, hb, hml, hown, hts, hK, hA, hZ, hOk⟩ := C
  intro lv st F ca sl h
  obtain ⟨x, y, r, rfl, h⟩ := h
  intro ad H locs ls h1 hP hD hS hl
  exact lv_lshr hx hb hd rfl (h ad H locs ls h1 hP hD hS hl)
theorem mx_s_lushr (C : mx_C p s m args c cc own Ts D tc tb A nL Ok) (hd : decode cc pc = .ok (.lushr, 1)) : mx_So (mx_W p l e R s m args below meth c Q D tc tb A nL Ok) pc (mx_lushr (pc + 1)) := by
  obtain ⟨hx, hb, hml, hown, hts, hK, hA, hZ, hOk⟩ := C
  intro lv st F ca sl h
  obtain ⟨x, y, r, rfl, h⟩ := h
  intro ad H locs ls h1 hP hD hS hl
  exact lv_lushr hx hb hd rfl (h ad H locs ls h1 hP hD hS hl)
theorem mx_s_idiv (C : mx_C p s m args c cc own Ts D tc tb A nL Ok) (hd : decode cc pc = .ok (.idiv, 1)) : mx_So (mx_W p l e R s m args below meth c Q D tc tb A nL Ok) pc (mx_idiv (pc + 1)) := by
  obtain ⟨hx, hb, hml, hown, hts, hK, hA, hZ, hOk⟩ := C
  intro lv st F ca sl h
  obtain ⟨x, y, r, rfl, hy, h⟩ := h
  intro ad H locs ls h1 hP hD hS hl
  exact lv_idiv hx hb hd hy (h ad H locs ls h1 hP hD hS hl)
theorem mx_s_irem (C : mx_C p s m args c cc own Ts D tc tb A nL Ok) (hd : decode cc pc = .ok (.irem, 1)) : mx_So (mx_W p l e R s m args below meth c Q D tc tb A nL Ok) pc (mx_irem (pc + 1)) := by
  obtain ⟨hx, hb, hml, hown, hts, hK, hA, hZ, hOk⟩ := C
  intro lv st F ca sl h
  obtain ⟨x, y, r, rfl, hy, h⟩ := h
  intro ad H locs ls h1 hP hD hS hl
  exact lv_irem hx hb hd hy (h ad H locs ls h1 hP hD hS hl)
theorem mx_s_ldiv (C : mx_C p s m args c cc own Ts D tc tb A nL Ok) (hd : decode cc pc = .ok (.ldiv, 1)) : mx_So (mx_W p l e R s m args below meth c Q D tc tb A nL Ok) pc (mx_ldiv (pc + 1)) := by
  obtain ⟨hx, hb, hml, hown, hts, hK, hA, hZ, hOk⟩ := C
  intro lv st F ca sl h
  obtain ⟨x, y, r, rfl, hy, h⟩ := h
  intro ad H locs ls h1 hP hD hS hl
  exact lv_ldiv hx hb hd hy (h ad H locs ls h1 hP hD hS hl)
theorem mx_s_lrem (C : mx_C p s m args c cc own Ts D tc tb A nL Ok) (hd : decode cc pc = .ok (.lrem, 1)) : mx_So (mx_W p l e R s m args below meth c Q D tc tb A nL Ok) pc (mx_lrem (pc + 1)) := by
  obtain ⟨hx, hb, hml, hown, hts, hK, hA, hZ, hOk⟩ := C
  intro lv st F ca sl h
  obtain ⟨x, y, r, rfl, hy, h⟩ := h
  intro ad H locs ls h1 hP hD hS hl
  exact lv_lrem hx hb hd hy (h ad H locs ls h1 hP hD hS hl)
theorem mx_s_if_eq (C : mx_C p s m args c cc own Ts D tc tb A nL Ok) {off : Int} {tg : Nat} (hd : decode cc pc = .ok (.ifCond .eq off, 3)) (ht : (pc : Int) + off = (tg : Int)) : mx_So (mx_W p l e R s m args below meth c Q D tc tb A nL Ok) pc (mx_if_eq tg (pc + 3)) := by
  obtain ⟨hx, hb, hml, hown, hts, hK, hA, hZ, hOk⟩ := C
  intro lv st F ca sl h
  obtain ⟨x, r, rfl, ha, hc⟩ := h
  intro ad H locs ls h1 hP hD hS hl
  exact lv_if_eq hx hb hd ht (fun z => ha z ad H locs ls h1 hP hD hS hl) (fun z => hc z ad H locs ls h1 hP hD hS hl)
theorem mx_s_if_ne (C : mx_C p s m args c cc own Ts D tc tb A nL Ok) {off : Int} {tg : Nat} (hd : decode cc pc = .ok (.ifCond .ne off, 3)) (ht : (pc : Int) + off = (tg : Int)) : mx_So (mx_W p l e R s m args below meth c Q D tc tb A nL Ok) pc (mx_if_ne tg (pc + 3)) := by
  obtain ⟨hx, hb, hml, hown, hts, hK, hA, hZ, hOk⟩ := C
  intro lv st F ca sl h
  obtain ⟨x, r, rfl, ha, hc⟩ := h
  intro ad H locs ls h1 hP hD hS hl
  exact lv_if_ne hx hb hd ht (fun z => ha z ad H locs ls h1 hP hD hS hl) (fun z => hc z ad H locs ls h1 hP hD hS hl)
theorem mx_s_if_lt (C : mx_C p s m args c cc own Ts D tc tb A nL Ok) {off : Int} {tg : Nat} (hd : decode cc pc = .ok (.ifCond .lt off, 3)) (ht : (pc : Int) + off = (tg : Int)) : mx_So (mx_W p l e R s m args below meth c Q D tc tb A nL Ok) pc (mx_if_lt tg (pc + 3)) := by
  obtain ⟨hx, hb, hml, hown, hts, hK, hA, hZ, hOk⟩ := C
  intro lv st F ca sl h
  obtain ⟨x, r, rfl, ha, hc⟩ := h
  intro ad H locs ls h1 hP hD hS hl
  exact lv_if_lt hx hb hd ht (fun z => ha z ad H locs ls h1 hP hD hS hl) (fun z => hc z ad H locs ls h1 hP hD hS hl)
theorem mx_s_if_ge (C : mx_C p s m args c cc own Ts D tc tb A nL Ok) {off : Int} {tg : Nat} (hd : decode cc pc = .ok (.ifCond .ge off, 3)) (ht : (pc : Int) + off = (tg : Int)) : mx_So (mx_W p l e R s m args below meth c Q D tc tb A nL Ok) pc (mx_if_ge tg (pc + 3)) := by
  obtain ⟨hx, hb, hml, hown, hts, hK, hA, hZ, hOk⟩ := C
  intro lv st F ca sl h
  obtain ⟨x, r, rfl, ha, hc⟩ := h
  intro ad H locs ls h1 hP hD hS hl
  exact lv_if_ge hx hb hd ht (fun z => ha z ad H locs ls h1 hP hD hS hl) (fun z => hc z ad H locs ls h1 hP hD hS hl)
theorem mx_s_if_gt (C : mx_C p s m args c cc own Ts D tc tb A nL Ok) {off : Int} {tg : Nat} (hd : decode cc pc = .ok (.ifCond .gt off, 3)) (ht : (pc : Int) + off = (tg : Int)) : mx_So (mx_W p l e R s m args below meth c Q D tc tb A nL Ok) pc (mx_if_gt tg (pc + 3)) := by
  obtain ⟨hx, hb, hml, hown, hts, hK, hA, hZ, hOk⟩ := C
  intro lv st F ca sl h
  obtain ⟨x, r, rfl, ha, hc⟩ := h
  intro ad H locs ls h1 hP hD hS hl
  exact lv_if_gt hx hb hd ht (fun z => ha z ad H locs ls h1 hP hD hS hl) (fun z => hc z ad H locs ls h1 hP hD hS hl)
theorem mx_s_if_le (C : mx_C p s m args c cc own Ts D tc tb A nL Ok) {off : Int} {tg : Nat} (hd : decode cc pc = .ok (.ifCond .le off, 3)) (ht : (pc : Int) + off = (tg : Int)) : mx_So (mx_W p l e R s m args below meth c Q D tc tb A nL Ok) pc (mx_if_le tg (pc + 3)) := by
  obtain ⟨hx, hb, hml, hown, hts, hK, hA, hZ, hOk⟩ := C
  intro lv st F ca sl h
  obtain ⟨x, r, rfl, ha, hc⟩ := h
  intro ad H locs ls h1 hP hD hS hl
  exact lv_if_le hx hb hd ht (fun z => ha z ad H locs ls h1 hP hD hS hl) (fun z => hc z ad H locs ls h1 hP hD hS hl)
theorem mx_s_ic_eq (C : mx_C p s m args c cc own Ts D tc tb A nL Ok) {off : Int} {tg : Nat} (hd : decode cc pc = .ok (.if_icmp .eq off, 3)) (ht : (pc : Int) + off = (tg : Int)) : mx_So (mx_W p l e R s m args below meth c Q D tc tb A nL Ok) pc (mx_ic_eq tg (pc + 3)) := by
  obtain ⟨hx, hb, hml, hown, hts, hK, hA, hZ, hOk⟩ := C
  intro lv st F ca sl h
  obtain ⟨x, y, r, rfl, ha, hc⟩ := h
  intro ad H locs ls h1 hP hD hS hl
  exact lv_icmp_eq hx hb hd ht (fun z => ha z ad H locs ls h1 hP hD hS hl) (fun z => hc z ad H locs ls h1 hP hD hS hl)
theorem mx_s_ic_ne (C : mx_C p s m args c cc own Ts D tc tb A nL Ok) {off : Int} {tg : Nat} (hd : decode cc pc = .ok (.if_icmp .ne off, 3)) (ht : (pc : Int) + off = (tg : Int)) : mx_So (mx_W p l e R s m args below meth c Q D tc tb A nL Ok) pc (mx_ic_ne tg (pc + 3)) := by
  obtain ⟨hx, hb, hml, hown, hts, hK, hA, hZ, hOk⟩ := C
  intro lv st F ca sl h
  obtain ⟨x, y, r, rfl, ha, hc⟩ := h
  intro ad H locs ls h1 hP hD hS hl
  exact lv_icmp_ne hx hb hd ht (fun z => ha z ad H locs ls h1 hP hD hS hl) (fun z => hc z ad H locs ls h1 hP hD hS hl)
theorem mx_s_ic_lt (C : mx_C p s m args c cc own Ts D tc tb A nL Ok) {off : Int} {tg : Nat} (hd : decode cc pc = .ok (.if_icmp .lt off, 3)) (ht : (pc : Int) + off = (tg : Int)) : mx_So (mx_W p l e R s m args below meth c Q D tc tb A nL Ok) pc (mx_ic_lt tg (pc + 3)) := by
  obtain ⟨hx, hb, hml, hown, hts, hK, hA, hZ, hOk⟩ := C
  intro lv st F ca sl h
  obtain ⟨x, y, r, rfl, ha, hc⟩ := h
  intro ad H locs ls h1 hP hD hS hl
  exact lv_icmp_lt hx hb hd ht (fun z => ha z ad H locs ls h1 hP hD hS hl) (fun z => hc z ad H locs ls h1 hP hD hS hl)
theorem mx_s_ic_ge (C : mx_C p s m args c cc own Ts D tc tb A nL Ok) {off : Int} {tg : Nat} (hd : decode cc pc = .ok (.if_icmp .ge off, 3)) (ht : (pc : Int) + off = (tg : Int)) : mx_So (mx_W p l e R s m args below meth c Q D tc tb A nL Ok) pc (mx_ic_ge tg (pc + 3)) := by
  obtain ⟨hx, hb, hml, hown, hts, hK, hA, hZ, hOk⟩ := C
  intro lv st F ca sl h
  obtain ⟨x, y, r, rfl, ha, hc⟩ := h
  intro ad H locs ls h1 hP hD hS hl
  exact lv_icmp_ge hx hb hd ht (fun z => ha z ad H locs ls h1 hP hD hS hl) (fun z => hc z ad H locs ls h1 hP hD hS hl)
theorem mx_s_ic_gt (C : mx_C p s m args c cc own Ts D tc tb A nL Ok) {off : Int} {tg : Nat} (hd : decode cc pc = .ok (.if_icmp .gt off, 3)) (ht : (pc : Int) + off = (tg : Int)) : mx_So (mx_W p l e R s m args below meth c Q D tc tb A nL Ok) pc (mx_ic_gt tg (pc + 3)) := by
  obtain ⟨hx, hb, hml, hown, hts, hK, hA, hZ, hOk⟩ := C
  intro lv st F ca sl h
  obtain ⟨x, y, r, rfl, ha, hc⟩ := h
  intro ad H locs ls h1 hP hD hS hl
  exact lv_icmp_gt hx hb hd ht (fun z => ha z ad H locs ls h1 hP hD hS hl) (fun z => hc z ad H locs ls h1 hP hD hS hl)
theorem mx_s_ic_le (C : mx_C p s m args c cc own Ts D tc tb A nL Ok) {off : Int} {tg : Nat} (hd : decode cc pc = .ok (.if_icmp .le off, 3)) (ht : (pc : Int) + off = (tg : Int)) : mx_So (mx_W p l e R s m args below meth c Q D tc tb A nL Ok) pc (mx_ic_le tg (pc + 3)) := by
  obtain ⟨hx, hb, hml, hown, hts, hK, hA, hZ, hOk⟩ := C
  intro lv st F ca sl h
  obtain ⟨x, y, r, rfl, ha, hc⟩ := h
  intro ad H locs ls h1 hP hD hS hl
  exact lv_icmp_le hx hb hd ht (fun z => ha z ad H locs ls h1 hP hD hS hl) (fun z => hc z ad H locs ls h1 hP hD hS hl)
theorem mx_s_get (C : mx_C p s m args c cc own Ts D tc tb A nL Ok) {ref Cn : String} {T : u_T} {N ci i k : Nat} (hin : ∀ w ∈ u_ws Cn T N, w ∈ Ts) (hc : vwCl[ci]? = some (Cn, T, N)) (hk : k < N) (hl0 : Jvm.Cond.fieldLink own i ref (T k).2.1 (T k).2.2.1 ∈ Ts) (hr : (T k).1 = ref) (hd : decode cc pc = .ok (.getfield i, 3)) : mx_So (mx_W p l e R s m args below meth c Q D tc tb A nL Ok) pc (mx_get ci k (pc + 3)) := by
  obtain ⟨hx, hb, hml, hown, hts, hK, hA, hZ, hOk⟩ := C
  intro lv st F ca sl h
  obtain ⟨q, r, fs, v, rfl, hq, hv, h⟩ := h
  intro ad H locs ls h1 hP hD hS hl
  have hP1 : va_P D vwCl [(ad q, mx_e tc ad tb (.inr (.inr (.inr (ci, fs)))))] H := fun k2 x hx2 => by
    have hz : k2 < 1 := (List.getElem?_eq_some_iff.mp hx2).1
    rw [show k2 = 0 by omega] at hx2
    cases hx2
    exact hP q _ hq
  exact va_get (D := D) (ci := ci) (C := Cn) (T := T) (N := N) (v := mx_v ad tb v) hx hb hts hin hown hK hP1 0 rfl hc k hk (hts _ hl0) (fun x h9 => by rw [← hr]; exact h9) (by rw [List.getElem?_map, hv]; rfl) hd (h ad H locs ls h1 hP hD hS hl)
theorem mx_putW (C : mx_C p s m args c cc own Ts D tc tb A nL Ok) {ref Cn : String} {T : u_T} {N ci i k q : Nat} {fs : List mx_V} {v : mx_V} {ty : FieldType} {ad : Nat → Nat} {H : Heap} {locs : List Loc} {ls : Array Slot} {rest : List Value} {F : mx_F} {ca sl : Nat} (hin : ∀ w ∈ u_ws Cn T N, w ∈ Ts) (hc : vwCl[ci]? = some (Cn, T, N)) (ty0 : Nat → FieldType) (hty : ∀ k, k < N → parseFieldDescriptor (T k).2.2.1 = some (ty0 k)) (hnm : ∀ a, a < N → ∀ b, b < N → a ≠ b → (T a).2.1 ≠ (T b).2.1) (hk : k < N) (hl0 : Jvm.Cond.fieldLink own i ref (T k).2.1 (T k).2.2.1 ∈ Ts) (hr : (T k).1 = ref) (hfin : (T k).2.2.2 = false) (hdd : parseFieldDescriptor (T k).2.2.1 = some ty) (hn : narrow ty (mx_v ad tb v) = mx_v ad tb v) (hfit : fits ty (mx_v ad tb v) = true) (hd : decode cc pc = .ok (.putfield i, 3)) (hq : F q = some (.inr (.inr (.inr (ci, fs))))) (hlen : k < fs.length)
    (hP : mx_P D tc ad tb F H) (hD : mx_D A ad F) (hS : va_S A s.heap H locs)
    (kk : ∀ (H1 : Heap) (locs1 : List Loc), mx_P D tc ad tb (mx_put F q (.inr (.inr (.inr (ci, fs.set k v))))) H1 → mx_D A ad (mx_put F q (.inr (.inr (.inr (ci, fs.set k v))))) → va_S A s.heap H1 locs1 → W p l e R s m args below meth c H1 locs1 ca sl Q (F0 m (pc + 3) ls rest)) : W p l e R s m args below meth c H locs ca sl Q (F0 m pc ls (mx_v ad tb v :: .ref (ad q) :: rest)) := by
  obtain ⟨hx, hb, hml, hown, hts, hK, hA, hZ, hOk⟩ := C
  have hap := va_apart (own := own) hts hin ty0 hty hnm hK hc
  obtain ⟨r, h1, cell, q1, q2, q3, q4⟩ := hP q _ hq
  have hr2 : r = (Cn, T, N) := Option.some.inj (h1.symm.trans hc)
  subst hr2
  obtain ⟨hS9, hfc, kC, hkC, hkind⟩ := hK.1 ci _ hc
  obtain ⟨cf, kf, fi, f, hi, hsl⟩ := hS9 k hk
  have hlay := hts _ (hin _ (u_in_lay hk))
  unfold u_lay at hlay
  rw [if_neg (by rw [hfin]; decide)] at hlay
  have hst := (u_facts hfc hkC (u_lays hts hin hk) hi).1
  have h6 := u_store hfc hkC hkind hlay hi hdd hn hfit
  refine W.putK hx hb (f := f) ⟨hown, hts _ hl0, ⟨_, _, _, by rw [← hr]; exact hi⟩, hst⟩ (by rw [q2]; exact h6) q1 q3 (by rw [hsl]; exact k2_hasslot (q4 k hk)) rfl rfl hd fun H' e1 e2 e3 => ?_
  rw [hsl] at e1 ⊢
  refine kk H' _ (hP.set hD hq ⟨_, hc, t_OB.to (V := updV (vp_V (fs.map (mx_v ad tb))) k (mx_v ad tb v)) ⟨_, e1, q2, q3, t_set q4 hap hk _⟩ (fun j _ => ?_)⟩ e3) (hD.set hq) (hS.put e2 e3 (hD.2 q _ hq))
  show _ = vp_V ((fs.set k v).map (mx_v ad tb)) j
  rw [List.map_set]
  exact vp_updV_set (by rw [List.length_map]; exact hlen) _ j
theorem mx_s_puti (C : mx_C p s m args c cc own Ts D tc tb A nL Ok) {ref Cn : String} {T : u_T} {N ci i k : Nat} (hin : ∀ w ∈ u_ws Cn T N, w ∈ Ts) (hc : vwCl[ci]? = some (Cn, T, N)) (ty0 : Nat → FieldType) (hty : ∀ k, k < N → parseFieldDescriptor (T k).2.2.1 = some (ty0 k)) (hnm : ∀ a, a < N → ∀ b, b < N → a ≠ b → (T a).2.1 ≠ (T b).2.1) (hk : k < N) (hl0 : Jvm.Cond.fieldLink own i ref (T k).2.1 (T k).2.2.1 ∈ Ts) (hr : (T k).1 = ref) (hfin : (T k).2.2.2 = false) (hdd : parseFieldDescriptor (T k).2.2.1 = some .int) (hd : decode cc pc = .ok (.putfield i, 3)) : mx_So (mx_W p l e R s m args below meth c Q D tc tb A nL Ok) pc (mx_puti ci k (pc + 3)) := by
  obtain ⟨hx, hb, hml, hown, hts, hK, hA, hZ, hOk⟩ := C
  intro lv st F ca sl h
  obtain ⟨x, q, r, fs, rfl, hq, hlen, h⟩ := h
  intro ad H locs ls h1 hP hD hS hl
  exact mx_putW (v := .inl x) ⟨hx, hb, hml, hown, hts, hK, hA, hZ, hOk⟩ hin hc ty0 hty hnm hk hl0 hr hfin hdd rfl rfl hd hq hlen hP hD hS (fun H1 locs1 a1 a2 a3 => h ad H1 locs1 ls (hOk ad F _ (mx_in_put F q _) h1) a1 a2 a3 hl)
theorem mx_s_putl (C : mx_C p s m args c cc own Ts D tc tb A nL Ok) {ref Cn : String} {T : u_T} {N ci i k : Nat} (hin : ∀ w ∈ u_ws Cn T N, w ∈ Ts) (hc : vwCl[ci]? = some (Cn, T, N)) (ty0 : Nat → FieldType) (hty : ∀ k, k < N → parseFieldDescriptor (T k).2.2.1 = some (ty0 k)) (hnm : ∀ a, a < N → ∀ b, b < N → a ≠ b → (T a).2.1 ≠ (T b).2.1) (hk : k < N) (hl0 : Jvm.Cond.fieldLink own i ref (T k).2.1 (T k).2.2.1 ∈ Ts) (hr : (T k).1 = ref) (hfin : (T k).2.2.2 = false) (hdd : parseFieldDescriptor (T k).2.2.1 = some .long) (hd : decode cc pc = .ok (.putfield i, 3)) : mx_So (mx_W p l e R s m args below meth c Q D tc tb A nL Ok) pc (mx_putl ci k (pc + 3)) := by
  obtain ⟨hx, hb, hml, hown, hts, hK, hA, hZ, hOk⟩ := C
  intro lv st F ca sl h
  obtain ⟨x, q, r, fs, rfl, hq, hlen, h⟩ := h
  intro ad H locs ls h1 hP hD hS hl
  exact mx_putW (v := .inr (.inl x)) ⟨hx, hb, hml, hown, hts, hK, hA, hZ, hOk⟩ hin hc ty0 hty hnm hk hl0 hr hfin hdd rfl rfl hd hq hlen hP hD hS (fun H1 locs1 a1 a2 a3 => h ad H1 locs1 ls (hOk ad F _ (mx_in_put F q _) h1) a1 a2 a3 hl)
theorem mx_s_iald (C : mx_C p s m args c cc own Ts D tc tb A nL Ok) (hd : decode cc pc = .ok (.iaload, 1)) : mx_So (mx_W p l e R s m args below meth c Q D tc tb A nL Ok) pc (mx_iald (pc + 1)) := by
  obtain ⟨hx, hb, hml, hown, hts, hK, hA, hZ, hOk⟩ := C
  intro lv st F ca sl h
  obtain ⟨i, q, r, n, f, rfl, hq, hin, h⟩ := h
  intro ad H locs ls h1 hP hD hS hl
  have hlt : i.toNatClampNeg < n := Nat.not_le.mp fun z => hin (Or.inr z)
  exact W.iald (v := .int (f i.toNatClampNeg)) hx hb (hP q _ hq) ((hK.2 0 _ (mx_t_get rfl)).1 n (fun j => .int (f j))) (fun z => by cases z) (by show ¬ (i < 0 ∨ (arrV _ _ _).slots.size ≤ _); rw [arrV_size]; exact hin) (by show (arrV _ _ _).slots[_]? = _; rw [arrV_read _ _ hlt]) rfl rfl hd (h ad H locs ls h1 hP hD hS hl)
theorem mx_s_tald (C : mx_C p s m args c cc own Ts D tc tb A nL Ok) (hd : decode cc pc = .ok (.iaload, 1)) : mx_So (mx_W p l e R s m args below meth c Q D tc tb A nL Ok) pc (mx_tald (pc + 1)) := by
  obtain ⟨hx, hb, hml, hown, hts, hK, hA, hZ, hOk⟩ := C
  intro lv st F ca sl h
  obtain ⟨i, t, r, n, f, rfl, ht, hin, h⟩ := h
  intro ad H locs ls h1 hP hD hS hl
  exact va_ti hx hb (hZ.2.1 t n f ht) hS hin rfl hd (h ad H locs ls h1 hP hD hS hl)
theorem mx_s_lald (C : mx_C p s m args c cc own Ts D tc tb A nL Ok) (hd : decode cc pc = .ok (.laload, 1)) : mx_So (mx_W p l e R s m args below meth c Q D tc tb A nL Ok) pc (mx_lald (pc + 1)) := by
  obtain ⟨hx, hb, hml, hown, hts, hK, hA, hZ, hOk⟩ := C
  intro lv st F ca sl h
  obtain ⟨i, q, r, n, f, rfl, hq, hin, h⟩ := h
  intro ad H locs ls h1 hP hD hS hl
  have hlt : i.toNatClampNeg < n := Nat.not_le.mp fun z => hin (Or.inr z)
  exact W.lald (v := .long (f i.toNatClampNeg)) hx hb (hP q _ hq) ((hK.2 1 _ (mx_t_get rfl)).1 n (fun j => .long (f j))) (fun z => by cases z) (by show ¬ (i < 0 ∨ (arrV _ _ _).slots.size ≤ _); rw [arrV_size]; exact hin) (by show (arrV _ _ _).slots[_]? = _; rw [arrV_read _ _ hlt]) rfl rfl hd (h ad H locs ls h1 hP hD hS hl)
theorem mx_s_aald (C : mx_C p s m args c cc own Ts D tc tb A nL Ok) (hd : decode cc pc = .ok (.aaload, 1)) : mx_So (mx_W p l e R s m args below meth c Q D tc tb A nL Ok) pc (mx_aald (pc + 1)) := by
  obtain ⟨hx, hb, hml, hown, hts, hK, hA, hZ, hOk⟩ := C
  intro lv st F ca sl h
  obtain ⟨i, q, r, t, n, f, u, rfl, hq, ⟨ty, hty, hrf⟩, hin, hu, h⟩ := h
  intro ad H locs ls h1 hP hD hS hl
  have hlt : i.toNatClampNeg < n := Nat.not_le.mp fun z => hin (Or.inr z)
  exact W.aald (v := .ref (ad u)) (ty := ty) hx hb (hP q _ hq) ((hK.2 t _ (mx_t_get hty)).1 n (fun j => va_rf ((f j).map ad))) hrf (fun z => by cases z) (by show ¬ (i < 0 ∨ (arrV _ _ _).slots.size ≤ _); rw [arrV_size]; exact hin) (by show (arrV _ _ _).slots[_]? = _; rw [arrV_read _ _ hlt]; show some (va_rf ((f i.toNatClampNeg).map ad)) = _; rw [hu]; rfl) rfl rfl hd (h ad H locs ls h1 hP hD hS hl)
theorem mx_s_iast (C : mx_C p s m args c cc own Ts D tc tb A nL Ok) (hd : decode cc pc = .ok (.iastore, 1)) : mx_So (mx_W p l e R s m args below meth c Q D tc tb A nL Ok) pc (mx_iast (pc + 1)) := by
  obtain ⟨hx, hb, hml, hown, hts, hK, hA, hZ, hOk⟩ := C
  intro lv st F ca sl h
  obtain ⟨x, i, q, r, n, f, rfl, hq, hin, h⟩ := h
  intro ad H locs ls h1 hP hD hS hl
  refine W.iast hx hb (hP q _ hq) ((hK.2 0 _ (mx_t_get rfl)).1 n (fun j => .int (f j))) (fun z => by cases z) (by show ¬ (i < 0 ∨ (arrV _ _ _).slots.size ≤ _); rw [arrV_size]; exact hin) rfl rfl hd fun H1 e9 z oq => ?_
  refine h ad H1 _ ls (hOk ad F _ (mx_in_put F q _) h1) (hP.set hD hq ?_ oq) (hD.set hq) (hS.put z oq (hD.2 q _ hq)) hl
  show H1[ad q]? = some (vp_cell _ _)
  rw [e9]
  show some (Cell.setSlot (vp_cell _ _) _ _) = _
  rw [vp_cell_i, vp_cell_i, arrV_store]
  congr 2
  funext j
  by_cases hj : j = i.toNatClampNeg
  · subst hj
    simp [updV, upd]
  · simp [updV, upd, hj]
theorem mx_s_last (C : mx_C p s m args c cc own Ts D tc tb A nL Ok) (hd : decode cc pc = .ok (.lastore, 1)) : mx_So (mx_W p l e R s m args below meth c Q D tc tb A nL Ok) pc (mx_last (pc + 1)) := by
  obtain ⟨hx, hb, hml, hown, hts, hK, hA, hZ, hOk⟩ := C
  intro lv st F ca sl h
  obtain ⟨x, i, q, r, n, f, rfl, hq, hin, h⟩ := h
  intro ad H locs ls h1 hP hD hS hl
  refine W.last hx hb (hP q _ hq) ((hK.2 1 _ (mx_t_get rfl)).1 n (fun j => .long (f j))) (fun z => by cases z) (by show ¬ (i < 0 ∨ (arrV _ _ _).slots.size ≤ _); rw [arrV_size]; exact hin) rfl rfl hd fun H1 e9 z oq => ?_
  refine h ad H1 _ ls (hOk ad F _ (mx_in_put F q _) h1) (hP.set hD hq ?_ oq) (hD.set hq) (hS.put z oq (hD.2 q _ hq)) hl
  show H1[ad q]? = some (vp_cell _ _)
  rw [e9]
  show some (Cell.setSlot (vp_cell _ _) _ _) = _
  rw [vp_cell_l, vp_cell_l, arrV_store]
  congr 2
  funext j
  by_cases hj : j = i.toNatClampNeg
  · subst hj
    simp [updV, vp_updL]
  · simp [updV, vp_updL, hj]
theorem mx_s_alen (C : mx_C p s m args c cc own Ts D tc tb A nL Ok) (hd : decode cc pc = .ok (.arraylength, 1)) : mx_So (mx_W p l e R s m args below meth c Q D tc tb A nL Ok) pc (mx_alen (pc + 1)) := by
  obtain ⟨hx, hb, hml, hown, hts, hK, hA, hZ, hOk⟩ := C
  intro lv st F ca sl h
  obtain ⟨q, r, n, f, rfl, hq, h⟩ := h
  intro ad H locs ls h1 hP hD hS hl
  exact W.alen (n := Int32.ofNat n) hx hb (hP q _ hq) ((hK.2 0 _ (mx_t_get rfl)).1 n (fun j => .int (f j))) (by show (arrV _ _ _).slots.size.toInt32 = _; rw [arrV_size] <;> rfl) rfl rfl hd (h ad H locs ls h1 hP hD hS hl)
theorem mx_s_gets (C : mx_C p s m args c cc own Ts D tc tb A nL Ok) {Cn nm ds ref : String} {t i : Nat} (hz : (Cn, nm, ds, t) ∈ mx_zs) (hl0 : Jvm.Cond.fieldLink own i ref nm ds ∈ Ts) (hr : Cn = ref) (hd : decode cc pc = .ok (.getstatic i, 3)) : mx_So (mx_W p l e R s m args below meth c Q D tc tb A nL Ok) pc (mx_gets t (pc + 3)) := by
  obtain ⟨hx, hb, hml, hown, hts, hK, hA, hZ, hOk⟩ := C
  intro lv st F ca sl h
  intro ad H locs ls h1 hP hD hS hl
  exact va_gets hx hb (hZ.1 _ hz) hS hown (hts _ hl0) (fun x h9 => by rw [← hr]; exact h9) hd (h ad H locs ls h1 hP hD hS hl)
end MXS
