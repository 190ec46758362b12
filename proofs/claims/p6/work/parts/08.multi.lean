/-! an array of arrays: 5 rows of longs -/
section MG
variable {E : CtlPost} {e : Env} {d : Bool} {acts : List Action} {s : State}
theorem mg_new {cls comp : ClassId} {k : Class} {ty : FieldType} {N : Nat} {v : Value} {Q : Addr → Pre} (hk : s.vm.classes[cls]? = some k) (hkind : k.kind = .array comp ty) (hv : fits ty v = true) (h1 : N ≤ e.platform.arrayLengthLimit) (h2 : N * componentBytes ty ≤ e.platform.maxHeapBytes) (h3 : s.heap.size < e.platform.maxCells) (h4 : s.slotsUsed + N ≤ e.platform.maxSlots)
    (hq : ∀ acts', Q s.heap.size d acts' (s.pushCell { cls := cls, slots := Array.replicate N v, vm := .none })) : wp (Jvm.newArray cls N v) Q E e d acts s := by
  have hfit : ∀ (i : Nat) (w : Value), (Array.replicate N v)[i]? = some w → s.fitsSlot cls .none i w = true := by
    intro i w hw
    simp only [Array.getElem?_replicate] at hw
    split at hw
    · cases hw
      simp [State.fitsSlot, State.slotType?, hk, hkind, hv]
    · cases hw
  simp only [Jvm.newArray, Jvm.arrayFits, wp_bind', W.ask, W.ite, W.theClass, W.alloc, W.stop, wp_pure', W.mark]
  rw [if_neg (by omega)]
  refine ⟨k, hk, ?_⟩
  rw [hkind]
  simp only [wp_bind', W.ask, W.ite, W.stop, wp_pure', W.mark]
  rw [if_neg (by omega), if_neg (by omega)]
  exact ⟨h3, by rw [Array.size_replicate]; exact h4, hfit, hq _⟩
end MG
section MG3
variable {p : Program} {l : Launch} {e : Env} {R : Room} {s : State} {m : MethodId} {args : Array Value} {below : List Frame} {meth : Method} {c : Code} {H : Heap} {locs : List Loc} {cells slots : Nat}
/-- the outer array with j rows in it -/
def mg_o (cQ : ClassId) (h j : Nat) : Cell := arrV cQ 5 (fun i => if i < j then .ref (h + 1 + i) else .null)
/-- behind j rows of N longs -/
def mg_I (p : Program) (l : Launch) (e : Env) (R : Room) (s : State) (m : MethodId) (args : Array Value) (below : List Frame) (meth : Method) (c : Code) (H : Heap) (locs : List Loc) (cells slots : Nat) (cQ cJ : ClassId) (N : Nat) (g : JFrame) (j : Nat) (U : State) : Prop :=
  ∃ (S : State) (L : List Loc), U = S.setTop g ∧ Stand p l e R s m args below meth c S (locs ++ L) (cells + 1 + j) (slots + 5 + j * N) ∧ (∀ q ∈ L, q.base = H.size) ∧ S.heap.size = H.size + 1 + j ∧ (∀ q : Nat, q < H.size → S.heap[q]? = H[q]?) ∧ S.heap[H.size]? = some (mg_o cQ H.size j) ∧ ∀ i : Nat, i < j → S.heap[H.size + 1 + i]? = some (arrV cJ N (fun _ => .long 0))
theorem mg_row {cQ cJ pJ : ClassId} {kQ kJ : Class} {n : Int32} {N j : Nat} {g : JFrame} {U : State} {d : Bool} {acts : List Action} {E : CtlPost} (hkQ : s.vm.classes[cQ]? = some kQ) (hQ : kQ.kind = .array cJ (.array .long)) (hkJ : s.vm.classes[cJ]? = some kJ) (hJ : kJ.kind = .array pJ .long) (hn : ¬ n < 0) (hN : n.toNatClampNeg = N) (hNl : N ≤ 1000000) (hj : j < 5) (hc : cells + 6 ≤ R.cells) (hs : slots + 5 + 5 * N ≤ R.slots)
    (hI : mg_I p l e R s m args below meth c H locs cells slots cQ cJ N g j U) {Q' : ForInStep PUnit → Pre} (hq : ∀ U' d' acts', mg_I p l e R s m args below meth c H locs cells slots cQ cJ N g (j + 1) U' → Q' (ForInStep.yield PUnit.unit) d' acts' U') :
    wp (do
      let a ← Op.multianewarray.make cJ [n]
      writeLoc H.size j (Value.ref a)
      Pure.pure (ForInStep.yield PUnit.unit)) Q' E e d acts U := by
  obtain ⟨S, L, rfl, X, hL, hsz, hold, hout, hin⟩ := hI
  have hal : s.vm.Alike S.vm := X.warmed.alike
  obtain ⟨kQ₁, hkQ₁, heQ⟩ := hal.2.2 _ _ hkQ
  obtain ⟨kJ₁, hkJ₁, heJ⟩ := hal.2.2 _ _ hkJ
  have hQ₁ : kQ₁.kind = .array cJ (.array .long) := by rw [heQ]; exact hQ
  have hJ₁ : kJ₁.kind = .array pJ .long := by rw [heJ]; exact hJ
  have hNj : j * N + N ≤ 5 * N := by
    have : (j + 1) * N ≤ 5 * N := Nat.mul_le_mul_right N (by omega)
    rw [Nat.add_mul, Nat.one_mul] at this
    exact this
  obtain ⟨r1, r2⟩ := X.roomAbove (a := 1) (b := N) (by omega) (by omega)
  simp only [wp_bind']
  unfold Op.multianewarray.make
  simp only [wp_bind', W.ite, W.theClass, wp_pure']
  rw [if_neg hn]
  refine ⟨kJ₁, hkJ₁, ?_⟩
  rw [hJ₁]
  simp only
  rw [hN]
  refine mg_new (s := S.setTop g) hkJ₁ hJ₁ rfl (by rw [Launch.admits_arrayLengthLimit X.admits]; omega) (by rw [Launch.admits_maxHeapBytes X.admits]; show N * 8 ≤ _; omega) (by show S.heap.size < _; omega) (by show S.slotsUsed + N ≤ _; exact r2) (fun acts' => ?_)
  have hinner : ({ cls := cJ, slots := Array.replicate N (defaultValue .long), vm := .none } : Cell) = arrV cJ N (fun _ => .long 0) := arrV_new cJ N (.long 0)
  rw [hinner]
  have hlt : H.size < S.heap.size := by omega
  have hcell : (S.pushCell (arrV cJ N (fun _ => .long 0))).heap[H.size]? = some (mg_o cQ H.size j) := by
    show (S.heap.push _)[H.size]? = _
    rw [Array.getElem?_push, if_neg (Nat.ne_of_lt hlt)]
    exact hout
  have X1 := (X.pushed (arrV cJ N (fun _ => .long 0))).stored hcell j (.ref S.heap.size)
  simp only [wp_bind']
  refine (W.writeLoc _ _ _ _).mpr ?_
  refine ⟨mg_o cQ H.size j, hcell, fun z => (by cases z), (by show j < (arrV _ _ _).slots.size; rw [arrV_size]; exact hj), ?_, hq _ _ _ ?_⟩
  · show S.fitsSlot cQ .none j (.ref _) = true
    simp [State.fitsSlot, State.slotType?, hkQ₁, hQ₁, fits]
  · have hset : (mg_o cQ H.size j).setSlot j (.ref S.heap.size) = mg_o cQ H.size (j + 1) := by
      unfold mg_o
      rw [arrV_store]
      congr 1
      funext i
      by_cases hi : i = j
      · subst hi
        simp [updV, hsz]
      · simp only [updV, if_neg hi]
        by_cases h2 : i < j
        · rw [if_pos h2, if_pos (by omega)]
        · rw [if_neg h2, if_neg (by omega)]
    rw [hset] at X1
    refine ⟨(S.pushCell (arrV cJ N (fun _ => .long 0))).setCell H.size (mg_o cQ H.size (j + 1)), L ++ [⟨H.size, j⟩], by rw [← hset]; rfl, ?_, ?_, ?_, ?_, ?_, ?_⟩
    · rw [← List.append_assoc]
      have e1 : slots + 5 + (j + 1) * N = slots + 5 + j * N + (arrV cJ N (fun _ => Value.long 0)).slots.size := by rw [arrV_size, Nat.add_mul, Nat.one_mul]; omega
      rw [e1]
      exact X1
    · intro q hq2
      rcases List.mem_append.mp hq2 with h | h
      · exact hL q h
      · rw [List.mem_singleton.mp h]
    · show ((S.heap.push _).setIfInBounds _ _).size = _
      simp
      omega
    · intro q hq2
      show ((S.heap.push _).setIfInBounds _ _)[q]? = _
      rw [Array.getElem?_setIfInBounds, if_neg (by omega), Array.getElem?_push, if_neg (by omega)]
      exact hold q hq2
    · show ((S.heap.push _).setIfInBounds _ _)[H.size]? = _
      rw [Array.getElem?_setIfInBounds, if_pos rfl, if_pos (by simp; omega)]
    · intro i hi
      show ((S.heap.push _).setIfInBounds _ _)[_]? = _
      rw [Array.getElem?_setIfInBounds, if_neg (by omega), Array.getElem?_push]
      by_cases h2 : i = j
      · subst h2
        rw [if_pos (by omega)]
      · rw [if_neg (by omega)]
        exact hin i (by omega)
theorem mg_W {cc : ByteArray} {Q : State → Prop} (hexec : p.tables.exec = Jvm.exec) (hb : c.code = cc) {own : String} {index : Nat} (hown : s.vm.findClass own = some m.cls) (hclink : (Cond.classLink own index "[[J").before args s = true) {cQ cJ pJ : ClassId} {kQ kJ : Class} (hfQ : s.vm.findClass "[[J" = some cQ) (hkQ : s.vm.classes[cQ]? = some kQ) (hQ : kQ.kind = .array cJ (.array .long)) (hkJ : s.vm.classes[cJ]? = some kJ) (hJ : kJ.kind = .array pJ .long) {n : Int32} {N : Nat} (hn : ¬ n < 0) (hN : n.toNatClampNeg = N) (hNl : N ≤ 1000000) (hc : cells + 6 ≤ R.cells) (hs : slots + 5 + 5 * N ≤ R.slots)
    {g : JFrame} (hg : g.method = m) {rest : List Value} (hstack : g.stack = .int n :: .int (nI 5) :: rest) (hdg : decode cc g.pc = .ok (.multianewarray index 2, 4))
    (kk : ∀ (H1 : Heap) (L : List Loc), (∀ q ∈ L, q.base = H.size) → H1.size = H.size + 6 → (∀ q : Nat, q < H.size → H1[q]? = H[q]?) → H1[H.size]? = some (arrV cQ 5 (fun i => if i < 5 then .ref (H.size + 1 + i) else .null)) → (∀ i : Nat, i < 5 → H1[H.size + 1 + i]? = some (arrV cJ N (fun _ => .long 0))) →
      W p l e R s m args below meth c H1 (locs ++ L) (cells + 6) (slots + 5 + 5 * N) Q { g with pc := g.pc + 4, stack := .ref H.size :: rest }) : W p l e R s m args below meth c H locs cells slots Q g := by
  intro T hT X
  subst hT; subst hb; subst hg
  have hpl : e.platform.magicAccessors = ({} : Platform).magicAccessors := by rw [X.admits.platform]
  obtain ⟨cc', hfcc, hcl⟩ := Cond.classLink_spec hown hclink e.platform hpl
  cases hfQ.symm.trans hfcc
  obtain ⟨hg₁, hwarm₁, hready₁⟩ := State.classEntry (e := e) X.warmed hcl
  generalize T.vm.noted g.method.cls index (.cls cQ) = vm₁ at hg₁ hwarm₁ hready₁
  have X₁ := X.noted hwarm₁
  have hal : s.vm.Alike vm₁ := hwarm₁.alike
  obtain ⟨kQ₁, hkQ₁, heQ⟩ := hal.2.2 _ _ hkQ
  have hQ₁ : kQ₁.kind = .array cJ (.array .long) := by rw [heQ]; exact hQ
  obtain ⟨r1, r2⟩ := X.roomAbove (a := 6) (b := 5 + 5 * N) hc (by omega)
  have hs₁ : (T.setVm vm₁).topJava?.isSome := X₁.here.top
  have hs0 : T.topJava?.isSome := X.here.top
  -- what the whole instruction comes to
  have key : wp (Op.multianewarray.sem index 2) (fun _ _ _ U => ∃ (S : State) (L : List Loc), U = S.setTop { g with stack := .ref T.heap.size :: rest } ∧ Stand p l e R s g.method args below meth c S (locs ++ L) (cells + 6) (slots + 5 + 5 * N) ∧ (∀ q ∈ L, q.base = T.heap.size) ∧ S.heap.size = T.heap.size + 6 ∧ (∀ q : Nat, q < T.heap.size → S.heap[q]? = T.heap[q]?) ∧ S.heap[T.heap.size]? = some (mg_o cQ T.heap.size 5) ∧ ∀ i : Nat, i < 5 → S.heap[T.heap.size + 1 + i]? = some (arrV cJ N (fun _ => .long 0))) (fun _ _ _ => False) e false [] ((T.setVm vm₁).setTop g) := by
    simp only [Op.multianewarray.sem, wp_bind']
    rw [W.resolveClassAt_ready (s := (T.setVm vm₁).setTop g) (State.method?_setTop g hs₁) hready₁]
    simp only [wp_bind']
    rw [W.popN, if_neg (by decide)]
    refine ⟨g, State.topJava?_setTop' _ hs₁, [.int (nI 5), .int n], rest, rfl, by rw [hstack]; rfl, ?_⟩
    simp only [List.mapM_cons, List.mapM_nil, wp_bind', wp_pure', State.setTop_setTop]
    unfold Op.multianewarray.make
    simp only [wp_bind', W.ite, W.theClass, wp_pure']
    rw [if_neg (by decide)]
    refine ⟨kQ₁, hkQ₁, ?_⟩
    rw [hQ₁]
    simp only [wp_bind']
    have e5 : (nI 5).toNatClampNeg = 5 := by decide
    rw [e5]
    refine mg_new (s := (T.setVm vm₁).setTop { g with stack := rest }) hkQ₁ hQ₁ rfl (by rw [Launch.admits_arrayLengthLimit X.admits]; decide) (by rw [Launch.admits_maxHeapBytes X.admits]; decide) (by show T.heap.size < _; omega) (by show T.slotsUsed + 5 ≤ _; omega) (fun acts' => ?_)
    rw [if_neg (by decide)]
    simp only [wp_bind', Std.Legacy.Range.forIn_eq_forIn_range']
    refine wp_forIn_inv (fun rs U => ∃ j, j ≤ 5 ∧ rs = List.range' j (5 - j) ∧ mg_I p l e R s g.method args below meth c T.heap locs cells slots cQ cJ N { g with stack := rest } j U) _ _ ⟨0, by decide, rfl, ?_⟩ ?_ ?_
    · have X2 := X₁.pushed (arrV cQ 5 (fun _ => .null))
      refine ⟨(T.setVm vm₁).pushCell (arrV cQ 5 (fun _ => .null)), [], ?_, ?_, fun q h => (by cases h), ?_, ?_, ?_, fun i hi => absurd hi (Nat.not_lt_zero i)⟩
      · rw [← arrV_new]
        rfl
      · rw [List.append_nil]
        rw [arrV_size] at X2
        simpa using X2
      · show (T.heap.push _).size = _
        simp
      · intro q hq
        show (T.heap.push _)[q]? = _
        rw [Array.getElem?_push, if_neg (Nat.ne_of_lt hq)]
      · show (T.heap.push _)[T.heap.size]? = _
        rw [Array.getElem?_push, if_pos rfl]
        rfl
    · intro x rs U d' acts2 Q' hI hq
      obtain ⟨j, hj, hrs, hI⟩ := hI
      have hj5 : j < 5 := by
        rcases Nat.lt_or_ge j 5 with q | q
        · exact q
        · have : j = 5 := by omega
          subst this
          cases hrs
      obtain ⟨r, hr⟩ : ∃ r, 5 - j = r + 1 := ⟨4 - j, by omega⟩
      rw [hr, List.range'_succ] at hrs
      cases hrs
      exact mg_row hkQ hQ hkJ hJ hn hN hNl hj5 hc hs hI (fun U' d2 acts3 h => hq U' d2 acts3 ⟨x + 1, by omega, by rw [show 5 - (x + 1) = r by omega], h⟩)
    · intro U d' acts2 hI
      obtain ⟨j, hj, hrs, S, L, rfl, X5, hL, hsz, hold, hout, hin⟩ := hI
      have hj5 : j = 5 := by
        have h0 := congrArg List.length hrs
        simp at h0
        omega
      subst hj5
      simp only [wp_bind', wp_pure', W.mark, W.pushRef]
      refine ⟨_, State.topJava?_setTop' _ X5.here.top, S, L, by rw [State.setTop_setTop]; rfl, X5, hL, hsz, hold, hout, hin⟩
  have hw : wpRun (Op.multianewarray.sem index 2) (fun _ U _ => ∃ (S : State) (L : List Loc), U = S.setTop { g with stack := .ref T.heap.size :: rest } ∧ Stand p l e R s g.method args below meth c S (locs ++ L) (cells + 6) (slots + 5 + 5 * N) ∧ (∀ q ∈ L, q.base = T.heap.size) ∧ S.heap.size = T.heap.size + 6 ∧ (∀ q : Nat, q < T.heap.size → S.heap[q]? = T.heap[q]?) ∧ S.heap[T.heap.size]? = some (mg_o cQ T.heap.size 5) ∧ ∀ i : Nat, i < 5 → S.heap[T.heap.size + 1 + i]? = some (arrV cJ N (fun _ => .long 0))) (fun _ _ _ => False) e (T.setTop g) := by
    unfold wpRun
    have tr : ∀ {Q2 : Unit → Pre} {E2 : CtlPost}, wp (Op.multianewarray.sem index 2) Q2 E2 e false [] (T.setTop g) ↔ wp (Op.multianewarray.sem index 2) Q2 E2 e false [] ((T.setVm vm₁).setTop g) := by
      intro Q2 E2
      simp only [Op.multianewarray.sem, wp_bind']
      exact W.resolveClassAt_transfer (s := T.setTop g) (State.method?_setTop g hs0) hg₁ hready₁
    exact tr.mpr key
  have hrun := (wpRun_iff_run _ _ _ _ _).mp hw
  cases hr : (Op.multianewarray.sem index 2).run e (T.setTop g) with
  | ok a s₁ acts =>
    rw [hr] at hrun
    obtain ⟨S, L, rfl, X5, hL, hsz, hold, hout, hin⟩ := hrun
    obtain ⟨t', a1, b1⟩ := kk S.heap L hL hsz hold hout hin S rfl X5
    refine ⟨t', ?_, b1⟩
    refine Steps.instr (c := c) (by simpa using X.here) ?_
    rw [hdg]
    show wpRun (p.tables.exec (.multianewarray index 2)) _ _ e (T.setTop g)
    rw [hexec]
    refine (wpRun_iff_run _ _ _ _ _).mpr ?_
    rw [show Jvm.exec (.multianewarray index 2) = Op.multianewarray.sem index 2 from rfl, hr]
    intro acts2
    rw [afterInstr_ok]
    exact a1
  | ctl x s₁ acts =>
    rw [hr] at hrun
    cases x <;> exact hrun.elim
end MG3
/-- five rows of n longs at the places a, a + 1 .. a + 4, the array of them at k -/
def mx_g5 (a : Nat) : Nat → Option Nat := fun j => if j < 5 then some (a + j) else none
def mx_rows (F : mx_F) (a n : Nat) : mx_F := mx_put (mx_put (mx_put (mx_put (mx_put F a (mx_la n (fun _ => 0))) (a + 1) (mx_la n (fun _ => 0))) (a + 2) (mx_la n (fun _ => 0))) (a + 3) (mx_la n (fun _ => 0))) (a + 4) (mx_la n (fun _ => 0))
def mx_newg (k a mc ms nx : Nat) : mx_O := fun lv st F ca sl K => ∃ (n : Nat) (r : mx_S), st = .inl (nI n) :: .inl (nI 5) :: r ∧ Nat.ble n 1000000 = true ∧ (∀ q, (q = k ∨ (a ≤ q ∧ q < a + 5)) → F q = none ∧ mx_no q F ∧ mx_nrL q lv = true ∧ mx_nrS q r = true) ∧ (k < a ∨ a + 5 ≤ k) ∧ Nat.ble (ca + 6) mc = true ∧ Nat.ble (sl + 5 + 5 * n) ms = true ∧ K nx lv (mx_r k :: r) (mx_put (mx_rows F a n) k (mx_qa 2 5 (mx_g5 a))) (ca + 6) (sl + 5 + 5 * n)
/-- the addresses behind it -/
def mg_ad (ad : Nat → Nat) (k a h : Nat) : Nat → Nat := fun q => if q = k then h else if a ≤ q ∧ q < a + 5 then h + 1 + (q - a) else ad q
theorem mx_rows_or {F : mx_F} {a n j : Nat} {x : mx_E} (h : mx_rows F a n j = some x) : ((a ≤ j ∧ j < a + 5) ∧ x = mx_la n (fun _ => 0)) ∨ (¬ (a ≤ j ∧ j < a + 5) ∧ F j = some x) := by
  unfold mx_rows at h
  rcases mx_put_or h with ⟨e1, e2⟩ | ⟨n1, h⟩
  · exact Or.inl ⟨by omega, e2⟩
  rcases mx_put_or h with ⟨e1, e2⟩ | ⟨n2, h⟩
  · exact Or.inl ⟨by omega, e2⟩
  rcases mx_put_or h with ⟨e1, e2⟩ | ⟨n3, h⟩
  · exact Or.inl ⟨by omega, e2⟩
  rcases mx_put_or h with ⟨e1, e2⟩ | ⟨n4, h⟩
  · exact Or.inl ⟨by omega, e2⟩
  rcases mx_put_or h with ⟨e1, e2⟩ | ⟨n5, h⟩
  · exact Or.inl ⟨by omega, e2⟩
  exact Or.inr ⟨by omega, h⟩
theorem mg_v {ad tb : Nat → Nat} {k a h : Nat} {v : mx_V} (hk : v ≠ mx_r k) (ha : ∀ q, a ≤ q → q < a + 5 → v ≠ mx_r q) : mx_v (mg_ad ad k a h) tb v = mx_v ad tb v := by
  rcases v with x | x | (_ | x) | x
  · rfl
  · rfl
  · rfl
  · have h1 : x ≠ k := fun z => hk (by rw [z])
    have h2 : ¬ (a ≤ x ∧ x < a + 5) := fun z => ha x z.1 z.2 rfl
    show Value.ref (mg_ad ad k a h x) = Value.ref (ad x)
    unfold mg_ad
    rw [if_neg h1, if_neg h2]
  · rfl
theorem mg_e {tc : Nat → ClassId} {ad tb : Nat → Nat} {k a h : Nat} {x : mx_E} (hk : mx_noE k x) (ha : ∀ q, a ≤ q → q < a + 5 → mx_noE q x) : mx_e tc (mg_ad ad k a h) tb x = mx_e tc ad tb x := by
  rcases x with ⟨t, n, f⟩ | ⟨t, n, f⟩ | ⟨t, n, f⟩ | ⟨ci, fs⟩
  · rfl
  · rfl
  · have h2 : (fun j => (f j).map (mg_ad ad k a h)) = (fun j => (f j).map ad) := by
      funext j
      cases hj : f j with
      | none => rfl
      | some z =>
        have h1 : z ≠ k := fun w => hk j (by rw [hj, w])
        have h3 : ¬ (a ≤ z ∧ z < a + 5) := fun w => ha z w.1 w.2 j hj
        show some (mg_ad ad k a h z) = some (ad z)
        unfold mg_ad
        rw [if_neg h1, if_neg h3]
    show (Sum.inl (tc t, n, Sum.inr (Sum.inr (Sum.inr (Sum.inr (fun j => (f j).map (mg_ad ad k a h)))))) : va_E) = _
    rw [h2]
    rfl
  · have h2 : fs.map (mx_v (mg_ad ad k a h) tb) = fs.map (mx_v ad tb) := List.map_congr_left fun v hv => mg_v (hk v hv) (fun q q1 q2 => ha q q1 q2 v hv)
    show (Sum.inr (ci, fs.map (mx_v (mg_ad ad k a h) tb)) : va_E) = _
    rw [h2]
    rfl
section MG4
variable {p : Program} {l : Launch} {e : Env} {R : Room} {s : State} {m : MethodId} {args : Array Value} {below : List Frame} {meth : Method} {c : Code} {Q : State → Prop} {cc : ByteArray} {own : String} {Ts : List Cond} {D : va_G} {tc : Nat → ClassId} {tb : Nat → Nat} {A : Nat → Prop} {nL : Nat} {Ok : (Nat → Nat) → mx_F → Prop} {pc : Nat}
theorem mx_s_newg (C : mx_C p s m args c cc own Ts D tc tb A nL Ok) (hUp : ∀ (ad ad' : Nat → Nat) (F F' : mx_F), mx_Ok1 ad F ad' F' → Ok ad F → Ok ad' F') {k a i mc ms : Nat} (hcl : Jvm.Cond.classLink own i "[[J" ∈ Ts) (hd : decode cc pc = .ok (.multianewarray i 2, 4)) (hR : mc ≤ R.cells ∧ ms ≤ R.slots) : mx_So (mx_W p l e R s m args below meth c Q D tc tb A nL Ok) pc (mx_newg k a mc ms (pc + 4)) := by
  obtain ⟨hx, hb, hml, hown, hts, hK, hA, hZ, hOk⟩ := C
  intro lv st F ca sl h
  obtain ⟨n, r, rfl, hn, hfr, hka, g1, g2, h⟩ := h
  have hn := Nat.le_of_ble_eq_true hn
  have g1 := Nat.le_of_ble_eq_true g1
  have g2 := Nat.le_of_ble_eq_true g2
  intro ad H locs ls h1 hP hD hS hl
  obtain ⟨hAQ, hFQ⟩ := hK.2 2 _ (mx_t_get rfl)
  obtain ⟨hAJ, hFJ⟩ := hK.2 1 _ (mx_t_get rfl)
  obtain ⟨-, kJ, hkJ, pJ, hJ⟩ := hAJ 0 (fun _ => .null)
  obtain ⟨cQ, cJ, kQ, f1, f2, hkQ, hQ⟩ := hZ.2.2.2
  have eQ : cQ = tc 2 := Option.some.inj (f1.symm.trans hFQ)
  have eJ : cJ = tc 1 := Option.some.inj (f2.symm.trans hFJ)
  subst eQ
  subst eJ
  have hfk := hfr k (Or.inl rfl)
  have hfa : ∀ q, a ≤ q → q < a + 5 → F q = none ∧ mx_no q F ∧ mx_nrL q lv = true ∧ mx_nrS q r = true := fun q q1 q2 => hfr q (Or.inr ⟨q1, q2⟩)
  refine mg_W (cQ := tc 2) (cJ := tc 1) (n := nI n) (N := n) hx hb hown (hts _ hcl) f1 hkQ hQ hkJ hJ (nI_pos (by omega)) (nI_clamp (by omega)) hn (by omega) (by omega) rfl rfl hd (fun H1 L hL z1 o1 e1 er => ?_)
  have adk : mg_ad ad k a H.size k = H.size := if_pos rfl
  have ada : ∀ q, a ≤ q → q < a + 5 → mg_ad ad k a H.size q = H.size + 1 + (q - a) := by
    intro q q1 q2
    unfold mg_ad
    rw [if_neg (by omega), if_pos ⟨q1, q2⟩]
  have ado : ∀ q, q ≠ k → ¬ (a ≤ q ∧ q < a + 5) → mg_ad ad k a H.size q = ad q := by
    intro q q1 q2
    unfold mg_ad
    rw [if_neg q1, if_neg q2]
  have hold : ∀ (j : Nat) (x : mx_E), F j = some x → j ≠ k ∧ ¬ (a ≤ j ∧ j < a + 5) ∧ ad j < H.size := by
    intro j x hj
    refine ⟨fun z => ?_, fun z => ?_, (hP j x hj).lt⟩
    · rw [z, hfk.1] at hj
      cases hj
    · rw [(hfa j z.1 z.2).1] at hj
      cases hj
  have hP1 : mx_P D tc (mg_ad ad k a H.size) tb (mx_put (mx_rows F a n) k (mx_qa 2 5 (mx_g5 a))) H1 := by
    intro j x hx2
    rcases mx_put_or hx2 with ⟨ej, ex⟩ | ⟨hjk, hx2⟩
    · subst ej
      subst ex
      rw [adk]
      show H1[H.size]? = some (vp_cell _ _)
      rw [e1]
      congr 1
      show arrV _ _ _ = arrV (tc 2) 5 (fun i => va_rf ((mx_g5 a i).map (mg_ad ad j a H.size)))
      congr 1
      funext i
      by_cases hi : i < 5
      · rw [if_pos hi]
        unfold mx_g5
        rw [if_pos hi]
        show _ = Value.ref (mg_ad ad j a H.size (a + i))
        rw [ada (a + i) (by omega) (by omega), show a + i - a = i by omega]
      · rw [if_neg hi]
        unfold mx_g5
        rw [if_neg hi]
        rfl
    · rcases mx_rows_or hx2 with ⟨⟨q1, q2⟩, ex⟩ | ⟨hno2, hx2⟩
      · subst ex
        rw [ada j q1 q2]
        exact er (j - a) (by omega)
      · rw [ado j hjk hno2, mg_e (hfk.2.1 j x hx2) (fun q q1 q2 => (hfa q q1 q2).2.1 j x hx2)]
        exact (hP j x hx2).kept (o1 _ (hold j x hx2).2.2)
  have cls : ∀ (j : Nat) (x : mx_E), mx_put (mx_rows F a n) k (mx_qa 2 5 (mx_g5 a)) j = some x → (j = k ∧ mg_ad ad k a H.size j = H.size) ∨ ((a ≤ j ∧ j < a + 5) ∧ mg_ad ad k a H.size j = H.size + 1 + (j - a)) ∨ (∃ y, F j = some y ∧ mg_ad ad k a H.size j = ad j ∧ ad j < H.size) := by
    intro j x hx2
    rcases mx_put_or hx2 with ⟨ej, ex⟩ | ⟨hjk, hx2⟩
    · exact Or.inl ⟨ej, by rw [ej]; exact adk⟩
    · rcases mx_rows_or hx2 with ⟨⟨q1, q2⟩, ex⟩ | ⟨hno2, hx2⟩
      · exact Or.inr (Or.inl ⟨⟨q1, q2⟩, ada j q1 q2⟩)
      · exact Or.inr (Or.inr ⟨x, hx2, ado j hjk hno2, (hold j x hx2).2.2⟩)
  have hD1 : mx_D A (mg_ad ad k a H.size) (mx_put (mx_rows F a n) k (mx_qa 2 5 (mx_g5 a))) := by
    refine ⟨fun i j x y hx2 hy2 hij => ?_, fun j x hx2 => ?_⟩
    · rcases cls i x hx2 with ⟨a1, a2⟩ | ⟨a1, a2⟩ | ⟨x', a1, a2, a3⟩ <;> rcases cls j y hy2 with ⟨b1, b2⟩ | ⟨b1, b2⟩ | ⟨y', b1, b2, b3⟩ <;> rw [a2, b2] at hij
      · omega
      · omega
      · omega
      · omega
      · omega
      · omega
      · omega
      · omega
      · exact hD.1 i j x' y' a1 b1 hij
    · rcases cls j x hx2 with ⟨a1, a2⟩ | ⟨a1, a2⟩ | ⟨x', a1, a2, a3⟩ <;> rw [a2]
      · exact hA _ hS.1
      · exact hA _ (by have := hS.1; omega)
      · exact hD.2 j x' a1
  have hin : mx_in F (mx_put (mx_rows F a n) k (mx_qa 2 5 (mx_g5 a))) := by
    unfold mx_rows
    exact mx_in_tr (mx_in_tr (mx_in_tr (mx_in_tr (mx_in_tr (mx_in_put F a _) (mx_in_put _ _ _)) (mx_in_put _ _ _)) (mx_in_put _ _ _)) (mx_in_put _ _ _)) (mx_in_put _ _ _)
  have h2 := h (mg_ad ad k a H.size) H1 (locs ++ L) ls (hUp ad _ F _ ⟨fun q y hy => ado q (hold q y hy).1 (hold q y hy).2.1, hin⟩ h1) hP1 hD1 ⟨Nat.le_trans hS.1 (by omega), fun x q1 q2 => (o1 x (Nat.lt_of_lt_of_le q1 hS.1)).trans (hS.2.1 x q1 q2), fun q hq => by
      rcases List.mem_append.mp hq with w | w
      · exact hS.2.2 q w
      · rw [hL q w]
        exact hA _ hS.1⟩ (mx_H_same (fun v hv => mg_v (mx_nrL_ok hfk.2.2.1 v hv) (fun q q1 q2 => mx_nrL_ok (hfa q q1 q2).2.2.1 v hv)) hl)
  rw [List.map_cons, mx_st_same (ad := ad) (fun v hv => mg_v (mx_nrS_ok hfk.2.2.2 v hv) (fun q q1 q2 => mx_nrS_ok (hfa q q1 q2).2.2.2 v hv))] at h2
  have e5 : mx_v (mg_ad ad k a H.size) tb (mx_r k) = .ref H.size := by
    show Value.ref (mg_ad ad k a H.size k) = _
    rw [adk]
  rw [e5] at h2
  exact h2
end MG4
