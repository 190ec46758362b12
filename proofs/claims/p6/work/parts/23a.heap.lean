/-- what keep writes -/
def kpd (kc s : Nat) (cs ka ka' : Nat → Int32) : Prop := (∀ q, q < 4 * kc → ka' q = ka q) ∧ ∀ i, i < 4 → ka' (4 * kc + i) = if i < s then cs i else -1
def pu (p : Nat → Nat) (k v : Nat) : Nat → Nat := fun i => if i = k then v else p i
theorem pu_s {p : Nat → Nat} {k v : Nat} : pu p k v k = v := if_pos rfl
theorem pu_n {p : Nat → Nat} {k v i : Nat} (h : i ≠ k) : pu p k v i = p i := if_neg h
theorem vl_ix {x : Int32} (h : vl x) : ∃ u : Nat, u < 26 ∧ x - nI 97 = nI u := by
  obtain ⟨a, h1, h2, rfl⟩ := h
  exact ⟨a - 97, by omega, pk_sub h1⟩
theorem vl_ixe {x : Int32} (h : vl x) : ∃ u : Nat, u < 26 ∧ x - nI 97 = nI u ∧ x = nI (97 + u) := by
  obtain ⟨a, h1, h2, rfl⟩ := h
  exact ⟨a - 97, by omega, pk_sub h1, by rw [show 97 + (a - 97) = a by omega]⟩
/-! LETTERS COUNTED -/
def wc (a : Nat → Int32) (u : Nat) : Nat → Nat
  | 0 => 0
  | k + 1 => wc a u k + if a k = nI (97 + u) then 1 else 0
theorem wc_y {a : Nat → Int32} {u k : Nat} (h : a k = nI (97 + u)) : wc a u (k + 1) = wc a u k + 1 := by
  show wc a u k + _ = _
  rw [if_pos h]
theorem wc_n {a : Nat → Int32} {u k : Nat} (h : ¬ a k = nI (97 + u)) : wc a u (k + 1) = wc a u k := by
  show wc a u k + _ = _
  rw [if_neg h]
  rfl
theorem wc_0far {a : Nat → Int32} {x u k : Nat} (h : a k = nI (97 + u)) (hu : u < 26) (hx : x < 26) (hxu : x ≠ u) : wc a x (k + 1) = wc a x k := wc_n (fun e => hxu (by have := (nI_eq (by omega) (by omega)).mp (e.symm.trans h); omega))
theorem wc_le (a : Nat → Int32) (u : Nat) : ∀ k, wc a u k ≤ k
  | 0 => Nat.le_refl 0
  | k + 1 => by
    have := wc_le a u k
    by_cases h : a k = nI (97 + u)
    · rw [wc_y h]
      omega
    · rw [wc_n h]
      omega
theorem wc_0 {a : Nat → Int32} {u : Nat} : ∀ {k : Nat}, (∀ i, i < k → ¬ a i = nI (97 + u)) → wc a u k = 0
  | 0, _ => rfl
  | k + 1, h => by
    rw [wc_n (h k (by omega))]
    exact wc_0 (fun i hi => h i (by omega))
theorem wc_pos {a : Nat → Int32} {u : Nat} : ∀ {k i : Nat}, i < k → a i = nI (97 + u) → 1 ≤ wc a u k
  | 0, i, h, _ => absurd h (Nat.not_lt_zero i)
  | k + 1, i, h, e => by
    by_cases hk : a k = nI (97 + u)
    · rw [wc_y hk]
      omega
    · rw [wc_n hk]
      by_cases ei : i = k
      · rw [ei] at e
        exact absurd e hk
      · exact wc_pos (show i < k by omega) e
/-! THE GATHERINGS, IN ORDER -/
section GE
variable (N : Nat → Nat) (ch : Nat → Nat → Int32)
def fitw (l : Nat → Nat) (w : Nat) : Prop := ∀ u, u < 26 → wc (ch w) u (N w) ≤ l u
def subw (l : Nat → Nat) (w : Nat) : Nat → Nat := fun u => l u - wc (ch w) u (N w)
def empl (l : Nat → Nat) : Prop := ∀ u, u < 26 → l u = 0
noncomputable def gh (G : Nat → Nat → (Nat → Nat) → List (List Nat)) (v r : Nat) (l : Nat → Nat) : List (List Nat) := cif (fitw N ch l v) (cif (empl (subw N ch l v)) [[v]] ((G v (r + 1) (subw N ch l v)).map (List.cons v))) []
noncomputable def gin (G : Nat → Nat → (Nat → Nat) → List (List Nat)) : Nat → Nat → (Nat → Nat) → List (List Nat)
  | _, 0, _ => []
  | v, r + 1, l => gh N ch G v r l ++ gin G (v + 1) r l
/-- with at most so many words, from word v on, r words are left to try -/
noncomputable def ge : Nat → Nat → Nat → (Nat → Nat) → List (List Nat)
  | 0 => fun _ _ _ => []
  | m + 1 => gin N ch (ge m)
end GE
section GEL
variable {N : Nat → Nat} {ch : Nat → Nat → Int32}
theorem ge_0 {m v : Nat} {l : Nat → Nat} : ge N ch m v 0 l = [] := by
  cases m <;> rfl
theorem ge_n {m v r : Nat} {l : Nat → Nat} (h : ¬ fitw N ch l v) : ge N ch m v (r + 1) l = ge N ch m (v + 1) r l := by
  cases m with
  | zero => rfl
  | succ m =>
    show gh N ch _ v r l ++ _ = _
    unfold gh
    rw [cif_n h]
    rfl
theorem ge_e {m v r : Nat} {l : Nat → Nat} (h : fitw N ch l v) (h2 : empl (subw N ch l v)) : ge N ch (m + 1) v (r + 1) l = [v] :: ge N ch (m + 1) (v + 1) r l := by
  show gh N ch _ v r l ++ _ = _
  unfold gh
  rw [cif_y h, cif_y h2]
  rfl
theorem ge_d {m v r : Nat} {l : Nat → Nat} (h : fitw N ch l v) (h2 : ¬ empl (subw N ch l v)) : ge N ch (m + 1) v (r + 1) l = (ge N ch m v (r + 1) (subw N ch l v)).map (List.cons v) ++ ge N ch (m + 1) (v + 1) r l := by
  show gh N ch _ v r l ++ _ = _
  unfold gh
  rw [cif_y h, cif_n h2]
  rfl
theorem ge_skip {m : Nat} {l : Nat → Nat} : ∀ {s v r : Nat}, (∀ w, v ≤ w → w < v + s → ¬ fitw N ch l w) → ge N ch m v (s + r) l = ge N ch m (v + s) r l
  | 0, v, r, _ => by rw [Nat.zero_add, Nat.add_zero]
  | s + 1, v, r, h => by
    rw [show s + 1 + r = s + r + 1 by omega, ge_n (h v (Nat.le_refl v) (by omega)), ge_skip (fun w h1 h2 => h w (by omega) (by omega)), show v + 1 + s = v + (s + 1) by omega]
end GEL
/-- no word fits into nothing -/
theorem fit_emp {n : Nat} {N : Nat → Nat} {ch : Nat → Nat → Int32} {l : Nat → Nat} {w : Nat} (hc : wch n N ch) (hw : w < n) (h : empl l) : ¬ fitw N ch l w := by
  intro hf
  obtain ⟨a, h1, h2, h3⟩ := hc.2.2 w 0 hw (by have := (hc.2.1 w hw).1; omega)
  have h4 := hf (a - 97) (by omega)
  rw [h (a - 97) (by omega)] at h4
  have h5 := wc_pos (a := ch w) (u := a - 97) (k := N w) (i := 0) (by have := (hc.2.1 w hw).1; omega) (by rw [show 97 + (a - 97) = a by omega]; exact h3)
  omega
theorem ge_emp {n : Nat} {N : Nat → Nat} {ch : Nat → Nat → Int32} {l : Nat → Nat} (hc : wch n N ch) (h : empl l) {m v r : Nat} (hv : v + r = n) : ge N ch m v r l = [] := by
  have := ge_skip (N := N) (ch := ch) (m := m) (l := l) (s := r) (v := v) (r := 0) (fun w _ h2 => fit_emp hc (by omega) h)
  rw [Nat.add_zero] at this
  rw [this, ge_0]
/-! WHAT IS KEPT -/
def gv (g : List Nat) (i : Nat) : Int32 := if i < g.length then nI (g.getD i 0) else -1
def ks (L : List (List Nat)) (kc : Nat) (tot : Int32) (ka : Nat → Int32) : Prop := tot = nI L.length ∧ kc = min L.length 200 ∧ ∀ k i, k < kc → i < 4 → ka (4 * k + i) = gv (L.getD k []) i
theorem getD_l {L : List (List Nat)} {g : List Nat} {k : Nat} (h : k < L.length) : (L ++ [g]).getD k [] = L.getD k [] := by
  rw [List.getD_eq_getElem?_getD, List.getD_eq_getElem?_getD, List.getElem?_append_left h]
theorem getD_e {L : List (List Nat)} {g : List Nat} : (L ++ [g]).getD L.length [] = g := by
  rw [List.getD_eq_getElem?_getD, List.getElem?_append_right (Nat.le_refl _), Nat.sub_self]
  rfl
theorem ks_0 {ka : Nat → Int32} : ks [] 0 (nI 0) ka := ⟨rfl, rfl, fun k i h => absurd h (Nat.not_lt_zero k)⟩
theorem ks_keep {L : List (List Nat)} {g : List Nat} {kc : Nat} {tot : Int32} {cs ka ka' : Nat → Int32} (h : ks L kc tot ka) (hk : kc < 200) (hs : ∀ i, i < g.length → cs i = nI (g.getD i 0)) (hd : kpd kc g.length cs ka ka') : ks (L ++ [g]) (kc + 1) (tot + nI 1) ka' := by
  obtain ⟨h1, h2, h3⟩ := h
  have e : kc = L.length := by omega
  refine ⟨?_, ?_, fun k i hk2 hi => ?_⟩
  · rw [h1, nI_add, List.length_append]
    rfl
  · rw [List.length_append]
    show kc + 1 = min (L.length + 1) 200
    omega
  · by_cases ek : k = kc
    · rw [ek, hd.2 i hi, e, getD_e]
      unfold gv
      by_cases q : i < g.length
      · rw [if_pos q, if_pos q, hs i q]
      · rw [if_neg q, if_neg q]
    · rw [hd.1 _ (by omega), getD_l (by omega)]
      exact h3 k i (by omega) hi
theorem ks_full {L : List (List Nat)} {g : List Nat} {tot : Int32} {ka : Nat → Int32} (h : ks L 200 tot ka) : ks (L ++ [g]) 200 (tot + nI 1) ka := by
  obtain ⟨h1, h2, h3⟩ := h
  refine ⟨?_, ?_, fun k i hk2 hi => ?_⟩
  · rw [h1, nI_add, List.length_append]
    rfl
  · rw [List.length_append]
    show 200 = min (L.length + 1) 200
    omega
  · rw [getD_l (by omega)]
    exact h3 k i hk2 hi
theorem ks_le {L : List (List Nat)} {kc : Nat} {tot : Int32} {ka : Nat → Int32} (h : ks L kc tot ka) : kc ≤ 200 := by
  have := h.2.1
  omega
theorem ks_two {L : List (List Nat)} {kc kd : Nat} {t1 t2 : Int32} {ka ga : Nat → Int32} (h : ks L kc t1 ka) (h2 : ks L kd t2 ga) : t1 = t2 ∧ kc = kd ∧ ∀ k i, k < kc → i < 4 → ka (4 * k + i) = ga (4 * k + i) := by
  have e : kc = kd := h.2.1.trans h2.2.1.symm
  refine ⟨h.1.trans h2.1.symm, e, fun k i hk hi => ?_⟩
  rw [h.2.2 k i hk hi, h2.2.2 k i (by omega) hi]
/-! HEAPS IN A LONG: 12 counts of 5 bits -/
def enc (a : Nat → Nat) : Nat → Nat
  | 0 => 0
  | k + 1 => enc a k + 32 ^ k * a k
theorem enc_c {a b : Nat → Nat} : ∀ {k : Nat}, (∀ j, j < k → a j = b j) → enc a k = enc b k
  | 0, _ => rfl
  | k + 1, h => by
    show enc a k + _ = enc b k + _
    rw [enc_c (fun j hj => h j (by omega)), h k (by omega)]
theorem enc_lt {a : Nat → Nat} : ∀ {k : Nat}, (∀ j, j < k → a j < 32) → enc a k < 32 ^ k
  | 0, _ => show 0 < 32 ^ 0 by decide
  | k + 1, h => by
    have h1 := enc_lt (a := a) (k := k) (fun j hj => h j (by omega))
    have h2 := h k (by omega)
    show enc a k + 32 ^ k * a k < 32 ^ (k + 1)
    rw [Nat.pow_succ]
    have h3 : 32 ^ k * a k ≤ 32 ^ k * 31 := Nat.mul_le_mul_left _ (by omega)
    omega
theorem enc_add {a b : Nat → Nat} : ∀ {k : Nat}, enc (fun j => a j + b j) k = enc a k + enc b k
  | 0 => rfl
  | k + 1 => by
    show enc _ k + 32 ^ k * (a k + b k) = (enc a k + 32 ^ k * a k) + (enc b k + 32 ^ k * b k)
    rw [enc_add, Nat.mul_add]
    omega
theorem enc_sub {a b : Nat → Nat} {k : Nat} (h : ∀ j, j < k → b j ≤ a j) : enc a k = enc (fun j => a j - b j) k + enc b k := by
  rw [← enc_add]
  exact enc_c (fun j hj => by have := h j hj; omega)
theorem enc_z {a : Nat → Nat} : ∀ {k : Nat}, enc a k = 0 → ∀ j, j < k → a j = 0
  | 0, _, j, h => absurd h (Nat.not_lt_zero j)
  | k + 1, h, j, hj => by
    have h1 : enc a k + 32 ^ k * a k = 0 := h
    by_cases e : j = k
    · rw [e]
      have h2 : 32 ^ k * a k = 0 := by omega
      rcases Nat.mul_eq_zero.mp h2 with q | q
      · exact absurd q (Nat.pos_iff_ne_zero.mp (Nat.pow_pos (by decide)))
      · exact q
    · exact enc_z (show enc a k = 0 by omega) j (by omega)
theorem enc_0 {a : Nat → Nat} {k : Nat} (h : ∀ j, j < k → a j = 0) : enc a k = 0 := by
  rw [enc_c (b := fun _ => 0) h]
  clear h
  induction k with
  | zero => rfl
  | succ k ih =>
    show enc _ k + 32 ^ k * 0 = 0
    rw [ih]
    rfl
/-- one more at p -/
theorem enc_b {a b : Nat → Nat} {p : Nat} : ∀ {k : Nat}, p < k → b p = a p + 1 → (∀ j, j ≠ p → b j = a j) → enc b k = enc a k + 32 ^ p
  | 0, h, _, _ => absurd h (Nat.not_lt_zero p)
  | k + 1, h, h1, h2 => by
    show enc b k + 32 ^ k * b k = enc a k + 32 ^ k * a k + 32 ^ p
    by_cases e : p = k
    · subst e
      rw [h1, Nat.mul_add, enc_c (fun j hj => h2 j (by omega))]
      omega
    · rw [enc_b (show p < k by omega) h1 h2, h2 k (by omega)]
      omega
theorem nat_or {k q p r s : Nat} (hr : r < 32 ^ k) (hs : s < 32 ^ k) : (r + 32 ^ k * q) ||| (s + 32 ^ k * p) = (r ||| s) + 32 ^ k * (q ||| p) := by
  have e : 32 ^ k = 2 ^ (5 * k) := by rw [Nat.pow_mul]
  rw [e] at hr hs ⊢
  have hrs : r ||| s < 2 ^ (5 * k) := Nat.or_lt_two_pow hr hs
  apply Nat.eq_of_testBit_eq
  intro i
  rw [Nat.testBit_or, Nat.add_comm r, Nat.add_comm s, Nat.add_comm (r ||| s), Nat.testBit_two_pow_mul_add _ hr, Nat.testBit_two_pow_mul_add _ hs, Nat.testBit_two_pow_mul_add _ hrs]
  split
  · rw [Nat.testBit_or]
  · rw [Nat.testBit_or]
theorem nat_and {k q p r s : Nat} (hr : r < 32 ^ k) (hs : s < 32 ^ k) : (r + 32 ^ k * q) &&& (s + 32 ^ k * p) = (r &&& s) + 32 ^ k * (q &&& p) := by
  have e : 32 ^ k = 2 ^ (5 * k) := by rw [Nat.pow_mul]
  rw [e] at hr hs ⊢
  have hrs : r &&& s < 2 ^ (5 * k) := Nat.lt_of_le_of_lt Nat.and_le_left hr
  apply Nat.eq_of_testBit_eq
  intro i
  rw [Nat.testBit_and, Nat.add_comm r, Nat.add_comm s, Nat.add_comm (r &&& s), Nat.testBit_two_pow_mul_add _ hr, Nat.testBit_two_pow_mul_add _ hs, Nat.testBit_two_pow_mul_add _ hrs]
  split
  · rw [Nat.testBit_and]
  · rw [Nat.testBit_and]
theorem enc_or {a b : Nat → Nat} : ∀ {k : Nat}, (∀ j, j < k → a j < 32 ∧ b j < 32) → enc a k ||| enc b k = enc (fun j => a j ||| b j) k
  | 0, _ => show (0 ||| 0 : Nat) = 0 by decide
  | k + 1, h => by
    show (enc a k + 32 ^ k * a k) ||| (enc b k + 32 ^ k * b k) = enc _ k + 32 ^ k * (a k ||| b k)
    rw [nat_or (enc_lt (fun j hj => (h j (by omega)).1)) (enc_lt (fun j hj => (h j (by omega)).2)), enc_or (fun j hj => h j (by omega))]
theorem enc_and {a b : Nat → Nat} : ∀ {k : Nat}, (∀ j, j < k → a j < 32 ∧ b j < 32) → enc a k &&& enc b k = enc (fun j => a j &&& b j) k
  | 0, _ => show (0 &&& 0 : Nat) = 0 by decide
  | k + 1, h => by
    show (enc a k + 32 ^ k * a k) &&& (enc b k + 32 ^ k * b k) = enc _ k + 32 ^ k * (a k &&& b k)
    rw [nat_and (enc_lt (fun j hj => (h j (by omega)).1)) (enc_lt (fun j hj => (h j (by omega)).2)), enc_and (fun j hj => h j (by omega))]
theorem enc_inj {a b : Nat → Nat} : ∀ {k : Nat}, (∀ j, j < k → a j < 32 ∧ b j < 32) → enc a k = enc b k → ∀ j, j < k → a j = b j
  | 0, _, _, j, h => absurd h (Nat.not_lt_zero j)
  | k + 1, h, e, j, hj => by
    have e1 : enc a k + 32 ^ k * a k = enc b k + 32 ^ k * b k := e
    have h1 := enc_lt (a := a) (k := k) (fun j hj => (h j (by omega)).1)
    have h2 := enc_lt (a := b) (k := k) (fun j hj => (h j (by omega)).2)
    have h3 : a k = b k := by
      have q1 := congrArg (fun z => z / 32 ^ k) e1
      simp only [Nat.add_mul_div_left _ _ (Nat.pow_pos (show 0 < 32 by decide)), Nat.div_eq_of_lt h1, Nat.div_eq_of_lt h2, Nat.zero_add] at q1
      exact q1
    by_cases ej : j = k
    · rw [ej]
      exact h3
    · rw [h3] at e1
      exact enc_inj (k := k) (fun j hj => h j (by omega)) (by omega) j (by omega)
theorem or16 {x : Nat} (h : x < 16) : x ||| 16 = x + 16 := by
  have : ∀ x, x < 16 → x ||| 16 = x + 16 := by decide +kernel
  exact this x h
theorem and16 {x : Nat} (h : x < 32) : x &&& 16 = 16 ↔ 16 ≤ x := by
  have : ∀ x, x < 32 → (x &&& 16 = 16 ↔ 16 ≤ x) := by decide +kernel
  exact this x h
theorem and16_lt {x : Nat} : x &&& 16 < 32 := Nat.lt_of_le_of_lt Nat.and_le_right (by decide)
/-- the guards -/
theorem enc_g : enc (fun _ => 16) 12 = 595056260442243600 := by decide +kernel
theorem lN_or (a b : Nat) (ha : a < 2 ^ 63) (hb : b < 2 ^ 63) : lN a ||| lN b = lN (a ||| b) := by
  apply Int64.toBitVec_inj.mp
  apply BitVec.eq_of_toNat_eq
  rw [Int64.toBitVec_or, BitVec.toNat_or]
  show (BitVec.ofNat 64 a).toNat ||| (BitVec.ofNat 64 b).toNat = (BitVec.ofNat 64 (a ||| b)).toNat
  have h3 : a ||| b < 2 ^ 63 := Nat.or_lt_two_pow ha hb
  rw [BitVec.toNat_ofNat, BitVec.toNat_ofNat, BitVec.toNat_ofNat, Nat.mod_eq_of_lt (by omega), Nat.mod_eq_of_lt (by omega), Nat.mod_eq_of_lt (by omega)]
theorem lN_and (a b : Nat) (ha : a < 2 ^ 63) (hb : b < 2 ^ 63) : lN a &&& lN b = lN (a &&& b) := by
  apply Int64.toBitVec_inj.mp
  apply BitVec.eq_of_toNat_eq
  rw [Int64.toBitVec_and, BitVec.toNat_and]
  show (BitVec.ofNat 64 a).toNat &&& (BitVec.ofNat 64 b).toNat = (BitVec.ofNat 64 (a &&& b)).toNat
  have h3 : a &&& b < 2 ^ 63 := Nat.lt_of_le_of_lt Nat.and_le_left ha
  rw [BitVec.toNat_ofNat, BitVec.toNat_ofNat, BitVec.toNat_ofNat, Nat.mod_eq_of_lt (by omega), Nat.mod_eq_of_lt (by omega), Nat.mod_eq_of_lt (by omega)]
theorem enc63 {a : Nat → Nat} (h : ∀ j, j < 12 → a j < 32) : enc a 12 < 2 ^ 63 := by
  have := enc_lt (a := a) (k := 12) h
  have e : (32 : Nat) ^ 12 = 2 ^ 60 := by decide
  omega
theorem within_eq {a h : Nat → Nat} (ha : ∀ j, j < 12 → a j < 16) (hh : ∀ j, j < 12 → h j < 16) : (((lN (enc a 12) ||| 595056260442243600) - lN (enc h 12)) &&& 595056260442243600) = (595056260442243600 : Int64) ↔ ∀ j, j < 12 → h j ≤ a j := by
  have eg : (595056260442243600 : Int64) = lN (enc (fun _ => 16) 12) := by rw [enc_g]; rfl
  rw [eg, lN_or _ _ (enc63 (fun j hj => by have := ha j hj; omega)) (enc63 (fun _ _ => by decide)), enc_or (fun j hj => ⟨by have := ha j hj; omega, by decide⟩)]
  have e1 : enc (fun j => a j ||| 16) 12 = enc (fun j => a j + 16) 12 := enc_c (fun j hj => or16 (ha j hj))
  have e2 := enc_sub (a := fun j => a j + 16) (b := h) (k := 12) (fun j hj => by have := hh j hj; omega)
  have e3 : lN (enc (fun j => a j ||| 16) 12) - lN (enc h 12) = lN (enc (fun j => a j + 16 - h j) 12) := by
    rw [e1, lN_sub (by omega)]
    congr 1
    omega
  have hb : ∀ j, j < 12 → a j + 16 - h j < 32 := fun j hj => by have := ha j hj; omega
  rw [e3, lN_and _ _ (enc63 hb) (enc63 (fun _ _ => by decide)), enc_and (fun j hj => ⟨hb j hj, by decide⟩)]
  rw [pk_lEQ (enc63 (fun j hj => and16_lt)) (enc63 (fun _ _ => by decide))]
  constructor
  · intro e j hj
    have h1 := enc_inj (a := fun j => a j + 16 - h j &&& 16) (b := fun _ => 16) (k := 12) (fun j hj => ⟨and16_lt, by decide⟩) e j hj
    have h2 := (and16 (hb j hj)).mp h1
    have h3 := hh j hj
    omega
  · intro h1
    exact enc_c (fun j hj => (and16 (hb j hj)).mpr (by have := h1 j hj; omega))
theorem lcmpE {x y : Int64} : lg_cmp x y = 0 ↔ x = y := by
  unfold lg_cmp
  constructor
  · intro h
    by_cases h1 : x > y
    · rw [if_pos h1] at h
      exact absurd h (by decide)
    · rw [if_neg h1] at h
      by_cases h2 : x = y
      · exact h2
      · rw [if_neg h2] at h
        exact absurd h (by decide)
  · intro h
    subst h
    rw [if_neg (by exact Int64.lt_irrefl), if_pos rfl]
theorem one_at {k : Nat} (h : k < 12) : (1 : Int64) <<< ((nI 5 * nI k).toInt64 &&& 63) = lN (32 ^ k) := by
  have : ∀ k, k < 12 → (1 : Int64) <<< ((nI 5 * nI k).toInt64 &&& 63) = lN (32 ^ k) := by decide +kernel
  exact this k h
/-! THE ROW'S LETTERS BY THEIR FIRST PLACES -/
def isf (rl : Nat → Int32) (rn j : Nat) : Prop := j < rn ∧ ∀ i, i < j → ¬ rl i = rl j
def lui (rl : Nat → Int32) (j : Nat) : Nat := (rl j).toNatClampNeg - 97
noncomputable def al (rl : Nat → Int32) (rn : Nat) (l : Nat → Nat) (j : Nat) : Nat := cif (isf rl rn j) (l (lui rl j)) 0
theorem lui_ok {rl : Nat → Int32} {j : Nat} (h : vl (rl j)) : lui rl j < 26 ∧ rl j = nI (97 + lui rl j) := by
  obtain ⟨a, h1, h2, e⟩ := h
  unfold lui
  rw [e, nI_clamp (by omega)]
  exact ⟨by omega, by rw [show 97 + (a - 97) = a by omega]⟩
theorem al_y {rl : Nat → Int32} {rn j : Nat} {l : Nat → Nat} (h : isf rl rn j) : al rl rn l j = l (lui rl j) := cif_y h
theorem al_n {rl : Nat → Int32} {rn j : Nat} {l : Nat → Nat} (h : ¬ isf rl rn j) : al rl rn l j = 0 := cif_n h
theorem lui_at {rl : Nat → Int32} {p u : Nat} (hu : u < 26) (e : rl p = nI (97 + u)) : lui rl p = u := by
  unfold lui
  rw [e, nI_clamp (by omega)]
  omega
theorem al_b {rl : Nat → Int32} {rn p u : Nat} {l l' : Nat → Nat} (hrn : rn ≤ 12) (hv : ∀ i, i < rn → vl (rl i)) (hu : u < 26) (hp : p < rn) (e : rl p = nI (97 + u)) (hf : ∀ i, i < p → ¬ rl i = nI (97 + u)) (h1 : l' u = l u + 1) (h2 : ∀ x, x < 26 → x ≠ u → l' x = l x) : enc (al rl rn l') 12 = enc (al rl rn l) 12 + 32 ^ p := by
  have hip : isf rl rn p := ⟨hp, fun i hi => by rw [e]; exact hf i hi⟩
  refine enc_b (by omega) ?_ (fun j hj => ?_)
  · rw [al_y hip, al_y hip, lui_at hu e, h1]
  · by_cases hij : isf rl rn j
    · rw [al_y hij, al_y hij]
      refine h2 _ (lui_ok (hv j hij.1)).1 (fun q => ?_)
      have ej := (lui_ok (hv j hij.1)).2
      rw [q] at ej
      rcases Nat.lt_trichotomy j p with w | w | w
      · exact hf j w ej
      · exact hj w
      · exact hij.2 p w (e.trans ej.symm)
    · rw [al_n hij, al_n hij]
theorem al_lt {rl : Nat → Int32} {rn : Nat} {l : Nat → Nat} {b : Nat} (hb : 0 < b) (hv : ∀ i, i < rn → vl (rl i)) (h : ∀ u, u < 26 → l u < b) (j : Nat) : al rl rn l j < b := by
  by_cases hij : isf rl rn j
  · rw [al_y hij]
    exact h _ (lui_ok (hv j hij.1)).1
  · rw [al_n hij]
    exact hb
theorem first_ex {rl : Nat → Int32} {x : Int32} : ∀ {k : Nat}, (∃ i, i < k ∧ rl i = x) → ∃ p, p < k ∧ rl p = x ∧ ∀ i, i < p → ¬ rl i = x
  | 0, h => by obtain ⟨i, h, _⟩ := h; exact absurd h (Nat.not_lt_zero i)
  | k + 1, h => by
    by_cases q : ∃ i, i < k ∧ rl i = x
    · obtain ⟨p, h1, h2, h3⟩ := first_ex q
      exact ⟨p, by omega, h2, h3⟩
    · obtain ⟨i, h1, h2⟩ := h
      have e : i = k := Classical.byContradiction (fun z => q ⟨i, by omega, h2⟩)
      subst e
      exact ⟨i, h1, h2, fun z hz hz2 => q ⟨z, hz, hz2⟩⟩
/-- all letters of a word are in the row -/
def inr (rl : Nat → Int32) (rn : Nat) (a : Nat → Int32) (L : Nat) : Prop := ∀ i, i < L → ∃ k, k < rn ∧ rl k = a i
/-- letters that are not in the row count nothing -/
def spl (rl : Nat → Int32) (rn : Nat) (l : Nat → Nat) : Prop := ∀ u, u < 26 → (∀ k, k < rn → ¬ rl k = nI (97 + u)) → l u = 0
theorem fit_al {N : Nat → Nat} {ch : Nat → Nat → Int32} {rl : Nat → Int32} {rn w : Nat} {l : Nat → Nat} (hv : ∀ i, i < rn → vl (rl i)) (hrn : rn ≤ 12) (hi : inr rl rn (ch w) (N w)) : (∀ j, j < 12 → al rl rn (fun u => wc (ch w) u (N w)) j ≤ al rl rn l j) ↔ fitw N ch l w := by
  constructor
  · intro h u hu
    by_cases q : ∃ k, k < rn ∧ rl k = nI (97 + u)
    · obtain ⟨p, h1, h2, h3⟩ := first_ex q
      have hp : isf rl rn p := ⟨h1, fun i hi => by rw [h2]; exact h3 i hi⟩
      have h4 := h p (by omega)
      rw [al_y hp, al_y hp, lui_at hu h2] at h4
      exact h4
    · rw [wc_0 (fun i hi2 e => ?_)]
      · exact Nat.zero_le _
      · obtain ⟨k, h1, h2⟩ := hi i hi2
        exact q ⟨k, h1, h2.trans e⟩
  · intro h j hj
    by_cases q : isf rl rn j
    · rw [al_y q, al_y q]
      exact h _ (lui_ok (hv j q.1)).1
    · rw [al_n q]
      exact Nat.zero_le _
theorem fit_inr {N : Nat → Nat} {ch : Nat → Nat → Int32} {rl : Nat → Int32} {rn w : Nat} {l : Nat → Nat} (hs : spl rl rn l) (hc : ∀ i, i < N w → vl (ch w i)) (h : fitw N ch l w) : inr rl rn (ch w) (N w) := by
  intro i hi
  obtain ⟨u, hu, _, e⟩ := vl_ixe (hc i hi)
  refine Classical.byContradiction (fun q => ?_)
  have h1 := h u hu
  rw [hs u hu (fun k hk ek => q ⟨k, hk, by rw [ek, e]⟩)] at h1
  have h2 := wc_pos (a := ch w) (u := u) hi e
  omega
theorem al_sub {N : Nat → Nat} {ch : Nat → Nat → Int32} {rl : Nat → Int32} {rn w : Nat} {l : Nat → Nat} (j : Nat) : al rl rn (subw N ch l w) j = al rl rn l j - al rl rn (fun u => wc (ch w) u (N w)) j := by
  by_cases q : isf rl rn j
  · rw [al_y q, al_y q, al_y q]
    rfl
  · rw [al_n q, al_n q, al_n q]
theorem al_emp {rl : Nat → Int32} {rn : Nat} {l : Nat → Nat} (hv : ∀ i, i < rn → vl (rl i)) (hrn : rn ≤ 12) (hs : spl rl rn l) : enc (al rl rn l) 12 = 0 ↔ empl l := by
  constructor
  · intro h u hu
    by_cases q : ∃ k, k < rn ∧ rl k = nI (97 + u)
    · obtain ⟨p, h1, h2, h3⟩ := first_ex q
      have hp : isf rl rn p := ⟨h1, fun i hi => by rw [h2]; exact h3 i hi⟩
      have h4 := enc_z h p (by omega)
      rw [al_y hp, lui_at hu h2] at h4
      exact h4
    · exact hs u hu (fun k hk e => q ⟨k, hk, e⟩)
  · intro h
    refine enc_0 (fun j hj => ?_)
    by_cases q : isf rl rn j
    · rw [al_y q]
      exact h _ (lui_ok (hv j q.1)).1
    · exact al_n q
/-- the words that fit, in a list -/
def fli (n : Nat) (N : Nat → Nat) (ch : Nat → Nat → Int32) (rl : Nat → Int32) (rn : Nat) (l0 : Nat → Nat) (v k : Nat) (fl : Nat → Nat) (ft : Nat → Int32) (hp : Nat → Int64) : Prop := (∀ q, q < k → ft q = nI (fl q) ∧ fl q < v ∧ fitw N ch l0 (fl q) ∧ inr rl rn (ch (fl q)) (N (fl q)) ∧ hp q = lN (enc (al rl rn (fun u => wc (ch (fl q)) u (N (fl q)))) 12)) ∧ (∀ a b, a < b → b < k → fl a < fl b) ∧ ∀ w, w < v → fitw N ch l0 w → ∃ q, q < k ∧ fl q = w
def pos (n fc : Nat) (fl : Nat → Nat) (q : Nat) : Nat := if q < fc then fl q else n
theorem pos_y {n fc q : Nat} {fl : Nat → Nat} (h : q < fc) : pos n fc fl q = fl q := if_pos h
theorem pos_n {n fc q : Nat} {fl : Nat → Nat} (h : ¬ q < fc) : pos n fc fl q = n := if_neg h
theorem fit_le {N : Nat → Nat} {ch : Nat → Nat → Int32} {l l0 : Nat → Nat} {w : Nat} (h : ∀ u, u < 26 → l u ≤ l0 u) (hf : fitw N ch l w) : fitw N ch l0 w := fun u hu => Nat.le_trans (hf u hu) (h u hu)
/-- from behind the q-th to the next one nothing fits -/
theorem pos_skip {n : Nat} {N : Nat → Nat} {ch : Nat → Nat → Int32} {rl : Nat → Int32} {rn : Nat} {l l0 : Nat → Nat} {fc : Nat} {fl : Nat → Nat} {ft : Nat → Int32} {hp : Nat → Int64} {m q : Nat} (h : fli n N ch rl rn l0 n fc fl ft hp) (hl : ∀ u, u < 26 → l u ≤ l0 u) (hq : q < fc) : ge N ch m (fl q + 1) (n - (fl q + 1)) l = ge N ch m (pos n fc fl (q + 1)) (n - pos n fc fl (q + 1)) l := by
  have hb : fl q + 1 ≤ pos n fc fl (q + 1) ∧ pos n fc fl (q + 1) ≤ n := by
    by_cases e : q + 1 < fc
    · rw [pos_y e]
      have h1 := h.2.1 q (q + 1) (by omega) e
      have h2 := (h.1 (q + 1) e).2.1
      omega
    · rw [pos_n e]
      have h2 := (h.1 q hq).2.1
      omega
  have := ge_skip (N := N) (ch := ch) (m := m) (l := l) (s := pos n fc fl (q + 1) - (fl q + 1)) (v := fl q + 1) (r := n - pos n fc fl (q + 1)) (fun w h1 h2 hf => ?_)
  · rw [show pos n fc fl (q + 1) - (fl q + 1) + (n - pos n fc fl (q + 1)) = n - (fl q + 1) by omega, show fl q + 1 + (pos n fc fl (q + 1) - (fl q + 1)) = pos n fc fl (q + 1) by omega] at this
    exact this
  · obtain ⟨x, hx, ex⟩ := h.2.2 w (by omega) (fit_le hl hf)
    rcases Nat.lt_trichotomy x q with z | z | z
    · have := h.2.1 x q z hq
      omega
    · rw [z] at ex
      omega
    · by_cases e : q + 1 < fc
      · rw [pos_y e] at h2 hb
        by_cases e2 : x = q + 1
        · rw [e2] at ex
          omega
        · have := h.2.1 (q + 1) x (by omega) hx
          omega
      · omega
theorem pos_skip0 {n : Nat} {N : Nat → Nat} {ch : Nat → Nat → Int32} {rl : Nat → Int32} {rn : Nat} {l0 : Nat → Nat} {fc : Nat} {fl : Nat → Nat} {ft : Nat → Int32} {hp : Nat → Int64} {m : Nat} (h : fli n N ch rl rn l0 n fc fl ft hp) : ge N ch m 0 n l0 = ge N ch m (pos n fc fl 0) (n - pos n fc fl 0) l0 := by
  have hb : pos n fc fl 0 ≤ n := by
    by_cases e : 0 < fc
    · rw [pos_y e]
      have h2 := (h.1 0 e).2.1
      omega
    · rw [pos_n e]
      exact Nat.le_refl n
  have := ge_skip (N := N) (ch := ch) (m := m) (l := l0) (s := pos n fc fl 0) (v := 0) (r := n - pos n fc fl 0) (fun w h1 h2 hf => ?_)
  · rw [show pos n fc fl 0 + (n - pos n fc fl 0) = n by omega, Nat.zero_add] at this
    exact this
  · obtain ⟨x, hx, ex⟩ := h.2.2 w (by omega) hf
    rw [pos_y (by omega)] at h2
    by_cases e2 : x = 0
    · rw [e2] at ex
      omega
    · have := h.2.1 0 x (by omega) hx
      omega
theorem ge_t {N : Nat → Nat} {ch : Nat → Nat → Int32} {m v r : Nat} {l : Nat → Nat} (h : fitw N ch l v) : ge N ch (m + 1) v (r + 1) l = cif (empl (subw N ch l v)) [[v]] ((ge N ch m v (r + 1) (subw N ch l v)).map (List.cons v)) ++ ge N ch (m + 1) (v + 1) r l := by
  show gh N ch _ v r l ++ _ = _
  unfold gh
  rw [cif_y h]
  rfl
