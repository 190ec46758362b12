/-! WORDS AND GRID AS BOTH SIDES SEE THEM: word w has N w letters, the i-th is ch w i; the grid is g -/
def vl (x : Int32) : Prop := ∃ a : Nat, 97 ≤ a ∧ a ≤ 122 ∧ x = nI a
theorem vl_m1 {x : Int32} (h : vl x) : ¬ x = -1 := by
  obtain ⟨a, h1, h2, rfl⟩ := h
  exact nI_m1 (by omega)
theorem vl_0 {x : Int32} (h : vl x) : ¬ x = 0 := by
  obtain ⟨a, h1, h2, rfl⟩ := h
  exact nI_ne0 (by omega) (by omega)
def wch (n : Nat) (N : Nat → Nat) (ch : Nat → Nat → Int32) : Prop := n ≤ 60 ∧ (∀ w, w < n → 1 ≤ N w ∧ N w ≤ 6) ∧ ∀ w i, w < n → i < N w → vl (ch w i)
/-- the words on one side -/
def wst (n : Nat) (N : Nat → Nat) (ch : Nat → Nat → Int32) (S : Nat → Nat) (lt st : Nat → Int32) : Prop := wok n S st ∧ wch n N ch ∧ (∀ w, w < n → S (w + 1) = S w + N w) ∧ ∀ w i, w < n → i < N w → lt (S w + i) = ch w i
/-- and on the other -/
def mst (n : Nat) (N : Nat → Nat) (ch : Nat → Nat → Int32) (lt ml : Nat → Int32) : Prop := mok n N ml ∧ wch n N ch ∧ ∀ w i, w < n → i < N w → lt (6 * w + i) = ch w i
section UW
variable {n : Nat} {N : Nat → Nat} {ch : Nat → Nat → Int32} {S : Nat → Nat} {lt st ml : Nat → Int32} {F : mx_F} {P : Option mx_V → mx_F → Prop} {j i : Nat}
theorem u_lengthOf (hw : wst n N ch S lt st) (hj : j < n) (h3 : F 3 = some (e_W n)) (h5 : F 5 = some (mx_ia 61 st)) (hp : P (some (mx_i (nI (N j)))) F) : sp_W_lengthOf [mx_r 3, mx_i (nI j)] F P := by
  have hn := hw.1.1
  refine ⟨n, S, st, _, rfl, h3, h5, hw.1, fun j' hj' e => ?_, fun hc => ?_⟩
  · have e := (nI_eq (by omega) (by omega)).mp e
    subst e
    rw [hw.2.2.1 j hj, show S j + N j - S j = N j by omega]
    exact hp
  · exfalso
    rcases hc with hc | hc
    · exact nI_pos (by omega) hc
    · exact absurd ((nI_leI (by omega) (by omega)).mp hc) (by omega)
theorem u_lengthOfX (hw : wst n N ch S lt st) {w : Int32} (hn : w < 0 ∨ nI n ≤ w) (h3 : F 3 = some (e_W n)) (h5 : F 5 = some (mx_ia 61 st)) (hp : P (some (mx_i (nI 0))) F) : sp_W_lengthOf [mx_r 3, mx_i w] F P := by
  have hn2 := hw.1.1
  refine ⟨n, S, st, _, rfl, h3, h5, hw.1, fun j' hj' e => ?_, fun hc => hp⟩
  exfalso
  subst e
  rcases hn with hc | hc
  · exact nI_pos (by omega) hc
  · exact absurd ((nI_leI (by omega) (by omega)).mp hc) (by omega)
theorem u_letterOf (hw : wst n N ch S lt st) (hj : j < n) (hi : i < N j) (h3 : F 3 = some (e_W n)) (h4 : F 4 = some (mx_ia 360 lt)) (h5 : F 5 = some (mx_ia 61 st)) (hp : P (some (mx_i (ch j i))) F) : sp_W_letterOf [mx_r 3, mx_i (nI j), mx_i (nI i)] F P := by
  have hn := hw.1.1
  have h6 := hw.2.1.2.1 j hj
  refine ⟨n, S, st, lt, _, _, rfl, h3, h4, h5, hw.1, fun j' k' hj' hk' e1 e2 => ?_, fun hc => ?_⟩
  · have e1 := (nI_eq (by omega) (by omega)).mp e1
    subst e1
    have h7 := wok_lt hw.1 (show j + 1 ≤ n by omega)
    have e2 := (nI_eq (by omega) (by omega)).mp e2
    subst e2
    rw [hw.2.2.2 j i hj hi]
    exact hp
  · exact absurd ⟨j, i, hj, by rw [hw.2.2.1 j hj]; omega, rfl, rfl⟩ hc
theorem u_at {th sz mn sp : Int32} {wy : Int64} {kp sd : Int32} (hw : mst n N ch lt ml) (hj : j < n) (hi : i < N j) (h0 : F 40 = some (e_M th sz mn sp wy kp sd)) (h2 : F 42 = some (mx_ia 360 lt)) (hp : P (some (mx_i (ch j i))) F) : sp_M_at [mx_r 40, mx_i (nI j), mx_i (nI i)] F P := by
  have hn := hw.1.1
  have h6 := hw.2.1.2.1 j hj
  refine ⟨th, sz, mn, sp, wy, kp, sd, lt, j, i, rfl, h0, h2, by omega, by omega, ?_⟩
  rw [hw.2.2 j i hj hi]
  exact hp
end UW
theorem vr_loadlen {n : Nat} {N : Nat → Nat} {ch : Nat → Nat → Int32} {lt ml : Nat → Int32} {j : Nat} (hw : mst n N ch lt ml) (hj : j < n) : ml (nI j).toNatClampNeg = nI (N j) := by
  rw [nI_clamp (by have := hw.1.1; omega), hw.1.2.2 j hj]
-- the grid
def gat (g : Nat → Int32) (x y : Int32) : Int32 := if ins x y then g (x + nI 8 * y).toNatClampNeg else -1
def cx (x : Int32) (d i : Nat) : Int32 := x + nI i * mx_t0 d
def cy (y : Int32) (d i : Nat) : Int32 := y + nI i * mx_t1 d
def cix (x y : Int32) (d i : Nat) : Nat := (cx x d i + nI 8 * cy y d i).toNatClampNeg
/-- the letters stand there -/
def stP (g : Nat → Int32) (L : Nat) (ch : Nat → Int32) (x y : Int32) (d : Nat) : Prop := ∀ i, i < L → ins (cx x d i) (cy y d i) ∧ gat g (cx x d i) (cy y d i) = ch i
/-- the letters have room there -/
def rmP (g : Nat → Int32) (L : Nat) (ch : Nat → Int32) (x y : Int32) (d : Nat) : Prop := ∀ i, i < L → ins (cx x d i) (cy y d i) ∧ (gat g (cx x d i) (cy y d i) = 0 ∨ gat g (cx x d i) (cy y d i) = ch i)
def hid (g : Nat → Int32) (ch : Nat → Int32) (x y : Int32) (d : Nat) : Nat → Nat → Int32
  | 0 => g
  | k + 1 => upd (hid g ch x y d k) (cix x y d k) (ch k)
def stA (g : Nat → Int32) (L : Nat) (ch : Nat → Int32) (p : Nat) : Prop := stP g L ch (nI (p / 8 % 8)) (nI (p / 8 / 8)) (p % 8)
noncomputable def cif {A : Type} (p : Prop) (a b : A) : A := @ite A p (Classical.propDecidable p) a b
theorem cif_y {A : Type} {p : Prop} {a b : A} (h : p) : cif p a b = a := if_pos h
theorem cif_n {A : Type} {p : Prop} {a b : A} (h : ¬ p) : cif p a b = b := if_neg h
noncomputable def cnt (Q : Nat → Prop) : Nat → Nat
  | 0 => 0
  | p + 1 => cnt Q p + cif (Q p) 1 0
theorem cnt_y {Q : Nat → Prop} {p : Nat} (h : Q p) : cnt Q (p + 1) = cnt Q p + 1 := by
  show cnt Q p + _ = _
  rw [cif_y h]
theorem cnt_n {Q : Nat → Prop} {p : Nat} (h : ¬ Q p) : cnt Q (p + 1) = cnt Q p := by
  show cnt Q p + _ = _
  rw [cif_n h]
  rfl
theorem cnt_le (Q : Nat → Prop) : ∀ p, cnt Q p ≤ p
  | 0 => Nat.le_refl 0
  | p + 1 => by
    have := cnt_le Q p
    by_cases h : Q p
    · rw [cnt_y h]
      omega
    · rw [cnt_n h]
      omega
theorem ins_ix {x y : Int32} (h : ins x y) : ∃ k : Nat, k < 64 ∧ x + nI 8 * y = nI k := by
  rcases pk_ix x (n := 8) (by omega) with q | q | ⟨a, ha, rfl⟩
  · exact absurd (Or.inl q) h
  · exact absurd (Or.inr (Or.inl q)) h
  rcases pk_ix y (n := 8) (by omega) with q | q | ⟨b, hb, rfl⟩
  · exact absurd (Or.inr (Or.inr (Or.inl q))) h
  · exact absurd (Or.inr (Or.inr (Or.inr q))) h
  exact ⟨a + 8 * b, by omega, by rw [pk_mul, nI_add]⟩
theorem ins_vp {x y : Int32} (h : ins x y) : vp_in (x + nI 8 * y) 64 := by
  obtain ⟨k, hk, e⟩ := ins_ix h
  rw [e]
  exact vp_in_nI hk (by omega)
theorem gat_in {g : Nat → Int32} {x y : Int32} (h : ins x y) : gat g x y = g (x + nI 8 * y).toNatClampNeg := if_pos h
theorem gat_out {g : Nat → Int32} {x y : Int32} (h : ¬ ins x y) : gat g x y = -1 := if_neg h
theorem gat_ins {g : Nat → Int32} {x y : Int32} (h : ¬ gat g x y = -1) : ins x y := Classical.byContradiction (fun q => h (gat_out q))
theorem ins_nI {a b : Nat} (ha : a < 8) (hb : b < 8) : ins (nI a) (nI b) := by
  intro h
  rcases h with h | h | h | h
  · exact nI_pos (by omega) h
  · exact absurd ((nI_leI (by omega) (by omega)).mp h) (by omega)
  · exact nI_pos (by omega) h
  · exact absurd ((nI_leI (by omega) (by omega)).mp h) (by omega)
def clr (g : Nat → Int32) : Nat → Nat → Int32
  | 0 => g
  | k + 1 => upd (clr g k) k (nI 0)
-- the filling
/-- a number of 31 bits out of the state -/
def fix (x : Int64) (m : Nat) : Nat := x.toUInt64.toNat / 2 ^ 33 % m
theorem fix_eq (x : Int64) {m : Nat} (h0 : 0 < m) (hm : m < 2 ^ 31) : ((x.toUInt64 >>> ((nI 33).toInt64.toUInt64 &&& Int64.toUInt64 63)).toInt64 - (x.toUInt64 >>> ((nI 33).toInt64.toUInt64 &&& Int64.toUInt64 63)).toInt64 / (nI m).toInt64 * (nI m).toInt64).toInt32 = nI (fix x m) := by
  have hx : (x.toUInt64 >>> ((nI 33).toInt64.toUInt64 &&& Int64.toUInt64 63)).toInt64 = lN (x.toUInt64.toNat / 2 ^ 33) := by
    have e1 : ((nI 33).toInt64.toUInt64 &&& Int64.toUInt64 63) = 33 := by decide +kernel
    have e2 : (x.toUInt64 >>> (33 : UInt64)).toNat = x.toUInt64.toNat / 2 ^ 33 := by
      rw [UInt64.toNat_shiftRight, Nat.shiftRight_eq_div_pow]
      rfl
    rw [e1]
    apply Int64.toBitVec_inj.mp
    apply BitVec.eq_of_toNat_eq
    have e3 : (x.toUInt64 >>> (33 : UInt64)).toInt64.toBitVec.toNat = (x.toUInt64 >>> (33 : UInt64)).toNat := rfl
    rw [e3, e2]
    show _ = (BitVec.ofNat 64 _).toNat
    rw [BitVec.toNat_ofNat, Nat.mod_eq_of_lt]
    have := x.toUInt64.toNat_lt
    omega
  have hq : x.toUInt64.toNat / 2 ^ 33 < 2 ^ 31 := by
    have := x.toUInt64.toNat_lt
    omega
  rw [hx, nI_l hm, pk_lRem (by omega) h0 (by omega), lN_i]
  rfl
def fstp (x : Int64) : Int64 := 6364136223846793005 * x + 1442695040888963407
/-- behind c cells: the grid, the state, how many were empty -/
def fil (g : Nat → Int32) (al : Nat → Int32) (m : Nat) (x : Int64) : Nat → (Nat → Int32) × Int64 × Nat
  | 0 => (g, x, 0)
  | c + 1 => if g c = 0 then (upd (fil g al m x c).1 c (al (fix (fstp (fil g al m x c).2.1) m)), fstp (fil g al m x c).2.1, (fil g al m x c).2.2 + 1) else fil g al m x c
theorem fil_far (g al : Nat → Int32) (m : Nat) (x : Int64) : ∀ (c q : Nat), c ≤ q → (fil g al m x c).1 q = g q
  | 0, q, _ => rfl
  | c + 1, q, h => by
    have ih := fil_far g al m x c q (by omega)
    unfold fil
    split
    · show upd _ c _ q = _
      rw [pk_un (by omega)]
      exact ih
    · exact ih
theorem fil_y {g al : Nat → Int32} {m : Nat} {x : Int64} {c : Nat} (h : g c = 0) : fil g al m x (c + 1) = (upd (fil g al m x c).1 c (al (fix (fstp (fil g al m x c).2.1) m)), fstp (fil g al m x c).2.1, (fil g al m x c).2.2 + 1) := by
  show (if g c = 0 then _ else _) = _
  rw [if_pos h]
theorem fil_n {g al : Nat → Int32} {m : Nat} {x : Int64} {c : Nat} (h : ¬ g c = 0) : fil g al m x (c + 1) = fil g al m x c := by
  show (if g c = 0 then _ else _) = _
  rw [if_neg h]
theorem fil_n3 (g al : Nat → Int32) (m : Nat) (x : Int64) : ∀ c, (fil g al m x c).2.2 ≤ c
  | 0 => Nat.le_refl 0
  | c + 1 => by
    have := fil_n3 g al m x c
    unfold fil
    split
    · show (fil g al m x c).2.2 + 1 ≤ _
      omega
    · omega
