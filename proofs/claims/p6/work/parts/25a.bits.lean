/-! SETS OF WORDS IN A LONG -/
def bt (x : Int64) (v : Nat) : Prop := x.toBitVec.getLsbD v = true
theorem bt_or {x y : Int64} {v : Nat} : bt (x ||| y) v ↔ bt x v ∨ bt y v := by
  unfold bt
  rw [Int64.toBitVec_or, BitVec.getLsbD_or, Bool.or_eq_true]
theorem bt_and {x y : Int64} {v : Nat} : bt (x &&& y) v ↔ bt x v ∧ bt y v := by
  unfold bt
  rw [Int64.toBitVec_and, BitVec.getLsbD_and, Bool.and_eq_true]
theorem bt_0 {v : Nat} : ¬ bt 0 v := by
  unfold bt
  rw [show (0 : Int64).toBitVec = 0#64 from rfl, BitVec.getLsbD_zero]
  exact Bool.false_ne_true
theorem bt_lt {x : Int64} {v : Nat} (h : bt x v) : v < 64 := by
  rcases Nat.lt_or_ge v 64 with q | q
  · exact q
  · unfold bt at h
    rw [BitVec.getLsbD_of_ge _ _ q] at h
    cases h
theorem bt_eq0 {x : Int64} (h : ∀ v, ¬ bt x v) : x = 0 := by
  apply Int64.toBitVec_inj.mp
  apply BitVec.eq_of_getLsbD_eq
  intro i hi
  rw [show (0 : Int64).toBitVec = 0#64 from rfl, BitVec.getLsbD_zero]
  have := h i
  unfold bt at this
  cases hb : x.toBitVec.getLsbD i with
  | false => rfl
  | true => exact absurd hb this
theorem bt_sh {w : Nat} (hw : w < 60) : ((1 : Int64) <<< ((nI w).toInt64 &&& 63)).toBitVec = 1#64 <<< w := by
  have : ∀ w, w < 60 → ((1 : Int64) <<< ((nI w).toInt64 &&& 63)).toBitVec = 1#64 <<< w := by decide +kernel
  exact this w hw
theorem bt_one {w v : Nat} (hw : w < 60) : bt ((1 : Int64) <<< ((nI w).toInt64 &&& 63)) v ↔ v = w := by
  unfold bt
  rw [bt_sh hw, BitVec.getLsbD_shiftLeft, BitVec.getLsbD_one]
  constructor
  · intro h
    simp only [Bool.and_eq_true, decide_eq_true_eq, Bool.not_eq_true', decide_eq_false_iff_not] at h
    omega
  · intro h
    subst h
    simp only [Bool.and_eq_true, decide_eq_true_eq, Bool.not_eq_true', decide_eq_false_iff_not]
    omega
theorem bt_us {w : Nat} (hw : w < 60) : ((nI w).toInt64.toUInt64 &&& Int64.toUInt64 63) = UInt64.ofNat w := by
  have : ∀ w, w < 60 → ((nI w).toInt64.toUInt64 &&& Int64.toUInt64 63) = UInt64.ofNat w := by decide +kernel
  exact this w hw
theorem bt_may {x : Int64} {w : Nat} (hw : w < 60) : ((x.toUInt64 >>> ((nI w).toInt64.toUInt64 &&& Int64.toUInt64 63)).toInt64 &&& 1) = 0 ↔ ¬ bt x w := by
  rw [bt_us hw]
  have e1 : (x.toUInt64 >>> UInt64.ofNat w).toInt64.toBitVec = x.toBitVec >>> w := by
    have e2 : (x.toUInt64 >>> UInt64.ofNat w).toBitVec = x.toUInt64.toBitVec >>> ((UInt64.ofNat w).toBitVec % 64) := UInt64.toBitVec_shiftRight ..
    have e3 : (x.toUInt64 >>> UInt64.ofNat w).toInt64.toBitVec = (x.toUInt64 >>> UInt64.ofNat w).toBitVec := rfl
    have e4 : x.toUInt64.toBitVec = x.toBitVec := rfl
    rw [e3, e2, e4, BitVec.ushiftRight_eq']
    congr 1
    have e5 : (UInt64.ofNat w).toBitVec = BitVec.ofNat 64 w := rfl
    rw [e5, BitVec.toNat_umod, BitVec.toNat_ofNat]
    have e6 : (64 : BitVec 64).toNat = 64 := rfl
    rw [e6]
    omega
  constructor
  · intro h hb
    have h1 := congrArg Int64.toBitVec h
    rw [Int64.toBitVec_and, e1] at h1
    have h2 := congrArg (fun b => BitVec.getLsbD b 0) h1
    have h3 : (1 : Int64).toBitVec = 1#64 := rfl
    have h4 : (0 : Int64).toBitVec = 0#64 := rfl
    simp only [h3, h4, BitVec.getLsbD_and, BitVec.getLsbD_ushiftRight, BitVec.getLsbD_one, BitVec.getLsbD_zero, Nat.add_zero] at h2
    unfold bt at hb
    rw [hb] at h2
    simp at h2
  · intro hb
    apply bt_eq0
    intro v hv
    rw [bt_and] at hv
    obtain ⟨h1, h2⟩ := hv
    unfold bt at h1 h2 hb
    rw [show (1 : Int64).toBitVec = 1#64 from rfl, BitVec.getLsbD_one] at h2
    rw [e1, BitVec.getLsbD_ushiftRight] at h1
    simp only [Bool.and_eq_true, decide_eq_true_eq] at h2
    rw [h2.2, Nat.add_zero] at h1
    exact hb h1
theorem lcmp0 {x : Int64} : lg_cmp x 0 = 0 ↔ x = 0 := by
  unfold lg_cmp
  constructor
  · intro h
    by_cases h1 : x > 0
    · rw [if_pos h1] at h
      exact absurd h (by decide)
    · rw [if_neg h1] at h
      by_cases h2 : x = 0
      · exact h2
      · rw [if_neg h2] at h
        exact absurd h (by decide)
  · intro h
    subst h
    decide
/-! THE LEAST SQUARE -/
/-- the first one, from v on, r of them -/
def scf {A : Type} (f : Nat → Option A) : Nat → Nat → Option A
  | _, 0 => none
  | v, r + 1 => match f v with
    | some x => some x
    | none => scf f (v + 1) r
theorem scf_s {A : Type} {f : Nat → Option A} {v r : Nat} {x : A} (h : f v = some x) : scf f v (r + 1) = some x := by
  unfold scf
  rw [h]
theorem scf_n {A : Type} {f : Nat → Option A} {v r : Nat} (h : f v = none) : scf f v (r + 1) = scf f (v + 1) r := by
  show (match f v with | some x => some x | none => scf f (v + 1) r) = _
  rw [h]
section SQ
variable (n : Nat) (N : Nat → Nat) (ch : Nat → Nat → Int32) (m : Nat)
/-- w may be the k-th behind l -/
def cand (k : Nat) (l : Nat → Nat) (w : Nat) : Prop := N w = m ∧ ∀ i, i < k → ch w i = ch (l i) k
noncomputable def sr : Nat → Nat → (Nat → Nat) → Option (Nat → Nat)
  | 0, _, l => some l
  | q + 1, k, l => scf (fun v => cif (cand N ch m k l v) (sr q (k + 1) (pu l k v)) none) 0 n
/-- what comes of v at k -/
noncomputable def sv (q k : Nat) (l : Nat → Nat) (v : Nat) : Option (Nat → Nat) := cif (cand N ch m k l v) (sr n N ch m q (k + 1) (pu l k v)) none
end SQ
section SQL
variable {n : Nat} {N : Nat → Nat} {ch : Nat → Nat → Int32} {m : Nat}
theorem sr_s {q k : Nat} {l : Nat → Nat} : sr n N ch m (q + 1) k l = scf (sv n N ch m q k l) 0 n := rfl
theorem sv_y {q k v : Nat} {l : Nat → Nat} (h : cand N ch m k l v) : sv n N ch m q k l v = sr n N ch m q (k + 1) (pu l k v) := cif_y h
theorem sv_n {q k v : Nat} {l : Nat → Nat} (h : ¬ cand N ch m k l v) : sv n N ch m q k l v = none := cif_n h
theorem scf_in {A : Type} {f : Nat → Option A} {x : A} : ∀ {r v : Nat}, scf f v r = some x → ∃ u, v ≤ u ∧ u < v + r ∧ f u = some x
  | 0, v, h => by cases h
  | r + 1, v, h => by
    cases hf : f v with
    | some y =>
      rw [scf_s hf] at h
      cases h
      exact ⟨v, Nat.le_refl v, by omega, hf⟩
    | none =>
      rw [scf_n hf] at h
      obtain ⟨u, h1, h2, h3⟩ := scf_in h
      exact ⟨u, by omega, by omega, h3⟩
/-- what is found goes on from what was there, and is a square -/
theorem sr_ok : ∀ {q k : Nat} {l r : Nat → Nat}, k + q = m → sr n N ch m q k l = some r → (∀ i, i < k → r i = l i) ∧ ∀ j, k ≤ j → j < m → r j < n ∧ N (r j) = m ∧ ∀ i, i < j → ch (r j) i = ch (r i) j
  | 0, k, l, r, hk, h => by
    cases h
    exact ⟨fun _ _ => rfl, fun j h1 h2 => by omega⟩
  | q + 1, k, l, r, hk, h => by
    rw [sr_s] at h
    obtain ⟨u, _, h2, h3⟩ := scf_in h
    by_cases hc : cand N ch m k l u
    · rw [sv_y hc] at h3
      obtain ⟨g1, g2⟩ := sr_ok (q := q) (k := k + 1) (by omega) h3
      have gk : r k = u := by rw [g1 k (by omega), pu_s]
      have gl : ∀ i, i < k → r i = l i := fun i hi => by rw [g1 i (by omega), pu_n (by omega)]
      refine ⟨gl, fun j h4 h5 => ?_⟩
      by_cases e : j = k
      · subst e
        rw [gk]
        refine ⟨by omega, hc.1, fun i hi => ?_⟩
        rw [gl i hi]
        exact hc.2 i hi
      · exact g2 j (by omega) h5
    · rw [sv_n hc] at h3
      cases h3
end SQL
theorem cand_c {N : Nat → Nat} {ch : Nat → Nat → Int32} {m k w : Nat} {l l' : Nat → Nat} (h : ∀ i, i < k → l i = l' i) : cand N ch m k l w ↔ cand N ch m k l' w :=
  ⟨fun q => ⟨q.1, fun i hi => by rw [← h i hi]; exact q.2 i hi⟩, fun q => ⟨q.1, fun i hi => by rw [h i hi]; exact q.2 i hi⟩⟩
