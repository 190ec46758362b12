/-! LEVELS FROM A WORD ON: de d w, how far w is from t, as far as d steps show it -/
section BFS
variable (n : Nat) (R : Nat → Nat → Prop) (t : Nat)
noncomputable def de : Nat → Nat → Option Nat
  | 0, w => if w = t then some 0 else none
  | d + 1, w => match de d w with
    | some k => some k
    | none => cif (∃ v, v < n ∧ de d v = some d ∧ R v w) (some (d + 1)) none
end BFS
section BFL
variable {n : Nat} {R : Nat → Nat → Prop} {t : Nat}
theorem de_up {d w k : Nat} (h : de n R t d w = some k) : de n R t (d + 1) w = some k := by
  unfold de
  rw [h]
theorem de_new {d w v : Nat} (h : de n R t d w = none) (hv : v < n) (h1 : de n R t d v = some d) (h2 : R v w) : de n R t (d + 1) w = some (d + 1) := by
  unfold de
  rw [h]
  exact cif_y ⟨v, hv, h1, h2⟩
theorem de_not {d w : Nat} (h : de n R t d w = none) (h2 : ¬ ∃ v, v < n ∧ de n R t d v = some d ∧ R v w) : de n R t (d + 1) w = none := by
  unfold de
  rw [h]
  exact cif_n h2
theorem de_0 {w : Nat} : de n R t 0 w = if w = t then some 0 else none := by
  unfold de
  by_cases h : w = t
  · rw [if_pos h]
  · rw [if_neg h]
theorem de_inv {d w k : Nat} (h : de n R t (d + 1) w = some k) : de n R t d w = some k ∨ (k = d + 1 ∧ de n R t d w = none ∧ ∃ v, v < n ∧ de n R t d v = some d ∧ R v w) := by
  cases hd : de n R t d w with
  | some j =>
    rw [de_up hd] at h
    exact Or.inl h
  | none =>
    by_cases hv : ∃ v, v < n ∧ de n R t d v = some d ∧ R v w
    · obtain ⟨v, h1, h2, h3⟩ := hv
      rw [de_new hd h1 h2 h3] at h
      exact Or.inr ⟨(Option.some.inj h).symm, rfl, v, h1, h2, h3⟩
    · rw [de_not hd hv] at h
      cases h
theorem de_le : ∀ {d w k : Nat}, de n R t d w = some k → k ≤ d
  | 0, w, k, h => by
    rw [de_0] at h
    split at h
    · cases h
      exact Nat.le_refl 0
    · cases h
  | d + 1, w, k, h => by
    rcases de_inv h with h | ⟨h, _⟩
    · have := de_le h
      omega
    · omega
theorem de_mono {d w k : Nat} (h : de n R t d w = some k) : ∀ e, d ≤ e → de n R t e w = some k := by
  intro e
  induction e with
  | zero =>
    intro q
    rw [show d = 0 by omega] at h
    exact h
  | succ e ih =>
    intro q
    rcases Nat.lt_or_ge d (e + 1) with r | r
    · exact de_up (ih (by omega))
    · rw [show e + 1 = d by omega]
      exact h
theorem de_lv : ∀ {d w k : Nat}, de n R t d w = some k → de n R t k w = some k
  | 0, w, k, h => by
    have := de_le h
    rw [show k = 0 by omega] at h ⊢
    exact h
  | d + 1, w, k, h => by
    rcases de_inv h with h1 | ⟨h1, _⟩
    · exact de_lv h1
    · rw [h1] at h ⊢
      exact h
theorem de_iff {d w k : Nat} (hk : k ≤ d) : de n R t d w = some k ↔ de n R t k w = some k := ⟨de_lv, fun h => de_mono h d hk⟩
theorem de_pre {k w : Nat} (h : de n R t (k + 1) w = some (k + 1)) : ∃ v, v < n ∧ de n R t k v = some k ∧ R v w := by
  rcases de_inv h with h1 | ⟨_, _, h1⟩
  · have := de_le h1
    omega
  · exact h1
-- counting
theorem cnt_mono {Q Q' : Nat → Prop} (h : ∀ i, Q i → Q' i) : ∀ m, cnt Q m ≤ cnt Q' m
  | 0 => Nat.le_refl 0
  | m + 1 => by
    have ih := cnt_mono h m
    by_cases q : Q m
    · rw [cnt_y q, cnt_y (h m q)]
      omega
    · rw [cnt_n q]
      by_cases q' : Q' m
      · rw [cnt_y q']
        omega
      · rw [cnt_n q']
        exact ih
theorem cnt_lt {Q Q' : Nat → Prop} (h : ∀ i, Q i → Q' i) {w : Nat} (h1 : ¬ Q w) (h2 : Q' w) : ∀ m, w < m → cnt Q m + 1 ≤ cnt Q' m
  | 0, hw => absurd hw (Nat.not_lt_zero w)
  | m + 1, hw => by
    by_cases e : w = m
    · subst e
      rw [cnt_n h1, cnt_y h2]
      have := cnt_mono h w
      omega
    · have ih := cnt_lt h h1 h2 m (by omega)
      by_cases q : Q m
      · rw [cnt_y q, cnt_y (h m q)]
        omega
      · rw [cnt_n q]
        by_cases q' : Q' m
        · rw [cnt_y q']
          omega
        · rw [cnt_n q']
          exact ih
theorem de_cnt : ∀ {d w : Nat}, w < n → de n R t d w = some d → d + 1 ≤ cnt (fun v => ∃ k, de n R t d v = some k) n
  | 0, w, hw, h => by
    have := cnt_lt (Q := fun _ => False) (Q' := fun v => ∃ k, de n R t 0 v = some k) (fun _ q => q.elim) (w := w) (fun q => q) ⟨0, h⟩ n hw
    omega
  | d + 1, w, hw, h => by
    obtain ⟨v, h1, h2, h3⟩ := de_pre h
    have ih := de_cnt h1 h2
    have := cnt_lt (Q := fun v => ∃ k, de n R t d v = some k) (Q' := fun v => ∃ k, de n R t (d + 1) v = some k) (fun i q => by obtain ⟨k, q⟩ := q; exact ⟨k, de_up q⟩) (w := w) (fun q => by
      obtain ⟨k, q⟩ := q
      have e := de_up q
      rw [h] at e
      have := de_le q
      cases e
      omega) ⟨_, h⟩ n hw
    omega
theorem de_lt {d w k : Nat} (hw : w < n) (h : de n R t d w = some k) : k < n := by
  have h1 := de_cnt hw (de_lv h)
  have h2 := cnt_le (fun v => ∃ j, de n R t k v = some j) n
  omega
theorem de_stab {d : Nat} (h : ∀ w, w < n → de n R t d w ≠ some d) : ∀ e, d ≤ e → ∀ w, de n R t e w = de n R t d w := by
  intro e
  induction e with
  | zero =>
    intro q w
    rw [show d = 0 by omega]
  | succ e ih =>
    intro q w
    rcases Nat.lt_or_ge d (e + 1) with r | r
    · have ih := ih (by omega)
      rw [← ih w]
      cases hd : de n R t e w with
      | some k => exact de_up hd
      | none =>
        refine de_not hd ?_
        rintro ⟨v, h1, h2, h3⟩
        have h4 := h2
        rw [ih v] at h4
        have := de_le h4
        rw [show e = d by omega] at h4
        exact h v h1 h4
    · rw [show e + 1 = d by omega]
theorem de_fin {w : Nat} (h : de n R t n w = none) : ∀ e, de n R t e w = none := by
  intro e
  rcases Nat.lt_or_ge e n with r | r
  · cases hd : de n R t e w with
    | none => rfl
    | some k =>
      rw [de_mono hd n (by omega)] at h
      cases h
  · rw [de_stab (d := n) (fun v hv q => by have := de_lt hv q; omega) e r w]
    exact h
/-- the first time that w is reached -/
theorem de_first {d w : Nat} (h : ∀ e, e < d → de n R t e w = none) {k : Nat} (h2 : de n R t d w = some k) : k = d := by
  have h3 := de_le h2
  rcases Nat.lt_or_ge k d with r | r
  · have := h k r
    rw [de_lv h2] at this
    cases this
  · omega
end BFL
-- within a level: all before a are done, and for a all before b
section PAR
variable (n : Nat) (R : Nat → Nat → Prop) (t : Nat)
noncomputable def po (d a b w : Nat) : Option Nat := match de n R t d w with
  | some k => some k
  | none => cif ((∃ v, v < a ∧ de n R t d v = some d ∧ R v w) ∨ (w < b ∧ de n R t d a = some d ∧ R a w)) (some (d + 1)) none
end PAR
section PAL
variable {n : Nat} {R : Nat → Nat → Prop} {t : Nat} {d a b w k : Nat}
theorem po_old (h : de n R t d w = some k) : po n R t d a b w = some k := by
  unfold po
  rw [h]
theorem po_yes (h : de n R t d w = none) (h2 : (∃ v, v < a ∧ de n R t d v = some d ∧ R v w) ∨ (w < b ∧ de n R t d a = some d ∧ R a w)) : po n R t d a b w = some (d + 1) := by
  unfold po
  rw [h]
  exact cif_y h2
theorem po_no (h : de n R t d w = none) (h2 : ¬ ((∃ v, v < a ∧ de n R t d v = some d ∧ R v w) ∨ (w < b ∧ de n R t d a = some d ∧ R a w))) : po n R t d a b w = none := by
  unfold po
  rw [h]
  exact cif_n h2
theorem po_new (h : de n R t d w = none) : po n R t d a b w = none ∨ po n R t d a b w = some (d + 1) := by
  by_cases h2 : (∃ v, v < a ∧ de n R t d v = some d ∧ R v w) ∨ (w < b ∧ de n R t d a = some d ∧ R a w)
  · exact Or.inr (po_yes h h2)
  · exact Or.inl (po_no h h2)
theorem po_eq {a' b' : Nat} (h : ((∃ v, v < a ∧ de n R t d v = some d ∧ R v w) ∨ (w < b ∧ de n R t d a = some d ∧ R a w)) ↔ ((∃ v, v < a' ∧ de n R t d v = some d ∧ R v w) ∨ (w < b' ∧ de n R t d a' = some d ∧ R a' w))) : po n R t d a b w = po n R t d a' b' w := by
  cases hd : de n R t d w with
  | some k => rw [po_old hd, po_old hd]
  | none =>
    by_cases q : (∃ v, v < a ∧ de n R t d v = some d ∧ R v w) ∨ (w < b ∧ de n R t d a = some d ∧ R a w)
    · rw [po_yes hd q, po_yes hd (h.mp q)]
    · rw [po_no hd q, po_no hd (fun z => q (h.mpr z))]
theorem po_0 : po n R t d 0 0 w = de n R t d w := by
  cases hd : de n R t d w with
  | some k => exact po_old hd
  | none =>
    refine po_no hd ?_
    rintro (⟨v, h, _⟩ | ⟨h, _⟩)
    · exact absurd h (Nat.not_lt_zero v)
    · exact absurd h (Nat.not_lt_zero w)
theorem po_n : po n R t d n 0 w = de n R t (d + 1) w := by
  cases hd : de n R t d w with
  | some k => rw [po_old hd, de_up hd]
  | none =>
    by_cases q : ∃ v, v < n ∧ de n R t d v = some d ∧ R v w
    · rw [po_yes hd (Or.inl q)]
      obtain ⟨v, h1, h2, h3⟩ := q
      rw [de_new hd h1 h2 h3]
    · rw [po_no hd (fun z => z.elim q (fun z => absurd z.1 (Nat.not_lt_zero w))), de_not hd q]
theorem po_next (hw : w < n) : po n R t d a n w = po n R t d (a + 1) 0 w := by
  refine po_eq ⟨?_, ?_⟩
  · rintro (⟨v, h1, h2⟩ | ⟨h1, h2⟩)
    · exact Or.inl ⟨v, by omega, h2⟩
    · exact Or.inl ⟨a, by omega, h2⟩
  · rintro (⟨v, h1, h2⟩ | ⟨h1, h2⟩)
    · by_cases e : v = a
      · rw [e] at h2
        exact Or.inr ⟨hw, h2⟩
      · exact Or.inl ⟨v, by omega, h2⟩
    · exact absurd h1 (Nat.not_lt_zero w)
theorem po_skip (h : ¬ de n R t d a = some d) : po n R t d a 0 w = po n R t d (a + 1) 0 w := by
  refine po_eq ⟨?_, ?_⟩
  · rintro (⟨v, h1, h2⟩ | ⟨h1, h2⟩)
    · exact Or.inl ⟨v, by omega, h2⟩
    · exact absurd h1 (Nat.not_lt_zero w)
  · rintro (⟨v, h1, h2⟩ | ⟨h1, h2⟩)
    · by_cases e : v = a
      · rw [e] at h2
        exact absurd h2.1 h
      · exact Or.inl ⟨v, by omega, h2⟩
    · exact absurd h1 (Nat.not_lt_zero w)
theorem po_same (h : w ≠ b) : po n R t d a (b + 1) w = po n R t d a b w := by
  refine po_eq ⟨?_, ?_⟩
  · rintro (h1 | ⟨h1, h2⟩)
    · exact Or.inl h1
    · exact Or.inr ⟨by omega, h2⟩
  · rintro (h1 | ⟨h1, h2⟩)
    · exact Or.inl h1
    · exact Or.inr ⟨by omega, h2⟩
theorem po_nost (h : ¬ R a b) : po n R t d a (b + 1) b = po n R t d a b b := by
  refine po_eq ⟨?_, ?_⟩
  · rintro (h1 | ⟨h1, h2, h3⟩)
    · exact Or.inl h1
    · exact absurd h3 h
  · rintro (h1 | ⟨h1, h2, h3⟩)
    · exact Or.inl h1
    · exact absurd h3 h
theorem po_set (h : de n R t d b = none) (h1 : de n R t d a = some d) (h2 : R a b) : po n R t d a (b + 1) b = some (d + 1) := po_yes h (Or.inr ⟨Nat.lt_succ_self b, h1, h2⟩)
theorem po_d (h : po n R t d a b w = some d) : de n R t d w = some d := by
  cases hd : de n R t d w with
  | some k =>
    rw [po_old hd] at h
    exact h
  | none =>
    rcases po_new (a := a) (b := b) hd with q | q
    · rw [q] at h
      cases h
    · rw [q] at h
      cases h
      done
end PAL
/-- as an int: -1 for none -/
def oi : Option Nat → Int32
  | none => -1
  | some k => nI k
theorem oi_eq {o : Option Nat} {k : Nat} (hk : k < 2 ^ 31) (ho : ∀ j, o = some j → j < 2 ^ 31) : oi o = nI k ↔ o = some k := by
  cases o with
  | none => exact ⟨fun h => absurd h.symm (nI_m1 hk), fun h => by cases h⟩
  | some j =>
    have := ho j rfl
    exact ⟨fun h => by rw [(nI_eq this hk).mp h], fun h => by cases h; rfl⟩
theorem oi_m1 {o : Option Nat} (ho : ∀ j, o = some j → j < 2 ^ 31) : oi o = -1 ↔ o = none := by
  cases o with
  | none => exact ⟨fun _ => rfl, fun _ => rfl⟩
  | some j => exact ⟨fun h => absurd h (nI_m1 (ho j rfl)), fun h => by cases h⟩
/-- the least number with Q below n -/
noncomputable def lst (Q : Nat → Prop) : Nat → Nat
  | 0 => 0
  | m + 1 => cif (∃ v, v < m ∧ Q v) (lst Q m) m
theorem lst_eq {Q : Nat → Prop} {b : Nat} (h : Q b) (h2 : ∀ c, c < b → ¬ Q c) : ∀ m, b < m → lst Q m = b
  | 0, hm => absurd hm (Nat.not_lt_zero b)
  | m + 1, hm => by
    unfold lst
    by_cases e : b < m
    · rw [cif_y ⟨b, e, h⟩]
      exact lst_eq h h2 m e
    · rw [cif_n ?_]
      · omega
      · rintro ⟨v, h3, h4⟩
        exact h2 v (by omega) h4
theorem lst_ex {Q : Nat → Prop} : ∀ m, (∃ v, v < m ∧ Q v) → lst Q m < m ∧ Q (lst Q m)
  | 0, h => by obtain ⟨v, h, _⟩ := h; exact absurd h (Nat.not_lt_zero v)
  | m + 1, h => by
    unfold lst
    by_cases e : ∃ v, v < m ∧ Q v
    · rw [cif_y e]
      have := lst_ex m e
      exact ⟨by omega, this.2⟩
    · rw [cif_n e]
      obtain ⟨v, h1, h2⟩ := h
      have : v = m := Classical.byContradiction (fun q => e ⟨v, by omega, h2⟩)
      subst this
      exact ⟨Nat.lt_succ_self _, h2⟩
/-- the least ladder: word k of it -/
noncomputable def lad (n : Nat) (R : Nat → Nat → Prop) (t a D : Nat) : Nat → Nat
  | 0 => a
  | k + 1 => lst (fun v => de n R t (D - (k + 1)) v = some (D - (k + 1)) ∧ R (lad n R t a D k) v) n
theorem lad_ok {n : Nat} {R : Nat → Nat → Prop} {t a D : Nat} (hR : ∀ x y, R x y → R y x) (ha : a < n) (h : de n R t D a = some D) : ∀ k, k ≤ D → lad n R t a D k < n ∧ de n R t (D - k) (lad n R t a D k) = some (D - k)
  | 0, _ => ⟨ha, h⟩
  | k + 1, hk => by
    have ih := (lad_ok hR ha h k (by omega)).2
    rw [show D - k = D - (k + 1) + 1 by omega] at ih
    obtain ⟨v, h1, h2, h3⟩ := de_pre ih
    have := lst_ex (Q := fun v => de n R t (D - (k + 1)) v = some (D - (k + 1)) ∧ R (lad n R t a D k) v) n ⟨v, h1, h2, hR _ _ h3⟩
    exact ⟨this.1, this.2.1⟩
theorem lad_ex {n : Nat} {R : Nat → Nat → Prop} {t a D k : Nat} (hR : ∀ x y, R x y → R y x) (ha : a < n) (h : de n R t D a = some D) (hk : k < D) : ∃ v, v < n ∧ de n R t (D - (k + 1)) v = some (D - (k + 1)) ∧ R (lad n R t a D k) v := by
  have ih := (lad_ok hR ha h k (by omega)).2
  rw [show D - k = D - (k + 1) + 1 by omega] at ih
  obtain ⟨v, h1, h2, h3⟩ := de_pre ih
  exact ⟨v, h1, h2, hR _ _ h3⟩
