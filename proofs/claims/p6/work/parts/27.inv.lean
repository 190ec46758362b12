/-! WHAT BOTH SIDES KEEP BETWEEN THE CALLS -/
abbrev qh : Nat → Option Nat := mx_g5 19
abbrev qo : Nat → Option Nat := mx_g5 24
def cu (ch : Nat → Nat → Int32) (n : Nat) (rl : Nat → Int32) : Nat → Nat → Int32 := fun w => if w = n then rl else ch w
theorem cu_s {ch : Nat → Nat → Int32} {n : Nat} {rl : Nat → Int32} : cu ch n rl n = rl := if_pos rfl
theorem cu_n {ch : Nat → Nat → Int32} {n w : Nat} {rl : Nat → Int32} (h : w ≠ n) : cu ch n rl w = ch w := if_neg h
theorem wok_mono {n : Nat} {S : Nat → Nat} {st : Nat → Int32} (h : wok n S st) : ∀ b a, a ≤ b → b ≤ n → S a ≤ S b := by
  intro b
  induction b with
  | zero => intro a h1 _; rw [show a = 0 by omega]; exact Nat.le_refl _
  | succ b ih =>
    intro a h1 h2
    rcases Nat.lt_or_ge a (b + 1) with q | q
    · have h3 := ih a (by omega) (by omega)
      have h4 := (h.2.2.1 b (by omega)).1
      omega
    · rw [show a = b + 1 by omega]; exact Nat.le_refl _
theorem wch_new {n rn : Nat} {N : Nat → Nat} {ch : Nat → Nat → Int32} {rl : Nat → Int32} (h : wch n N ch) (hn : n < 60) (h1 : 1 ≤ rn) (h6 : rn ≤ 6) (hv : ∀ i, i < rn → vl (rl i)) : wch (n + 1) (pu N n rn) (cu ch n rl) := by
  refine ⟨by omega, fun w hw => ?_, fun w i hw hi => ?_⟩
  · by_cases e : w = n
    · rw [e, pu_s]
      exact ⟨h1, h6⟩
    · rw [pu_n e]
      exact h.2.1 w (by omega)
  · by_cases e : w = n
    · rw [e, pu_s] at hi
      rw [e, cu_s]
      exact hv i hi
    · rw [pu_n e] at hi
      rw [cu_n e]
      exact h.2.2 w i (by omega) hi
theorem wst_new {n rn : Nat} {N : Nat → Nat} {ch : Nat → Nat → Int32} {S : Nat → Nat} {lt st lt' rl : Nat → Int32} (h : wst n N ch S lt st) (hn : n < 60) (h1 : 1 ≤ rn) (h6 : rn ≤ 6) (hv : ∀ i, i < rn → vl (rl i)) (ha : ∀ q, q < S n → lt' q = lt q) (hb : ∀ i, i < rn → lt' (S n + i) = rl i) : wst (n + 1) (pu N n rn) (cu ch n rl) (pu S (n + 1) (S n + rn)) lt' (upd st (n + 1) (nI (S n + rn))) := by
  have hS : ∀ k, k ≤ n → pu S (n + 1) (S n + rn) k = S k := fun k hk => pu_n (by omega)
  refine ⟨⟨by omega, ?_, fun k hk => ?_, fun k hk => ?_⟩, wch_new h.2.1 hn h1 h6 hv, fun w hw => ?_, fun w i hw hi => ?_⟩
  · rw [hS 0 (by omega)]
    exact h.1.2.1
  · by_cases e : k = n
    · rw [e, pu_s, hS n (Nat.le_refl n)]
      omega
    · rw [hS k (by omega), hS (k + 1) (by omega)]
      exact h.1.2.2.1 k (by omega)
  · by_cases e : k = n + 1
    · rw [e, pk_us, pu_s]
    · rw [pk_un e, hS k (by omega)]
      exact h.1.2.2.2 k (by omega)
  · by_cases e : w = n
    · rw [e, pu_s, pu_s, hS n (Nat.le_refl n)]
    · rw [hS w (by omega), hS (w + 1) (by omega), pu_n e]
      exact h.2.2.1 w (by omega)
  · by_cases e : w = n
    · rw [e, pu_s] at hi
      rw [e, cu_s, hS n (Nat.le_refl n)]
      exact hb i hi
    · rw [pu_n e] at hi
      rw [cu_n e, hS w (by omega), ha, h.2.2.2 w i (by omega) hi]
      have h3 := h.2.2.1 w (by omega)
      have h4 := wok_mono h.1 n (w + 1) (by omega) (Nat.le_refl n)
      omega
theorem mst_new {n rn : Nat} {N : Nat → Nat} {ch : Nat → Nat → Int32} {lt ml lt' rl : Nat → Int32} (h : mst n N ch lt ml) (hn : n < 60) (h1 : 1 ≤ rn) (h6 : rn ≤ 6) (hv : ∀ i, i < rn → vl (rl i)) (ha : ∀ q, q < 6 * n → lt' q = lt q) (hb : ∀ i, i < rn → lt' (6 * n + i) = rl i) : mst (n + 1) (pu N n rn) (cu ch n rl) lt' (upd ml n (nI rn)) := by
  refine ⟨⟨by omega, fun w hw => ?_, fun w hw => ?_⟩, wch_new h.2.1 hn h1 h6 hv, fun w i hw hi => ?_⟩
  · exact (wch_new h.2.1 hn h1 h6 hv).2.1 w hw
  · by_cases e : w = n
    · rw [e, pk_us, pu_s]
    · rw [pk_un e, pu_n e]
      exact h.1.2.2 w (by omega)
  · by_cases e : w = n
    · rw [e, pu_s] at hi
      rw [e, cu_s]
      exact hb i hi
    · rw [pu_n e] at hi
      have h6 := h.2.1.2.1 w (by omega)
      rw [cu_n e, ha _ (by omega)]
      exact h.2.2 w i (by omega) hi
/-- word j is the row, for both -/
def rsame (N : Nat → Nat) (ch : Nat → Nat → Int32) (rl : Nat → Int32) (rn j : Nat) : Prop := N j = rn ∧ ∀ i, i < rn → ch j i = rl i
theorem wsame_r {n rn j : Nat} {N : Nat → Nat} {ch : Nat → Nat → Int32} {S : Nat → Nat} {lt st rl : Nat → Int32} (h : wst n N ch S lt st) (hj : j < n) : wsame S lt rl rn j ↔ rsame N ch rl rn j := by
  have e := h.2.2.1 j hj
  constructor
  · rintro ⟨h1, h2⟩
    have h3 : N j = rn := by omega
    exact ⟨h3, fun i hi => by rw [← h.2.2.2 j i hj (by omega)]; exact h2 i hi⟩
  · rintro ⟨h1, h2⟩
    exact ⟨by omega, fun i hi => by rw [h.2.2.2 j i hj (by omega)]; exact h2 i hi⟩
theorem msame_r {n rn j : Nat} {N : Nat → Nat} {ch : Nat → Nat → Int32} {lt ml rl : Nat → Int32} (h : mst n N ch lt ml) (hj : j < n) : msame N lt rl rn j ↔ rsame N ch rl rn j := by
  constructor
  · rintro ⟨h1, h2⟩
    exact ⟨h1, fun i hi => by rw [← h.2.2 j i hj (by omega)]; exact h2 i hi⟩
  · rintro ⟨h1, h2⟩
    exact ⟨h1, fun i hi => by rw [h.2.2 j i hj (by omega)]; exact h2 i hi⟩
theorem qrw_x {F : mx_F} {k : Nat} {e : mx_E} (hk : k < 18 ∨ 29 ≤ k) (h : qrw F) : qrw (mx_put F k e) := by
  refine ⟨fun i hi => ?_, fun i hi => ?_, ?_⟩
  · rw [mx_put_ne (by omega)]
    exact h.1 i hi
  · rw [mx_put_ne (by omega)]
    exact h.2.1 i hi
  · rw [mx_put_ne (by omega)]
    exact h.2.2
/-- the ladder found latest: none on either side that may still be shown, or the same -/
def cpD (n rcn dm : Nat) (sp : Int32) (rg la : Nat → Int32) : Prop := (sp = -1 ∧ (rcn = 0 ∨ dm < n)) ∨ ∃ D, D < 60 ∧ sp = nI D ∧ rcn = D + 1 ∧ dm = n ∧ ∀ k, k ≤ D → rg k = la k
theorem hrw_x {n : Nat} {N : Nat → Nat} {ch : Nat → Nat → Int32} {m v0 i k : Nat} {F : mx_F} {e : mx_E} (hk : k < 19 ∨ 24 ≤ k) (h : hrw n N ch m v0 i F) : hrw n N ch m v0 i (mx_put F k e) := hrw_t h (fun x hx => mx_put_ne (by omega))
theorem hrw_new {n rn : Nat} {N : Nat → Nat} {ch : Nat → Nat → Int32} {rl : Nat → Int32} {F : mx_F} (h : hrw n N ch 0 0 0 F) : hrw (n + 1) (pu N n rn) (cu ch n rl) 0 0 0 F := fun x hx => by
  obtain ⟨f, h1, h2, _⟩ := h x hx
  refine ⟨f, h1, fun u v hu hb => ?_, fun u v _ q => by omega⟩
  obtain ⟨a1, a2, a3⟩ := h2 u v hu hb
  rw [pu_n (by omega), cu_n (by omega)]
  exact ⟨by omega, a2, a3⟩
theorem hrw_z {F : mx_F} {N : Nat → Nat} {ch : Nat → Nat → Int32} (h : ∀ x, x < 5 → F (19 + x) = some (mx_la 26 (fun _ => 0))) : hrw 0 N ch 0 0 0 F := fun x hx => ⟨_, h x hx, fun u v _ hb => absurd hb bt_0, fun u v _ q => by omega⟩
/-- the gatherings found latest -/
def cpG (n kc gm kd : Nat) (ka ga : Nat → Int32) : Prop := (kd = 0 ∧ (kc = 0 ∨ gm < n)) ∨ (kc = kd ∧ gm = n ∧ ∀ k i, k < kc → i < 4 → ka (4 * k + i) = ga (4 * k + i))
/-- the square found latest -/
def cpQ (n qn qm sdn : Nat) (li ls : Nat → Int32) : Prop := (sdn = 0 ∧ (qn = 0 ∨ qm < n)) ∨ (sdn = qn ∧ qm = n ∧ ∀ k, k < qn → li k = ls k)
def iv (F : mx_F) : Prop := ∃ (rn : Nat) (n : Nat) (N : Nat → Nat) (ch : Nat → Nat → Int32) (S : Nat → Nat) (rl : Nat → Int32) (lt : Nat → Int32) (st : Nat → Int32) (g : Nat → Int32) (rcn : Nat) (dm : Nat) (sh : Int64) (ds : Nat → Int32) (cs : Nat → Int64) (rg : Nat → Int32) (fc : Nat) (kc : Nat) (tot : Int32) (gm : Nat) (ft : Nat → Int32) (hp : Nat → Int64) (gcs : Nat → Int32) (ka : Nat → Int32) (qn : Nat) (qm : Nat) (mlt : Nat → Int32) (ml : Nat → Int32) (th : Int32) (sp : Int32) (wy : Int64) (kd : Nat) (sdn : Nat) (la : Nat → Int32) (fa : Nat → Int32) (ca : Nat → Int64) (ga : Nat → Int32) (mcs : Nat → Int32) (lf : Nat → Int32) (ls : Nat → Int32) (li : Nat → Int32), F 0 = some e_L ∧ F 1 = some (e_R rn) ∧ F 2 = some (mx_ia 12 rl) ∧ F 3 = some (e_W n) ∧ F 4 = some (mx_ia 360 lt) ∧ F 5 = some (mx_ia 61 st) ∧ F 6 = some (e_D (nI rcn) sh (nI dm)) ∧ F 7 = some (mx_ia 60 ds) ∧ F 8 = some (mx_la 60 cs) ∧ F 9 = some (mx_ia 60 rg) ∧ F 10 = some (e_G (nI fc) (nI kc) tot (nI gm)) ∧ F 11 = some (mx_ia 60 ft) ∧ F 12 = some (mx_la 60 hp) ∧ F 13 = some (mx_ia 4 gcs) ∧ F 14 = some (mx_ia 800 ka) ∧ F 15 = some (e_Q (nI qn) (nI qm)) ∧ F 16 = some (mx_qa 2 5 (mx_g5 19)) ∧ F 17 = some (mx_qa 2 5 (mx_g5 24)) ∧ F 18 = some (mx_ia 5 li) ∧ F 29 = some e_C ∧ F 30 = some (mx_ia 64 g) ∧ F 40 = some (e_M th (nI rn) (nI n) sp wy (nI kd) (nI sdn)) ∧ F 41 = some (mx_ia 12 rl) ∧ F 42 = some (mx_ia 360 mlt) ∧ F 43 = some (mx_ia 60 ml) ∧ F 44 = some (mx_ia 60 la) ∧ F 45 = some (mx_ia 60 fa) ∧ F 46 = some (mx_la 60 ca) ∧ F 47 = some (mx_ia 800 ga) ∧ F 48 = some (mx_ia 5 mcs) ∧ F 49 = some (mx_ia 26 lf) ∧ F 50 = some (mx_ia 6 ls) ∧ F 51 = some (mx_ia 64 g) ∧ (qrw F) ∧ (rn ≤ 12) ∧ (∀ i, i < rn → vl (rl i)) ∧ (wst n N ch S lt st) ∧ (mst n N ch mlt ml) ∧ (rcn ≤ 60 ∧ dm ≤ n) ∧ (fc ≤ 60 ∧ kc ≤ 200 ∧ gm ≤ n ∧ kd ≤ 200) ∧ (qn ≤ 5 ∧ qm ≤ n ∧ sdn ≤ 5) ∧ (cpD n rcn dm sp rg la) ∧ (cpG n kc gm kd ka ga) ∧ (cpQ n qn qm sdn li ls) ∧ (hrw n N ch 0 0 0 F)
