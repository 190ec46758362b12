theorem st_RIGHT {args : Array Value} {s : State} (h : (Jvm.Cond.and given_1 narrow_1).before args s = true) : ∃ t : Nat, (Term.static "LadderWords$Grid" "RIGHT" "[I").eval args s none [] s = some (.ref t) ∧ va_T .int t 8 (fun j => .int (mx_t0 j)) (fun q => s.heap.size ≤ q) s s.heap := by
  have hs := flat_of_before _ h
  refine va_Tof (N := 8) (by decide) (hs (Cond.arrayOf (Term.static "LadderWords$Grid" "RIGHT" "[I") .int) (by decide +kernel)) (va_eqt (hs (Cond.eq (Term.length (Term.static "LadderWords$Grid" "RIGHT" "[I")) (Term.int 8)) (by decide +kernel))) ?_ (fun a ha hb => by omega)
  intro j hj
  rcases (show j = 0 ∨ j = 1 ∨ j = 2 ∨ j = 3 ∨ j = 4 ∨ j = 5 ∨ j = 6 ∨ j = 7 by omega) with rfl | rfl | rfl | rfl | rfl | rfl | rfl | rfl
  · exact va_eqt (hs (Cond.eq (Term.elem (Term.static "LadderWords$Grid" "RIGHT" "[I") (Term.int 0)) (Term.int 1)) (by decide +kernel))
  · exact va_eqt (hs (Cond.eq (Term.elem (Term.static "LadderWords$Grid" "RIGHT" "[I") (Term.int 1)) (Term.int 1)) (by decide +kernel))
  · exact va_eqt (hs (Cond.eq (Term.elem (Term.static "LadderWords$Grid" "RIGHT" "[I") (Term.int 2)) (Term.int 0)) (by decide +kernel))
  · exact va_eqt (hs (Cond.eq (Term.elem (Term.static "LadderWords$Grid" "RIGHT" "[I") (Term.int 3)) (Term.int (-1))) (by decide +kernel))
  · exact va_eqt (hs (Cond.eq (Term.elem (Term.static "LadderWords$Grid" "RIGHT" "[I") (Term.int 4)) (Term.int (-1))) (by decide +kernel))
  · exact va_eqt (hs (Cond.eq (Term.elem (Term.static "LadderWords$Grid" "RIGHT" "[I") (Term.int 5)) (Term.int (-1))) (by decide +kernel))
  · exact va_eqt (hs (Cond.eq (Term.elem (Term.static "LadderWords$Grid" "RIGHT" "[I") (Term.int 6)) (Term.int 0)) (by decide +kernel))
  · exact va_eqt (hs (Cond.eq (Term.elem (Term.static "LadderWords$Grid" "RIGHT" "[I") (Term.int 7)) (Term.int 1)) (by decide +kernel))
theorem st_DOWN {args : Array Value} {s : State} (h : (Jvm.Cond.and given_1 narrow_1).before args s = true) : ∃ t : Nat, (Term.static "LadderWords$Grid" "DOWN" "[I").eval args s none [] s = some (.ref t) ∧ va_T .int t 8 (fun j => .int (mx_t1 j)) (fun q => s.heap.size ≤ q) s s.heap := by
  have hs := flat_of_before _ h
  refine va_Tof (N := 8) (by decide) (hs (Cond.arrayOf (Term.static "LadderWords$Grid" "DOWN" "[I") .int) (by decide +kernel)) (va_eqt (hs (Cond.eq (Term.length (Term.static "LadderWords$Grid" "DOWN" "[I")) (Term.int 8)) (by decide +kernel))) ?_ (fun a ha hb => by omega)
  intro j hj
  rcases (show j = 0 ∨ j = 1 ∨ j = 2 ∨ j = 3 ∨ j = 4 ∨ j = 5 ∨ j = 6 ∨ j = 7 by omega) with rfl | rfl | rfl | rfl | rfl | rfl | rfl | rfl
  · exact va_eqt (hs (Cond.eq (Term.elem (Term.static "LadderWords$Grid" "DOWN" "[I") (Term.int 0)) (Term.int 0)) (by decide +kernel))
  · exact va_eqt (hs (Cond.eq (Term.elem (Term.static "LadderWords$Grid" "DOWN" "[I") (Term.int 1)) (Term.int 1)) (by decide +kernel))
  · exact va_eqt (hs (Cond.eq (Term.elem (Term.static "LadderWords$Grid" "DOWN" "[I") (Term.int 2)) (Term.int 1)) (by decide +kernel))
  · exact va_eqt (hs (Cond.eq (Term.elem (Term.static "LadderWords$Grid" "DOWN" "[I") (Term.int 3)) (Term.int 1)) (by decide +kernel))
  · exact va_eqt (hs (Cond.eq (Term.elem (Term.static "LadderWords$Grid" "DOWN" "[I") (Term.int 4)) (Term.int 0)) (by decide +kernel))
  · exact va_eqt (hs (Cond.eq (Term.elem (Term.static "LadderWords$Grid" "DOWN" "[I") (Term.int 5)) (Term.int (-1))) (by decide +kernel))
  · exact va_eqt (hs (Cond.eq (Term.elem (Term.static "LadderWords$Grid" "DOWN" "[I") (Term.int 6)) (Term.int (-1))) (by decide +kernel))
  · exact va_eqt (hs (Cond.eq (Term.elem (Term.static "LadderWords$Grid" "DOWN" "[I") (Term.int 7)) (Term.int (-1))) (by decide +kernel))
set_option maxRecDepth 100000 in
set_option maxHeartbeats 4000000 in
/-- THE LAW, from its entry -/
theorem whole_start {p : Program} {e : Env} {s : State} {m : MethodId} {below : List Frame} {meth : Method} {c : Code} (l : Launch) {b L : Nat} {xs : Nat → Int32} (hL : L ≤ 2560) (C0 : lw_At p s m meth c b L xs) : W p l e room_1 s m #[Value.ref b] below meth c s.heap [] 0 0 (lw_Z below #[Value.ref b] s) (entryFrame m ([Value.ref b] : List Value).toArray 4) := by
  obtain ⟨hx, hb, hr, hml, hown, hts, hX, hbl, hlocks, hgv⟩ := id C0
  obtain ⟨c0, i0, k0⟩ := u_known (C := R_G) (T := T_G) (N := 9) (n := 9) hts (fun w h => mx_T0_in (in_G w h)) (hts (.instantiable R_G 9) (by decide +kernel))
  obtain ⟨c1, i1, k1⟩ := u_known (C := R_C) (T := T_C) (N := 2) (n := 2) hts (fun w h => mx_T0_in (in_C w h)) (hts (.instantiable R_C 2) (by decide +kernel))
  obtain ⟨c2, i2, k2⟩ := u_known (C := R_D) (T := T_D) (N := 7) (n := 7) hts (fun w h => mx_T0_in (in_D w h)) (hts (.instantiable R_D 7) (by decide +kernel))
  obtain ⟨c3, i3, k3⟩ := u_known (C := R_R) (T := T_R) (N := 2) (n := 2) hts (fun w h => mx_T0_in (in_R w h)) (hts (.instantiable R_R 2) (by decide +kernel))
  obtain ⟨c4, i4, k4⟩ := u_known (C := R_Q) (T := T_Q) (N := 6) (n := 6) hts (fun w h => mx_T0_in (in_Q w h)) (hts (.instantiable R_Q 6) (by decide +kernel))
  obtain ⟨c5, i5, k5⟩ := u_known (C := R_W) (T := T_W) (N := 3) (n := 3) hts (fun w h => mx_T0_in (in_W w h)) (hts (.instantiable R_W 3) (by decide +kernel))
  obtain ⟨c6, i6, k6⟩ := u_known (C := R_L) (T := T_L) (N := 6) (n := 6) hts (fun w h => mx_T0_in (in_L w h)) (hts (.instantiable R_L 6) (by decide +kernel))
  obtain ⟨c7, i7, k7⟩ := u_known (C := R_M) (T := T_M) (N := 18) (n := 18) hts (fun w h => mx_T0_in (in_M w h)) (hts (.instantiable R_M 18) (by decide +kernel))
  obtain ⟨dC, dI, hKc⟩ : ∃ (dC : Nat → ClassId) (dI : Nat → Nat → Nat), ∀ (k : Nat) (q : vw_C), vwCl[k]? = some q → u_Kn s q.1 q.2.1 q.2.2 (dC k) (dI k) := by
    refine ⟨fun k => match k with | 0 => c0 | 1 => c1 | 2 => c2 | 3 => c3 | 4 => c4 | 5 => c5 | 6 => c6 | _ => c7, fun k => match k with | 0 => i0 | 1 => i1 | 2 => i2 | 3 => i3 | 4 => i4 | 5 => i5 | 6 => i6 | _ => i7, ?_⟩
    intro k q hq
    match k, hq with
    | 0, hq => cases hq; exact k0
    | 1, hq => cases hq; exact k1
    | 2, hq => cases hq; exact k2
    | 3, hq => cases hq; exact k3
    | 4, hq => cases hq; exact k4
    | 5, hq => cases hq; exact k5
    | 6, hq => cases hq; exact k6
    | 7, hq => cases hq; exact k7
    | k + 8, hq => simp [vwCl] at hq
  obtain ⟨cI, kI, pI, hI1, hI2, hI3⟩ := Cond.arrayClass_spec (hts (.arrayClass .int) (by decide +kernel))
  obtain ⟨cL, kL, pL, hL1, hL2, hL3⟩ := Cond.arrayClass_spec (hts (.arrayClass .long) (by decide +kernel))
  obtain ⟨pQ, cQ, kQ, hQ0, hQ9, hQ2, hQ3, hQ1⟩ := arrayOverA_spec (hts (.arrayOver (.array .long)) (by decide +kernel))
  obtain ⟨tc, hK⟩ : ∃ tc : Nat → ClassId, va_K (dC, dI) vwCl (mx_t tc mx_ft) s := by
    refine ⟨fun k => match k with | 0 => cI | 1 => cL | _ => cQ, hKc, fun k q hk => ?_⟩
    match k, hk with
    | 0, hk => cases hk; exact ⟨fun n z => ⟨fun k h => (by cases h), kI, hI2, pI, hI3⟩, hI1⟩
    | 1, hk => cases hk; exact ⟨fun n z => ⟨fun k h => (by cases h), kL, hL2, pL, hL3⟩, hL1⟩
    | 2, hk => cases hk; exact ⟨fun n z => ⟨fun k h => (by cases h), kQ, hQ2, pQ, hQ3⟩, hQ1⟩
    | k + 3, hk => simp [mx_t, mx_ft] at hk
  obtain ⟨tR, eR, hR⟩ := st_RIGHT hgv
  obtain ⟨tD, eD, hD⟩ := st_DOWN hgv
  obtain ⟨tb, h9, hZ⟩ : ∃ tb : Nat → Nat, tb 9 = b ∧ mx_Z tb (fun q => s.heap.size ≤ q) s s.heap := by
    refine ⟨fun k => match k with | 0 => tR | 1 => tD | _ => b, rfl, fun z hz => ?_, fun t n f ht => ?_, fun w hw => ?_, ⟨cQ, pQ, kQ, hQ1, hQ0, hQ2, hQ3⟩⟩
    · simp only [mx_zs, List.mem_cons, List.not_mem_nil, or_false] at hz
      rcases hz with rfl | rfl
      · exact va_Zof (hts (.laysStatic "LadderWords$Grid" "RIGHT" "[I") (by decide +kernel)) (hts (.initialized "LadderWords$Grid") (by decide +kernel)) eR (fun a ha hb => by omega)
      · exact va_Zof (hts (.laysStatic "LadderWords$Grid" "DOWN" "[I") (by decide +kernel)) (hts (.initialized "LadderWords$Grid") (by decide +kernel)) eD (fun a ha hb => by omega)
    · match t, ht with
      | 0, ht => cases ht; exact hR
      | 1, ht => cases ht; exact hD
      | t + 2, ht => cases ht
    · simp only [mx_nw, List.mem_cons, List.not_mem_nil, or_false] at hw
      rcases hw with rfl | rfl
      · exact va_Nw.of rfl (hts _ (by decide +kernel))
      · exact va_Nw.of rfl (hts _ (by decide +kernel))
  subst h9
  have C : mx_C p s m #[Value.ref (tb 9)] c code R_law lw_tbl (dC, dI) tc tb (fun q => s.heap.size ≤ q) 4 (fun _ _ => True) := ⟨hx, hb, hml, hown, hts, hK, fun q h => h, hZ, fun _ _ _ _ _ => trivial⟩
  have hW := law_walk (xs := xs) hL _ (fun h1 h2 => mx_go (a_law (l := l) (e := e) (below := below) C hr hlocks hX hbl (by omega)) h1 h2)
  rw [lg_entry_eq]
  exact hW (fun _ => 0) s.heap [] _ trivial (fun k x h => (by cases h)) ⟨fun i j x y h => (by cases h), fun k x h => (by cases h)⟩ va_S.rf (mx_entry (ad := fun _ => 0) (tb := tb) (As := [mx_tb 9]) (n := 4) (by decide))
