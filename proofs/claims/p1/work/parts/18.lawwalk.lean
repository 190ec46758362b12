theorem vin0 : vp_in (nI 0) 5 := vp_in_nI (by decide) (by decide)
theorem vin1 : vp_in (nI 0 + nI 1) 5 := by
  rw [nI_add]
  exact vp_in_nI (by decide) (by decide)
theorem vin2 : vp_in (nI 0 + nI 2) 5 := by
  rw [nI_add]
  exact vp_in_nI (by decide) (by decide)
theorem vin3 : vp_in (nI 0 + nI 3) 5 := by
  rw [nI_add]
  exact vp_in_nI (by decide) (by decide)
theorem vin4 : vp_in (nI 0 + nI 4) 5 := by
  rw [nI_add]
  exact vp_in_nI (by decide) (by decide)
theorem ins_of {x y : Int32} {i j : Nat} (hi : i < 8) (hj : j < 8) (ei : x = nI i) (ej : y = nI j) : ins x y := by
  intro h
  subst ei
  subst ej
  rcases h with h | h | h | h
  · exact nI_pos (by omega) h
  · exact absurd ((nI_leI (by omega) (by omega)).mp h) (by omega)
  · exact nI_pos (by omega) h
  · exact absurd ((nI_leI (by omega) (by omega)).mp h) (by omega)
set_option maxRecDepth 100000 in
set_option maxHeartbeats 8000000 in
theorem law_walk {L : Nat} {xs : Nat → Int32} (hL : L ≤ 5) (Rr : mx_K) (go : ∀ {pc : Nat} {o : mx_O} {lv : mx_L} {st : mx_S} {F : mx_F} {ca sl : Nat}, mx_at (t_law L xs) pc = some o → o lv st F ca sl Rr → Rr pc lv st F ca sl) : Rr 0 (mx_en [mx_tb 9] 4) [] (fun _ => none) 0 0 := by
  have done : L = 5 → ∀ F'' : mx_F, Rr 569 [some (mx_tb 9), some (mx_r 0), some (mx_r 40), some (mx_i (nI 0))] [] F'' 43 3337 := by
    intro hL5 F''
    refine go rfl ⟨_, rfl, ?_⟩
    refine go rfl ?_
    rw [nI_add]
    refine go rfl ⟨_, rfl, ?_⟩
    refine go rfl ⟨_, rfl, ?_⟩
    refine go rfl ⟨_, rfl, ?_⟩
    refine go rfl ?_
    refine go rfl ⟨_, _, _, rfl, ?_⟩
    rw [hL5]
    refine go rfl ⟨_, _, _, rfl, fun c => ?_, fun c => ?_⟩
    · refine go rfl ?_
      refine go rfl ⟨rfl, rfl, rfl⟩
    · exact absurd (by decide) c
  refine go rfl ⟨(rfl), (fun j x h => by cases h), rfl, rfl, rfl, rfl, ?_⟩
  refine go rfl ⟨_, _, rfl, rfl, ?_⟩
  refine go rfl ⟨_, _, rfl, rfl, rfl, rfl, rfl, rfl, ⟨rfl, rfl, fun k hk => mx_out ⟨rfl, fun j x h => by cases h⟩ (by omega) (mx_noB (n := 1) hk rfl), fun F' hfr hf => ?_⟩⟩
  obtain ⟨h0, h1, h2, h3, h4, h5, h6, h7, h8, h9, h10, h11, h12, h13, h14, h15, h16, h17, h18, h19, h20, h21, h22, h23, h24, h25, h26, h27, h28, h29, h30⟩ := hfr
  show Rr 7 _ _ F' _ _
  rw [mx_as1 h0]
  refine go rfl ⟨_, _, rfl, ?_⟩
  refine go rfl ⟨((hf 40 (by decide)).1), (mx_no_put (hf 40 (by decide)).2 (mx_noO rfl)), rfl, rfl, rfl, rfl, ?_⟩
  refine go rfl ⟨_, _, rfl, rfl, ?_⟩
  refine go rfl ⟨_, _, rfl, rfl, rfl, rfl, rfl, rfl, ⟨rfl, rfl, (hf 41 (by decide)).1, mx_no_put (mx_no_put (hf 41 (by decide)).2 (mx_noO rfl)) (mx_noO rfl), (hf 42 (by decide)).1, mx_no_put (mx_no_put (hf 42 (by decide)).2 (mx_noO rfl)) (mx_noO rfl), (hf 43 (by decide)).1, mx_no_put (mx_no_put (hf 43 (by decide)).2 (mx_noO rfl)) (mx_noO rfl), (hf 44 (by decide)).1, mx_no_put (mx_no_put (hf 44 (by decide)).2 (mx_noO rfl)) (mx_noO rfl), (hf 45 (by decide)).1, mx_no_put (mx_no_put (hf 45 (by decide)).2 (mx_noO rfl)) (mx_noO rfl), (hf 46 (by decide)).1, mx_no_put (mx_no_put (hf 46 (by decide)).2 (mx_noO rfl)) (mx_noO rfl), (hf 47 (by decide)).1, mx_no_put (mx_no_put (hf 47 (by decide)).2 (mx_noO rfl)) (mx_noO rfl), (hf 48 (by decide)).1, mx_no_put (mx_no_put (hf 48 (by decide)).2 (mx_noO rfl)) (mx_noO rfl), (hf 49 (by decide)).1, mx_no_put (mx_no_put (hf 49 (by decide)).2 (mx_noO rfl)) (mx_noO rfl), (hf 50 (by decide)).1, mx_no_put (mx_no_put (hf 50 (by decide)).2 (mx_noO rfl)) (mx_noO rfl), (hf 51 (by decide)).1, mx_no_put (mx_no_put (hf 51 (by decide)).2 (mx_noO rfl)) (mx_noO rfl), ?_⟩⟩
  refine go rfl ⟨_, _, rfl, ?_⟩
  refine go rfl ?_
  refine go rfl ⟨_, _, rfl, ?_⟩
  refine go rfl ⟨_, rfl, ?_⟩
  refine go rfl ⟨_, rfl, ?_⟩
  refine go rfl ⟨_, rfl, ?_⟩
  refine go rfl ?_
  refine go rfl ⟨_, _, _, rfl, ?_⟩
  refine go rfl ⟨_, _, _, rfl, fun c0 => ?_, fun c0 => ?_⟩
  · refine go rfl ?_
    refine go rfl ⟨rfl, rfl, rfl⟩
  have hL5 : L = 5 := by
    rcases Nat.lt_or_ge L 5 with q | q
    · exact absurd (pk_sneg (by decide) q) (by rw [← nI_0]; exact c0)
    · omega
  subst hL5
  refine go rfl ⟨_, rfl, ?_⟩
  refine go rfl ⟨_, rfl, ?_⟩
  refine go rfl ⟨_, _, rfl, (vin0), ?_⟩
  refine go rfl ?_
  refine go rfl ⟨_, _, _, rfl, ?_⟩
  obtain ⟨k, hk, ek⟩ := pk_andE (xs (nI 0).toNatClampNeg) (m := nI 15) 4 (by decide)
  rw [ek]
  refine go rfl ⟨k, _, rfl, hk, ?_⟩
  rcases (show k = 0 ∨ k = 1 ∨ k = 2 ∨ k = 3 ∨ k = 4 ∨ k = 5 ∨ k = 6 ∨ k = 7 ∨ k = 8 ∨ k = 9 ∨ k = 10 ∨ k = 11 ∨ k = 12 ∨ k = 13 ∨ k = 14 ∨ k = 15 by omega) with rfl | rfl | rfl | rfl | rfl | rfl | rfl | rfl | rfl | rfl | rfl | rfl | rfl | rfl | rfl | rfl
  · show Rr 112 _ _ _ _ _
    refine go rfl ⟨_, rfl, ?_⟩
    refine go rfl ⟨_, rfl, ?_⟩
    refine go rfl ⟨_, rfl, ?_⟩
    refine go rfl ?_
    refine go rfl ⟨_, _, _, rfl, ?_⟩
    refine go rfl ⟨_, _, rfl, (vin1), ?_⟩
    refine go rfl ⟨_, _, _, _, rfl, rfl, rfl, rfl, rfl, ⟨0, _, _, rfl, rfl, h1, h2, by decide, fun hc => ?_, fun hc => ?_⟩⟩
    · refine go rfl ⟨_, rfl, ?_⟩
      refine go rfl ⟨_, rfl, ?_⟩
      refine go rfl ⟨_, rfl, ?_⟩
      refine go rfl ?_
      refine go rfl ⟨_, _, _, rfl, ?_⟩
      refine go rfl ⟨_, _, rfl, (vin1), ?_⟩
      refine go rfl ⟨_, _, _, _, rfl, rfl, rfl, rfl, rfl, ⟨_, _, _, _, _, _, 0, _, _, rfl, rfl, rfl, by decide, fun _ => ?_, fun hd => absurd hc hd⟩⟩
      refine go rfl ⟨_, _, _, rfl, fun c => ?_, fun c => ?_⟩
      · exact done rfl _
      · exact absurd rfl c
    · refine go rfl ⟨_, rfl, ?_⟩
      refine go rfl ⟨_, rfl, ?_⟩
      refine go rfl ⟨_, rfl, ?_⟩
      refine go rfl ?_
      refine go rfl ⟨_, _, _, rfl, ?_⟩
      refine go rfl ⟨_, _, rfl, (vin1), ?_⟩
      refine go rfl ⟨_, _, _, _, rfl, rfl, rfl, rfl, rfl, ⟨_, _, _, _, _, _, 0, _, _, rfl, rfl, rfl, by decide, fun hd => absurd hd hc, fun _ => ?_⟩⟩
      refine go rfl ⟨_, _, _, rfl, fun c => ?_, fun c => ?_⟩
      · exact done rfl _
      · exact absurd rfl c
  · show Rr 135 _ _ _ _ _
    refine go rfl ⟨_, rfl, ?_⟩
    refine go rfl ⟨_, _, _, rfl, rfl, rfl, rfl, rfl, ⟨rfl, rfl, h1, ⟨0, h3⟩, ?_⟩⟩
    refine go rfl ⟨_, rfl, ?_⟩
    refine go rfl ⟨_, _, _, rfl, rfl, rfl, rfl, rfl, ⟨_, _, _, _, _, _, rfl, rfl, fun x => ?_⟩⟩
    refine go rfl ⟨_, _, _, rfl, fun c => ?_, fun c => ?_⟩
    · exact done rfl _
    · exact absurd rfl c
  · show Rr 148 _ _ _ _ _
    refine go rfl ⟨_, rfl, ?_⟩
    refine go rfl ⟨_, rfl, ?_⟩
    refine go rfl ⟨_, rfl, ?_⟩
    refine go rfl ?_
    refine go rfl ⟨_, _, _, rfl, ?_⟩
    refine go rfl ⟨_, _, rfl, (vin1), ?_⟩
    refine go rfl ⟨_, rfl, ?_⟩
    refine go rfl ⟨_, rfl, ?_⟩
    refine go rfl ?_
    refine go rfl ⟨_, _, _, rfl, ?_⟩
    refine go rfl ⟨_, _, rfl, (vin2), ?_⟩
    refine go rfl ⟨_, _, _, _, _, rfl, rfl, rfl, rfl, rfl, ⟨_, _, rfl, rfl, h3, ?_⟩⟩
    refine go rfl ⟨_, rfl, ?_⟩
    refine go rfl ⟨_, rfl, ?_⟩
    refine go rfl ⟨_, rfl, ?_⟩
    refine go rfl ?_
    refine go rfl ⟨_, _, _, rfl, ?_⟩
    refine go rfl ⟨_, _, rfl, (vin1), ?_⟩
    refine go rfl ⟨_, rfl, ?_⟩
    refine go rfl ⟨_, rfl, ?_⟩
    refine go rfl ?_
    refine go rfl ⟨_, _, _, rfl, ?_⟩
    refine go rfl ⟨_, _, rfl, (vin2), ?_⟩
    refine go rfl ⟨_, _, _, _, _, rfl, rfl, rfl, rfl, rfl, ⟨_, _, _, _, _, _, _, _, rfl, rfl, fun x => ?_⟩⟩
    refine go rfl ⟨_, _, _, rfl, fun c => ?_, fun c => ?_⟩
    · exact done rfl _
    · exact absurd rfl c
  · show Rr 181 _ _ _ _ _
    refine go rfl ⟨_, rfl, ?_⟩
    refine go rfl ⟨_, rfl, ?_⟩
    refine go rfl ⟨_, rfl, ?_⟩
    refine go rfl ?_
    refine go rfl ⟨_, _, _, rfl, ?_⟩
    refine go rfl ⟨_, _, rfl, (vin1), ?_⟩
    refine go rfl ⟨_, rfl, ?_⟩
    refine go rfl ⟨_, rfl, ?_⟩
    refine go rfl ?_
    refine go rfl ⟨_, _, _, rfl, ?_⟩
    refine go rfl ⟨_, _, rfl, (vin2), ?_⟩
    refine go rfl ⟨_, rfl, ?_⟩
    refine go rfl ⟨_, rfl, ?_⟩
    refine go rfl ?_
    refine go rfl ⟨_, _, _, rfl, ?_⟩
    refine go rfl ⟨_, _, rfl, (vin3), ?_⟩
    refine go rfl ⟨_, _, _, _, _, _, rfl, rfl, rfl, rfl, rfl, ⟨_, _, _, _, _, _, rfl, rfl, h3, h6, fun x => ?_⟩⟩
    refine go rfl ⟨_, rfl, ?_⟩
    refine go rfl ⟨_, rfl, ?_⟩
    refine go rfl ⟨_, rfl, ?_⟩
    refine go rfl ?_
    refine go rfl ⟨_, _, _, rfl, ?_⟩
    refine go rfl ⟨_, _, rfl, (vin1), ?_⟩
    refine go rfl ⟨_, rfl, ?_⟩
    refine go rfl ⟨_, rfl, ?_⟩
    refine go rfl ?_
    refine go rfl ⟨_, _, _, rfl, ?_⟩
    refine go rfl ⟨_, _, rfl, (vin2), ?_⟩
    refine go rfl ⟨_, rfl, ?_⟩
    refine go rfl ⟨_, rfl, ?_⟩
    refine go rfl ?_
    refine go rfl ⟨_, _, _, rfl, ?_⟩
    refine go rfl ⟨_, _, rfl, (vin3), ?_⟩
    refine go rfl ⟨_, _, _, _, _, _, rfl, rfl, rfl, rfl, rfl, ⟨_, _, _, _, _, _, _, _, _, rfl, rfl, fun x => ?_⟩⟩
    refine go rfl ⟨_, _, _, rfl, fun c => ?_, fun c => ?_⟩
    · exact done rfl _
    · exact absurd rfl c
  · show Rr 224 _ _ _ _ _
    refine go rfl ⟨_, rfl, ?_⟩
    refine go rfl ⟨_, rfl, ?_⟩
    refine go rfl ⟨_, rfl, ?_⟩
    refine go rfl ?_
    refine go rfl ⟨_, _, _, rfl, ?_⟩
    refine go rfl ⟨_, _, rfl, (vin1), ?_⟩
    refine go rfl ⟨_, _, _, _, rfl, rfl, rfl, rfl, rfl, ⟨_, _, _, rfl, rfl, h6, ?_⟩⟩
    refine go rfl ⟨_, rfl, ?_⟩
    refine go rfl ⟨_, rfl, ?_⟩
    refine go rfl ⟨_, rfl, ?_⟩
    refine go rfl ?_
    refine go rfl ⟨_, _, _, rfl, ?_⟩
    refine go rfl ⟨_, _, rfl, (vin1), ?_⟩
    refine go rfl ⟨_, _, _, _, rfl, rfl, rfl, rfl, rfl, ⟨_, _, _, _, _, _, _, rfl, rfl, fun x => ?_⟩⟩
    refine go rfl ⟨_, _, _, rfl, fun c => ?_, fun c => ?_⟩
    · exact done rfl _
    · exact absurd rfl c
  · show Rr 247 _ _ _ _ _
    refine go rfl ⟨_, rfl, ?_⟩
    refine go rfl ⟨_, _, _, rfl, rfl, rfl, rfl, rfl, ⟨_, _, _, rfl, rfl, h6, ?_⟩⟩
    refine go rfl ⟨_, rfl, ?_⟩
    refine go rfl ⟨_, _, _, rfl, rfl, rfl, rfl, rfl, ⟨_, _, _, _, _, _, rfl, rfl, fun x => ?_⟩⟩
    refine go rfl ⟨_, _, _, rfl, ?_⟩
    refine go rfl ⟨_, _, rfl, fun c => ?_, fun c => ?_⟩
    · exact done rfl _
    · exact absurd rfl c
  · show Rr 261 _ _ _ _ _
    refine go rfl ⟨_, rfl, ?_⟩
    refine go rfl ⟨_, rfl, ?_⟩
    refine go rfl ⟨_, rfl, ?_⟩
    refine go rfl ?_
    refine go rfl ⟨_, _, _, rfl, ?_⟩
    refine go rfl ⟨_, _, rfl, (vin1), ?_⟩
    refine go rfl ⟨_, _, _, _, rfl, rfl, rfl, rfl, rfl, ⟨_, _, _, _, _, rfl, rfl, h1, h3, h10, fun hc => ?_, fun hc x => ?_⟩⟩
    · refine go rfl ⟨_, rfl, ?_⟩
      refine go rfl ⟨_, rfl, ?_⟩
      refine go rfl ⟨_, rfl, ?_⟩
      refine go rfl ?_
      refine go rfl ⟨_, _, _, rfl, ?_⟩
      refine go rfl ⟨_, _, rfl, (vin1), ?_⟩
      refine go rfl ⟨_, _, _, _, rfl, rfl, rfl, rfl, rfl, ⟨_, _, _, _, _, _, _, _, rfl, rfl, rfl, fun _ x y => ?_, fun hd => absurd hc hd⟩⟩
      refine go rfl ⟨_, _, _, rfl, fun c => ?_, fun c => ?_⟩
      · exact done rfl _
      · exact absurd rfl c
    · refine go rfl ⟨_, rfl, ?_⟩
      refine go rfl ⟨_, rfl, ?_⟩
      refine go rfl ⟨_, rfl, ?_⟩
      refine go rfl ?_
      refine go rfl ⟨_, _, _, rfl, ?_⟩
      refine go rfl ⟨_, _, rfl, (vin1), ?_⟩
      refine go rfl ⟨_, _, _, _, rfl, rfl, rfl, rfl, rfl, ⟨_, _, _, _, _, _, _, _, rfl, rfl, rfl, fun hd => absurd hd hc, fun _ x y => ?_⟩⟩
      refine go rfl ⟨_, _, _, rfl, fun c => ?_, fun c => ?_⟩
      · exact done rfl _
      · exact absurd rfl c
  · show Rr 284 _ _ _ _ _
    refine go rfl ⟨_, rfl, ?_⟩
    refine go rfl ⟨_, rfl, ?_⟩
    refine go rfl ⟨_, rfl, ?_⟩
    refine go rfl ?_
    refine go rfl ⟨_, _, _, rfl, ?_⟩
    refine go rfl ⟨_, _, rfl, (vin1), ?_⟩
    refine go rfl ⟨_, rfl, ?_⟩
    refine go rfl ⟨_, rfl, ?_⟩
    refine go rfl ?_
    refine go rfl ⟨_, _, _, rfl, ?_⟩
    refine go rfl ⟨_, _, rfl, (vin2), ?_⟩
    refine go rfl ⟨_, _, _, _, _, rfl, rfl, rfl, rfl, rfl, ⟨_, _, _, _, _, rfl, rfl, h10, ?_⟩⟩
    refine go rfl ⟨_, rfl, ?_⟩
    refine go rfl ⟨_, rfl, ?_⟩
    refine go rfl ⟨_, rfl, ?_⟩
    refine go rfl ?_
    refine go rfl ⟨_, _, _, rfl, ?_⟩
    refine go rfl ⟨_, _, rfl, (vin1), ?_⟩
    refine go rfl ⟨_, rfl, ?_⟩
    refine go rfl ⟨_, rfl, ?_⟩
    refine go rfl ?_
    refine go rfl ⟨_, _, _, rfl, ?_⟩
    refine go rfl ⟨_, _, rfl, (vin2), ?_⟩
    refine go rfl ⟨_, _, _, _, _, rfl, rfl, rfl, rfl, rfl, ⟨_, _, _, _, _, _, _, _, rfl, rfl, fun x => ?_⟩⟩
    refine go rfl ⟨_, _, _, rfl, fun c => ?_, fun c => ?_⟩
    · exact done rfl _
    · exact absurd rfl c
  · show Rr 317 _ _ _ _ _
    refine go rfl ⟨_, rfl, ?_⟩
    refine go rfl ⟨_, rfl, ?_⟩
    refine go rfl ⟨_, rfl, ?_⟩
    refine go rfl ?_
    refine go rfl ⟨_, _, _, rfl, ?_⟩
    refine go rfl ⟨_, _, rfl, (vin1), ?_⟩
    refine go rfl ⟨_, _, _, _, rfl, rfl, rfl, rfl, rfl, ⟨_, _, _, _, rfl, rfl, h3, h15, h17, h24, fun x => ?_, fun x y => ?_⟩⟩
    · refine go rfl ⟨_, rfl, ?_⟩
      refine go rfl ⟨_, rfl, ?_⟩
      refine go rfl ⟨_, rfl, ?_⟩
      refine go rfl ?_
      refine go rfl ⟨_, _, _, rfl, ?_⟩
      refine go rfl ⟨_, _, rfl, (vin1), ?_⟩
      refine go rfl ⟨_, _, _, _, rfl, rfl, rfl, rfl, rfl, ⟨_, _, _, _, _, _, _, _, rfl, rfl, rfl, fun x y => ?_⟩⟩
      refine go rfl ⟨_, _, _, rfl, fun c => ?_, fun c => ?_⟩
      · exact done rfl _
      · exact absurd rfl c
    · refine go rfl ⟨_, rfl, ?_⟩
      refine go rfl ⟨_, rfl, ?_⟩
      refine go rfl ⟨_, rfl, ?_⟩
      refine go rfl ?_
      refine go rfl ⟨_, _, _, rfl, ?_⟩
      refine go rfl ⟨_, _, rfl, (vin1), ?_⟩
      refine go rfl ⟨_, _, _, _, rfl, rfl, rfl, rfl, rfl, ⟨_, _, _, _, _, _, _, _, rfl, rfl, rfl, fun x y => ?_⟩⟩
      refine go rfl ⟨_, _, _, rfl, fun c => ?_, fun c => ?_⟩
      · exact done rfl _
      · exact absurd rfl c
  · show Rr 340 _ _ _ _ _
    refine go rfl ⟨_, rfl, ?_⟩
    refine go rfl ⟨_, rfl, ?_⟩
    refine go rfl ⟨_, rfl, ?_⟩
    refine go rfl ?_
    refine go rfl ⟨_, _, _, rfl, ?_⟩
    refine go rfl ⟨_, _, rfl, (vin1), ?_⟩
    refine go rfl ⟨_, _, _, _, rfl, rfl, rfl, rfl, rfl, ⟨_, _, rfl, rfl, h15, ?_⟩⟩
    refine go rfl ⟨_, rfl, ?_⟩
    refine go rfl ⟨_, rfl, ?_⟩
    refine go rfl ⟨_, rfl, ?_⟩
    refine go rfl ?_
    refine go rfl ⟨_, _, _, rfl, ?_⟩
    refine go rfl ⟨_, _, rfl, (vin1), ?_⟩
    refine go rfl ⟨_, _, _, _, rfl, rfl, rfl, rfl, rfl, ⟨_, _, _, _, _, _, _, rfl, rfl, fun x => ?_⟩⟩
    refine go rfl ⟨_, _, _, rfl, fun c => ?_, fun c => ?_⟩
    · exact done rfl _
    · exact absurd rfl c
  · show Rr 363 _ _ _ _ _
    refine go rfl ⟨_, rfl, ?_⟩
    refine go rfl ⟨_, rfl, ?_⟩
    refine go rfl ⟨_, rfl, ?_⟩
    refine go rfl ?_
    refine go rfl ⟨_, _, _, rfl, ?_⟩
    refine go rfl ⟨_, _, rfl, (vin1), ?_⟩
    refine go rfl ⟨_, rfl, ?_⟩
    refine go rfl ⟨_, rfl, ?_⟩
    refine go rfl ?_
    refine go rfl ⟨_, _, _, rfl, ?_⟩
    refine go rfl ⟨_, _, rfl, (vin2), ?_⟩
    refine go rfl ⟨_, rfl, ?_⟩
    refine go rfl ⟨_, rfl, ?_⟩
    refine go rfl ?_
    refine go rfl ⟨_, _, _, rfl, ?_⟩
    refine go rfl ⟨_, _, rfl, (vin3), ?_⟩
    refine go rfl ⟨_, rfl, ?_⟩
    refine go rfl ⟨_, rfl, ?_⟩
    refine go rfl ?_
    refine go rfl ⟨_, _, _, rfl, ?_⟩
    refine go rfl ⟨_, _, rfl, (vin4), ?_⟩
    refine go rfl ⟨_, _, _, _, _, _, _, rfl, rfl, rfl, rfl, rfl, ⟨_, _, _, _, rfl, rfl, h3, h29, ?_⟩⟩
    refine go rfl ⟨_, rfl, ?_⟩
    refine go rfl ⟨_, rfl, ?_⟩
    refine go rfl ⟨_, rfl, ?_⟩
    refine go rfl ?_
    refine go rfl ⟨_, _, _, rfl, ?_⟩
    refine go rfl ⟨_, _, rfl, (vin1), ?_⟩
    refine go rfl ⟨_, rfl, ?_⟩
    refine go rfl ⟨_, rfl, ?_⟩
    refine go rfl ?_
    refine go rfl ⟨_, _, _, rfl, ?_⟩
    refine go rfl ⟨_, _, rfl, (vin2), ?_⟩
    refine go rfl ⟨_, rfl, ?_⟩
    refine go rfl ⟨_, rfl, ?_⟩
    refine go rfl ?_
    refine go rfl ⟨_, _, _, rfl, ?_⟩
    refine go rfl ⟨_, _, rfl, (vin3), ?_⟩
    refine go rfl ⟨_, rfl, ?_⟩
    refine go rfl ⟨_, rfl, ?_⟩
    refine go rfl ?_
    refine go rfl ⟨_, _, _, rfl, ?_⟩
    refine go rfl ⟨_, _, rfl, (vin4), ?_⟩
    refine go rfl ⟨_, _, _, _, _, _, _, rfl, rfl, rfl, rfl, rfl, ⟨_, _, _, _, _, _, _, _, _, _, rfl, rfl, fun x => ?_⟩⟩
    refine go rfl ⟨_, _, _, rfl, fun c => ?_, fun c => ?_⟩
    · exact done rfl _
    · exact absurd rfl c
  · show Rr 416 _ _ _ _ _
    refine go rfl ⟨_, rfl, ?_⟩
    refine go rfl ⟨_, rfl, ?_⟩
    refine go rfl ⟨_, rfl, ?_⟩
    refine go rfl ?_
    refine go rfl ⟨_, _, _, rfl, ?_⟩
    refine go rfl ⟨_, _, rfl, (vin1), ?_⟩
    refine go rfl ⟨_, _, rfl, ?_⟩
    refine go rfl ?_
    refine go rfl ⟨_, _, _, rfl, ?_⟩
    refine go rfl ⟨_, rfl, ?_⟩
    refine go rfl ⟨_, rfl, ?_⟩
    refine go rfl ?_
    refine go rfl ⟨_, _, _, rfl, ?_⟩
    refine go rfl ⟨_, _, rfl, (vin2), ?_⟩
    refine go rfl ⟨_, _, rfl, ?_⟩
    refine go rfl ?_
    refine go rfl ⟨_, _, _, rfl, ?_⟩
    refine go rfl ⟨_, _, _, rfl, ?_⟩
    refine go rfl ⟨_, _, _, _, rfl, rfl, rfl, rfl, rfl, ⟨_, _, rfl, rfl, h3, h5, h29, rfl, ?_⟩⟩
    refine go rfl ⟨_, rfl, ?_⟩
    refine go rfl ⟨_, rfl, ?_⟩
    refine go rfl ⟨_, rfl, ?_⟩
    refine go rfl ?_
    refine go rfl ⟨_, _, _, rfl, ?_⟩
    refine go rfl ⟨_, _, rfl, (vin1), ?_⟩
    refine go rfl ⟨_, _, rfl, ?_⟩
    refine go rfl ?_
    refine go rfl ⟨_, _, _, rfl, ?_⟩
    refine go rfl ⟨_, rfl, ?_⟩
    refine go rfl ⟨_, rfl, ?_⟩
    refine go rfl ?_
    refine go rfl ⟨_, _, _, rfl, ?_⟩
    refine go rfl ⟨_, _, rfl, (vin2), ?_⟩
    refine go rfl ⟨_, _, rfl, ?_⟩
    refine go rfl ?_
    refine go rfl ⟨_, _, _, rfl, ?_⟩
    refine go rfl ⟨_, _, _, rfl, ?_⟩
    refine go rfl ⟨_, _, _, _, rfl, rfl, rfl, rfl, rfl, ⟨_, _, _, _, _, _, _, rfl, rfl, fun x => ?_⟩⟩
    refine go rfl ⟨_, _, _, rfl, fun c => ?_, fun c => ?_⟩
    · exact done rfl _
    · exact absurd rfl c
  · show Rr 469 _ _ _ _ _
    refine go rfl ⟨_, rfl, ?_⟩
    refine go rfl ⟨_, rfl, ?_⟩
    refine go rfl ⟨_, rfl, ?_⟩
    refine go rfl ?_
    refine go rfl ⟨_, _, _, rfl, ?_⟩
    refine go rfl ⟨_, _, rfl, (vin1), ?_⟩
    refine go rfl ⟨_, rfl, ?_⟩
    refine go rfl ⟨_, rfl, ?_⟩
    refine go rfl ?_
    refine go rfl ⟨_, _, _, rfl, ?_⟩
    refine go rfl ⟨_, _, rfl, (vin2), ?_⟩
    refine go rfl ⟨_, _, _, _, _, rfl, rfl, rfl, rfl, rfl, ⟨_, _, _, rfl, rfl, h29, h30, fun i j hi hj ei ej => ?_, fun hc => ?_⟩⟩
    · refine go rfl ⟨_, rfl, ?_⟩
      refine go rfl ⟨_, rfl, ?_⟩
      refine go rfl ⟨_, rfl, ?_⟩
      refine go rfl ?_
      refine go rfl ⟨_, _, _, rfl, ?_⟩
      refine go rfl ⟨_, _, rfl, (vin1), ?_⟩
      refine go rfl ⟨_, rfl, ?_⟩
      refine go rfl ⟨_, rfl, ?_⟩
      refine go rfl ?_
      refine go rfl ⟨_, _, _, rfl, ?_⟩
      refine go rfl ⟨_, _, rfl, (vin2), ?_⟩
      refine go rfl ⟨_, _, _, _, _, rfl, rfl, rfl, rfl, rfl, ⟨_, _, _, _, _, _, _, _, _, _, rfl, rfl, rfl, fun i' j' hi' hj' ei' ej' z => ?_, fun hc z => ?_⟩⟩
      · refine go rfl ⟨_, _, _, rfl, fun c => ?_, fun c => ?_⟩
        · exact done rfl _
        · exact absurd rfl c
      · exact absurd (ins_of hi hj ei ej) hc
    · refine go rfl ⟨_, rfl, ?_⟩
      refine go rfl ⟨_, rfl, ?_⟩
      refine go rfl ⟨_, rfl, ?_⟩
      refine go rfl ?_
      refine go rfl ⟨_, _, _, rfl, ?_⟩
      refine go rfl ⟨_, _, rfl, (vin1), ?_⟩
      refine go rfl ⟨_, rfl, ?_⟩
      refine go rfl ⟨_, rfl, ?_⟩
      refine go rfl ?_
      refine go rfl ⟨_, _, _, rfl, ?_⟩
      refine go rfl ⟨_, _, rfl, (vin2), ?_⟩
      refine go rfl ⟨_, _, _, _, _, rfl, rfl, rfl, rfl, rfl, ⟨_, _, _, _, _, _, _, _, _, _, rfl, rfl, rfl, fun i' j' hi' hj' ei' ej' z => absurd (ins_of hi' hj' ei' ej') hc, fun _ z => ?_⟩⟩
      refine go rfl ⟨_, _, _, rfl, fun c => ?_, fun c => ?_⟩
      · exact done rfl _
      · exact absurd rfl c
  · show Rr 502 _ _ _ _ _
    refine go rfl ⟨_, rfl, ?_⟩
    refine go rfl ⟨_, rfl, ?_⟩
    refine go rfl ⟨_, rfl, ?_⟩
    refine go rfl ?_
    refine go rfl ⟨_, _, _, rfl, ?_⟩
    refine go rfl ⟨_, _, rfl, (vin1), ?_⟩
    refine go rfl ⟨_, _, _, _, rfl, rfl, rfl, rfl, rfl, ⟨_, rfl, rfl, h3, h29, ?_⟩⟩
    refine go rfl ⟨_, rfl, ?_⟩
    refine go rfl ⟨_, rfl, ?_⟩
    refine go rfl ⟨_, rfl, ?_⟩
    refine go rfl ?_
    refine go rfl ⟨_, _, _, rfl, ?_⟩
    refine go rfl ⟨_, _, rfl, (vin1), ?_⟩
    refine go rfl ⟨_, _, _, _, rfl, rfl, rfl, rfl, rfl, ⟨_, _, _, _, _, _, _, rfl, rfl, fun x => ?_⟩⟩
    refine go rfl ⟨_, _, _, rfl, fun c => ?_, fun c => ?_⟩
    · exact done rfl _
    · exact absurd rfl c
  · show Rr 525 _ _ _ _ _
    refine go rfl ⟨_, rfl, ?_⟩
    refine go rfl ⟨_, rfl, ?_⟩
    refine go rfl ⟨_, rfl, ?_⟩
    refine go rfl ?_
    refine go rfl ⟨_, _, _, rfl, ?_⟩
    refine go rfl ⟨_, _, rfl, (vin1), ?_⟩
    refine go rfl ⟨_, rfl, ?_⟩
    refine go rfl ⟨_, rfl, ?_⟩
    refine go rfl ?_
    refine go rfl ⟨_, _, _, rfl, ?_⟩
    refine go rfl ⟨_, _, rfl, (vin2), ?_⟩
    refine go rfl ⟨_, _, _, _, _, rfl, rfl, rfl, rfl, rfl, ⟨_, _, rfl, rfl, h3, h29, ?_⟩⟩
    refine go rfl ⟨_, rfl, ?_⟩
    refine go rfl ⟨_, rfl, ?_⟩
    refine go rfl ⟨_, rfl, ?_⟩
    refine go rfl ?_
    refine go rfl ⟨_, _, _, rfl, ?_⟩
    refine go rfl ⟨_, _, rfl, (vin1), ?_⟩
    refine go rfl ⟨_, rfl, ?_⟩
    refine go rfl ⟨_, rfl, ?_⟩
    refine go rfl ?_
    refine go rfl ⟨_, _, _, rfl, ?_⟩
    refine go rfl ⟨_, _, rfl, (vin2), ?_⟩
    refine go rfl ⟨_, _, _, _, _, rfl, rfl, rfl, rfl, rfl, ⟨_, _, _, _, _, _, _, _, rfl, rfl, fun x => ?_⟩⟩
    refine go rfl ⟨_, _, _, rfl, fun c => ?_, fun c => ?_⟩
    · exact done rfl _
    · exact absurd rfl c
  · show Rr 558 _ _ _ _ _
    refine go rfl ⟨_, rfl, ?_⟩
    refine go rfl ⟨_, _, _, rfl, rfl, rfl, rfl, rfl, ⟨_, rfl, rfl, h29, h30, fun f => ?_⟩⟩
    refine go rfl ⟨_, rfl, ?_⟩
    refine go rfl ⟨_, _, _, rfl, rfl, rfl, rfl, rfl, ⟨_, _, _, _, _, _, _, _, rfl, rfl, rfl, fun x y => ?_⟩⟩
    refine go rfl ?_
    exact done rfl _
