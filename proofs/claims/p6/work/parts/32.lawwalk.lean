theorem vinA {L i k : Nat} (h : i + k < L) (hL : L < 2 ^ 31) : vp_in (nI i + nI k) L := by
  rw [nI_add]
  exact vp_in_nI h hL
theorem lgt {L i : Nat} (h : L < i + 5) (hL : L < 2 ^ 30) (hi : i < 2 ^ 30) : nI L - nI 5 < nI i := by
  rw [Int32.lt_iff_toInt_lt, pk_sub_toInt hL (by omega), nI_toInt (by omega)]
  omega
theorem lgn {L i : Nat} (h : i + 5 ≤ L) (hL : L < 2 ^ 30) (hi : i < 2 ^ 30) : ¬ nI L - nI 5 < nI i := by
  rw [Int32.lt_iff_toInt_lt, pk_sub_toInt hL (by omega), nI_toInt (by omega)]
  omega
theorem uc_vl {n : Nat} {u : Int32} (hn : n ≤ 12) (h : ¬ uc n u) : vl u ∧ n < 12 := by
  have h1 : ¬ u < nI 97 := fun q => h (Or.inl q)
  have h2 : ¬ nI 122 < u := fun q => h (Or.inr (Or.inl q))
  have h3 : ¬ nI 12 ≤ nI n := fun q => h (Or.inr (Or.inr q))
  have h4 : n < 12 := by
    rcases Nat.lt_or_ge n 12 with q | q
    · exact q
    · exact absurd (nI_le q (by omega)) h3
  refine ⟨?_, h4⟩
  have h0 : ¬ u < 0 := by
    intro q
    refine h1 ?_
    rw [Int32.lt_iff_toInt_lt] at q ⊢
    rw [nI_toInt (by omega)]
    have : (0 : Int32).toInt = 0 := by decide
    omega
  obtain ⟨a, ha, rfl⟩ := nI_of h0
  refine ⟨a, ?_, ?_, rfl⟩
  · rcases Nat.lt_or_ge a 97 with q | q
    · exact absurd (nI_lt q (by omega)) h1
    · exact q
  · rcases Nat.lt_or_ge 122 a with q | q
    · exact absurd (nI_lt q (by omega)) h2
    · exact q
theorem vl_upd {rn : Nat} {rl : Nat → Int32} {u : Int32} (h : ∀ i, i < rn → vl (rl i)) (hu : vl u) : ∀ i, i < rn + 1 → vl (upd rl rn u i) := by
  intro i hi
  by_cases e : i = rn
  · rw [e, pk_us]
    exact hu
  · rw [pk_un e]
    exact h i (by omega)
theorem least_eq (Q : Nat → Prop) {a b : Nat} (ha : Q a) (h1 : ∀ k, k < a → ¬ Q k) (hb : Q b) (h2 : ∀ k, k < b → ¬ Q k) : a = b := by
  rcases Nat.lt_trichotomy a b with q | q | q
  · exact absurd ha (h2 a q)
  · exact q
  · exact absurd hb (h1 b q)
theorem de_uni {n : Nat} {R : Nat → Nat → Prop} {t d e w k j : Nat} (h1 : de n R t d w = some k) (h2 : de n R t e w = some j) : k = j := by
  rcases Nat.le_total d e with q | q
  · have := de_mono h1 e q
    rw [h2] at this
    exact (Option.some.inj this).symm
  · have := de_mono h2 d q
    rw [h1] at this
    exact Option.some.inj this
set_option maxRecDepth 100000 in
set_option maxHeartbeats 16000000 in
theorem law_loop {L : Nat} {xs : Nat → Int32} (hL : L ≤ 2560) (Rr : mx_K) (go : ∀ {pc : Nat} {o : mx_O} {lv : mx_L} {st : mx_S} {F : mx_F} {ca sl : Nat}, mx_at (t_law L xs) pc = some o → o lv st F ca sl Rr → Rr pc lv st F ca sl) (F0 : mx_F) (hiv : iv F0) : Rr 18 [some (mx_tb 9), some (mx_r 0), some (mx_r 40), some (mx_i (nI 0))] [] F0 43 3337 := by
  have hL31 : L < 2 ^ 31 := by omega
  have loop : ∀ (r i : Nat) (F : mx_F), L ≤ i + r → i ≤ 2560 → iv F → Rr 18 [some (mx_tb 9), some (mx_r 0), some (mx_r 40), some (mx_i (nI i))] [] F 43 3337 := by
    intro r
    induction r with
    | zero =>
      intro i F hi hi2 hF
      refine go rfl ⟨_, rfl, ?_⟩
      refine go rfl ⟨_, rfl, ?_⟩
      refine go rfl ⟨_, rfl, ?_⟩
      refine go rfl ?_
      refine go rfl ⟨_, _, _, rfl, ?_⟩
      refine go rfl ⟨_, _, _, rfl, fun c => ?_, fun c => ?_⟩
      · refine go rfl ?_
        refine go rfl ⟨rfl, rfl, rfl⟩
      · exact absurd (lgt (by omega) (by omega) (by omega)) c
    | succ r ih =>
      intro i F hi hi2 hF
      rcases Nat.lt_or_ge L (i + 5) with hL5 | hL5
      · refine go rfl ⟨_, rfl, ?_⟩
        refine go rfl ⟨_, rfl, ?_⟩
        refine go rfl ⟨_, rfl, ?_⟩
        refine go rfl ?_
        refine go rfl ⟨_, _, _, rfl, ?_⟩
        refine go rfl ⟨_, _, _, rfl, fun c => ?_, fun c => ?_⟩
        · refine go rfl ?_
          refine go rfl ⟨rfl, rfl, rfl⟩
        · exact absurd (lgt hL5 (by omega) (by omega)) c
      refine go rfl ⟨_, rfl, ?_⟩
      refine go rfl ⟨_, rfl, ?_⟩
      refine go rfl ⟨_, rfl, ?_⟩
      refine go rfl ?_
      refine go rfl ⟨_, _, _, rfl, ?_⟩
      refine go rfl ⟨_, _, _, rfl, fun c => ?_, fun c => ?_⟩
      · exact absurd c (lgn hL5 (by omega) (by omega))
      have next : ∀ F' : mx_F, iv F' → Rr 568 [some (mx_tb 9), some (mx_r 0), some (mx_r 40), some (mx_i (nI i))] [] F' 43 3337 := by
        intro F' hF'
        refine go rfl ⟨_, rfl, ?_⟩
        refine go rfl ?_
        rw [nI_add]
        exact ih (i + 5) F' (by omega) (by omega) hF'
      obtain ⟨rn, n, N, ch, S, rl, lt, st, g, rcn, dm, sh, ds, cs, rg, fc, kc, tot, gm, ft, hp, gcs, ka, qn, qm, mlt, ml, th, sp, wy, kd, sdn, la, fa, ca, ga, mcs, lf, ls, li, h0, h1, h2, h3, h4, h5, h6, h7, h8, h9, h10, h11, h12, h13, h14, h15, h16, h17, h18, h29, h30, h40, h41, h42, h43, h44, h45, h46, h47, h48, h49, h50, h51, hq, hrn, hvl, hw, hm, hbD, hbG, hbQ, hcD, hcG, hcQ, hh⟩ := hF
      have hn := hw.1.1
      refine go rfl ⟨_, rfl, ?_⟩
      refine go rfl ⟨_, rfl, ?_⟩
      refine go rfl ⟨_, _, rfl, (vp_in_nI (show i < L by omega) hL31), ?_⟩
      refine go rfl ?_
      refine go rfl ⟨_, _, _, rfl, ?_⟩
      obtain ⟨k, hk, ek⟩ := pk_andE (xs (nI i).toNatClampNeg) (m := nI 15) 4 (by decide)
      rw [ek]
      refine go rfl ⟨k, _, rfl, hk, ?_⟩
      rcases (show k = 0 ∨ k = 1 ∨ k = 2 ∨ k = 3 ∨ k = 4 ∨ k = 5 ∨ k = 6 ∨ k = 7 ∨ k = 8 ∨ k = 9 ∨ k = 10 ∨ k = 11 ∨ k = 12 ∨ k = 13 ∨ k = 14 ∨ k = 15 by omega) with rfl | rfl | rfl | rfl | rfl | rfl | rfl | rfl | rfl | rfl | rfl | rfl | rfl | rfl | rfl | rfl
      · show Rr 112 _ _ _ _ _
        refine go rfl ⟨_, rfl, ?_⟩
        refine go rfl ⟨_, rfl, ?_⟩
        refine go rfl ⟨_, rfl, ?_⟩
        refine go rfl ?_
        refine go rfl ⟨_, _, _, rfl, ?_⟩
        refine go rfl ⟨_, _, rfl, (vinA (show i + 1 < L by omega) hL31), ?_⟩
        refine go rfl ⟨_, _, _, _, rfl, h0, rfl, rfl, rfl, ⟨rn, rl, _, rfl, h0, h1, h2, hrn, fun hc => ?_, fun hc => ?_⟩⟩
        · refine go rfl ⟨_, _, rfl, rfl, ?_⟩
          refine go rfl ⟨_, rfl, ?_⟩
          refine go rfl ⟨_, rfl, ?_⟩
          refine go rfl ⟨_, rfl, ?_⟩
          refine go rfl ?_
          refine go rfl ⟨_, _, _, rfl, ?_⟩
          refine go rfl ⟨_, _, rfl, (vinA (show i + 1 < L by omega) hL31), ?_⟩
          refine go rfl ⟨_, _, _, _, rfl, h40, rfl, rfl, rfl, ⟨_, _, _, _, _, _, rn, rl, _, rfl, h40, h41, hrn, fun _ => ?_, fun hd => absurd hc hd⟩⟩
          refine go rfl ⟨_, _, rfl, rfl, ?_⟩
          refine go rfl ?_
          exact next _ ⟨_, _, _, _, _, _, _, _, _, _, _, _, _, _, _, _, _, _, _, _, _, _, _, _, _, _, _, (nI 0), _, _, _, _, _, _, _, _, _, _, _, _, h0, h1, h2, h3, h4, h5, h6, h7, h8, h9, h10, h11, h12, h13, h14, h15, h16, h17, h18, h29, h30, rfl, h41, h42, h43, h44, h45, h46, h47, h48, h49, h50, h51, (qrw_x (by decide) (hq)), hrn, hvl, hw, hm, hbD, hbG, hbQ, hcD, hcG, hcQ, (hrw_x (by decide) (hh))⟩
        · obtain ⟨hu, hr12⟩ := uc_vl hrn hc
          refine go rfl ⟨_, _, rfl, rfl, ?_⟩
          refine go rfl ⟨_, rfl, ?_⟩
          refine go rfl ⟨_, rfl, ?_⟩
          refine go rfl ⟨_, rfl, ?_⟩
          refine go rfl ?_
          refine go rfl ⟨_, _, _, rfl, ?_⟩
          refine go rfl ⟨_, _, rfl, (vinA (show i + 1 < L by omega) hL31), ?_⟩
          refine go rfl ⟨_, _, _, _, rfl, h40, rfl, rfl, rfl, ⟨_, _, _, _, _, _, rn, rl, _, rfl, h40, h41, hrn, fun hd => absurd hd hc, fun _ => ?_⟩⟩
          refine go rfl ⟨_, _, rfl, rfl, ?_⟩
          refine go rfl ?_
          exact next _ ⟨(rn + 1), _, _, _, _, _, _, _, _, _, _, _, _, _, _, _, _, _, _, _, _, _, _, _, _, _, _, (nI 0), _, _, _, _, _, _, _, _, _, _, _, _, h0, rfl, rfl, h3, h4, h5, h6, h7, h8, h9, h10, h11, h12, h13, h14, h15, h16, h17, h18, h29, h30, rfl, rfl, h42, h43, h44, h45, h46, h47, h48, h49, h50, h51, (qrw_x (by decide) (qrw_x (by decide) (qrw_x (by decide) (qrw_x (by decide) (qrw_x (by decide) (hq)))))), by omega, vl_upd hvl hu, hw, hm, hbD, hbG, hbQ, hcD, hcG, hcQ, (hrw_x (by decide) (hrw_x (by decide) (hrw_x (by decide) (hrw_x (by decide) (hrw_x (by decide) (hh))))))⟩
      · show Rr 135 _ _ _ _ _
        refine go rfl ⟨_, rfl, ?_⟩
        refine go rfl ⟨_, _, _, rfl, h0, rfl, rfl, rfl, ⟨rn, n, S, rl, lt, st, rfl, h0, h1, h2, h3, h4, h5, hrn, hw.1, fun hc => ?_, fun j q1 q2 q3 q4 q5 => ?_, fun q1 q2 q3 q4 => ?_, fun q1 q2 q3 q4 lt' q5 q6 => ?_⟩⟩
        · refine go rfl ⟨_, _, rfl, rfl, ?_⟩
          refine go rfl ⟨_, rfl, ?_⟩
          refine go rfl ⟨_, _, _, rfl, h40, rfl, rfl, rfl, ⟨_, _, _, _, _, rn, n, N, rl, mlt, ml, rfl, h40, h41, h42, h43, hrn, hm.1, fun p0 => ?_, fun j' p1 p2 p3 p4 p5 => ?_, fun p1 p2 p3 p4 => ?_, fun p1 p2 p3 p4 lt2 p5 p6 => ?_⟩⟩
          · refine go rfl ⟨_, _, rfl, rfl, ?_⟩
            refine go rfl ?_
            exact next _ ⟨0, _, _, _, _, _, _, _, _, _, _, _, _, _, _, _, _, _, _, _, _, _, _, _, _, _, _, (nI 0), _, _, _, _, _, _, _, _, _, _, _, _, h0, rfl, h2, h3, h4, h5, h6, h7, h8, h9, h10, h11, h12, h13, h14, h15, h16, h17, h18, h29, h30, rfl, h41, h42, h43, h44, h45, h46, h47, h48, h49, h50, h51, (qrw_x (by decide) (qrw_x (by decide) (hq))), Nat.zero_le _, fun i hi => absurd hi (Nat.not_lt_zero i), hw, hm, hbD, hbG, hbQ, hcD, hcG, hcQ, (hrw_x (by decide) (hrw_x (by decide) (hh)))⟩
          · exfalso
            omega
          · exfalso
            omega
          · exfalso
            omega
        · refine go rfl ⟨_, _, rfl, rfl, ?_⟩
          refine go rfl ⟨_, rfl, ?_⟩
          refine go rfl ⟨_, _, _, rfl, h40, rfl, rfl, rfl, ⟨_, _, _, _, _, rn, n, N, rl, mlt, ml, rfl, h40, h41, h42, h43, hrn, hm.1, fun p0 => ?_, fun j' p1 p2 p3 p4 p5 => ?_, fun p1 p2 p3 p4 => ?_, fun p1 p2 p3 p4 lt2 p5 p6 => ?_⟩⟩
          · exfalso
            omega
          · have ej : j' = j := least_eq (fun k => rsame N ch rl rn k) ((msame_r hm p3).mp p4) (fun k hk h => p5 k hk ((msame_r hm (by omega)).mpr h)) ((wsame_r hw q3).mp q4) (fun k hk h => q5 k hk ((wsame_r hw (by omega)).mpr h))
            subst ej
            refine go rfl ⟨_, _, rfl, rfl, ?_⟩
            refine go rfl ?_
            exact next _ ⟨0, _, _, _, _, _, _, _, _, _, _, _, _, _, _, _, _, _, _, _, _, _, _, _, _, _, _, (nI 0), _, _, _, _, _, _, _, _, _, _, _, _, h0, rfl, h2, h3, h4, h5, h6, h7, h8, h9, h10, h11, h12, h13, h14, h15, h16, h17, h18, h29, h30, rfl, h41, h42, h43, h44, h45, h46, h47, h48, h49, h50, h51, (qrw_x (by decide) (qrw_x (by decide) (hq))), Nat.zero_le _, fun i hi => absurd hi (Nat.not_lt_zero i), hw, hm, hbD, hbG, hbQ, hcD, hcG, hcQ, (hrw_x (by decide) (hrw_x (by decide) (hh)))⟩
          · exact absurd ((msame_r hm q3).mpr ((wsame_r hw q3).mp q4)) (p3 j q3)
          · exact absurd ((msame_r hm q3).mpr ((wsame_r hw q3).mp q4)) (p3 j q3)
        · refine go rfl ⟨_, _, rfl, rfl, ?_⟩
          refine go rfl ⟨_, rfl, ?_⟩
          refine go rfl ⟨_, _, _, rfl, h40, rfl, rfl, rfl, ⟨_, _, _, _, _, rn, n, N, rl, mlt, ml, rfl, h40, h41, h42, h43, hrn, hm.1, fun p0 => ?_, fun j' p1 p2 p3 p4 p5 => ?_, fun p1 p2 p3 p4 => ?_, fun p1 p2 p3 p4 lt2 p5 p6 => ?_⟩⟩
          · exfalso
            omega
          · exact absurd ((wsame_r hw p3).mpr ((msame_r hm p3).mp p4)) (q3 j' p3)
          · refine go rfl ⟨_, _, rfl, rfl, ?_⟩
            refine go rfl ?_
            exact next _ ⟨0, _, _, _, _, _, _, _, _, _, _, _, _, _, _, _, _, _, _, _, _, _, _, _, _, _, _, (nI 0), _, _, _, _, _, _, _, _, _, _, _, _, h0, rfl, h2, h3, h4, h5, h6, h7, h8, h9, h10, h11, h12, h13, h14, h15, h16, h17, h18, h29, h30, rfl, h41, h42, h43, h44, h45, h46, h47, h48, h49, h50, h51, (qrw_x (by decide) (qrw_x (by decide) (hq))), Nat.zero_le _, fun i hi => absurd hi (Nat.not_lt_zero i), hw, hm, hbD, hbG, hbQ, hcD, hcG, hcQ, (hrw_x (by decide) (hrw_x (by decide) (hh)))⟩
          · exfalso
            omega
        · refine go rfl ⟨_, _, rfl, rfl, ?_⟩
          refine go rfl ⟨_, rfl, ?_⟩
          refine go rfl ⟨_, _, _, rfl, h40, rfl, rfl, rfl, ⟨_, _, _, _, _, rn, n, N, rl, mlt, ml, rfl, h40, h41, h42, h43, hrn, hm.1, fun p0 => ?_, fun j' p1 p2 p3 p4 p5 => ?_, fun p1 p2 p3 p4 => ?_, fun p1 p2 p3 p4 lt2 p5 p6 => ?_⟩⟩
          · exfalso
            omega
          · exact absurd ((wsame_r hw p3).mpr ((msame_r hm p3).mp p4)) (q3 j' p3)
          · exfalso
            omega
          · refine go rfl ⟨_, _, rfl, rfl, ?_⟩
            refine go rfl ?_
            exact next _ ⟨0, (n + 1), (pu N n rn), (cu ch n rl), (pu S (n + 1) (S n + rn)), _, lt', _, _, _, _, _, _, _, _, _, _, _, _, _, _, _, _, _, _, lt2, _, (nI 0), (-1), _, 0, 0, _, _, _, _, _, _, _, _, h0, rfl, h2, rfl, rfl, rfl, h6, h7, h8, h9, h10, h11, h12, h13, h14, h15, h16, h17, h18, h29, h30, rfl, h41, rfl, rfl, h44, h45, h46, h47, h48, h49, h50, h51, (qrw_x (by decide) (qrw_x (by decide) (qrw_x (by decide) (qrw_x (by decide) (qrw_x (by decide) (qrw_x (by decide) (qrw_x (by decide) (hq)))))))), Nat.zero_le _, fun i hi => absurd hi (Nat.not_lt_zero i), wst_new hw q4 q1 q2 hvl q5 q6, mst_new hm q4 q1 q2 hvl p5 p6, ⟨hbD.1, by omega⟩, ⟨hbG.1, hbG.2.1, by omega, Nat.zero_le _⟩, ⟨hbQ.1, by omega, Nat.zero_le _⟩, Or.inl ⟨rfl, Or.inr (by omega)⟩, Or.inl ⟨rfl, Or.inr (by omega)⟩, Or.inl ⟨rfl, Or.inr (by omega)⟩, (hrw_x (by decide) (hrw_x (by decide) (hrw_x (by decide) (hrw_x (by decide) (hrw_x (by decide) (hrw_x (by decide) (hrw_x (by decide) (hrw_new hh))))))))⟩
      · show Rr 148 _ _ _ _ _
        refine go rfl ⟨_, rfl, ?_⟩
        refine go rfl ⟨_, rfl, ?_⟩
        refine go rfl ⟨_, rfl, ?_⟩
        refine go rfl ?_
        refine go rfl ⟨_, _, _, rfl, ?_⟩
        refine go rfl ⟨_, _, rfl, (vinA (show i + 1 < L by omega) hL31), ?_⟩
        refine go rfl ⟨_, rfl, ?_⟩
        refine go rfl ⟨_, rfl, ?_⟩
        refine go rfl ?_
        refine go rfl ⟨_, _, _, rfl, ?_⟩
        refine go rfl ⟨_, _, rfl, (vinA (show i + 2 < L by omega) hL31), ?_⟩
        refine go rfl ⟨_, _, _, _, _, rfl, h0, rfl, rfl, rfl, ⟨n, S, st, lt, _, _, rfl, h0, h3, h4, h5, hw.1, fun j k q1 q2 q3 q4 => ?_, fun d => ?_⟩⟩
        · have hS := hw.2.2.1 j q1
          have hN6 := hw.2.1.2.1 j q1
          refine go rfl ⟨_, _, rfl, rfl, ?_⟩
          refine go rfl ⟨_, rfl, ?_⟩
          refine go rfl ⟨_, rfl, ?_⟩
          refine go rfl ⟨_, rfl, ?_⟩
          refine go rfl ?_
          refine go rfl ⟨_, _, _, rfl, ?_⟩
          refine go rfl ⟨_, _, rfl, (vinA (show i + 1 < L by omega) hL31), ?_⟩
          refine go rfl ⟨_, rfl, ?_⟩
          refine go rfl ⟨_, rfl, ?_⟩
          refine go rfl ?_
          refine go rfl ⟨_, _, _, rfl, ?_⟩
          refine go rfl ⟨_, _, rfl, (vinA (show i + 2 < L by omega) hL31), ?_⟩
          refine go rfl ⟨_, _, _, _, _, rfl, h40, rfl, rfl, rfl, ⟨_, _, _, _, _, _, n, N, mlt, ml, _, _, rfl, h40, h42, h43, hm.1, fun j' k' p1 p2 p3 p4 => ?_, fun d => ?_⟩⟩
          · have e1 := (nI_eq (by omega) (by omega)).mp (q3.symm.trans p3)
            subst e1
            have e2 := (nI_eq (by omega) (by omega)).mp (q4.symm.trans p4)
            subst e2
            refine go rfl ⟨_, _, rfl, rfl, ?_⟩
            refine go rfl ?_
            exact next _ ⟨_, _, _, _, _, _, _, _, _, _, _, _, _, _, _, _, _, _, _, _, _, _, _, _, _, _, _, (nI 0), _, _, _, _, _, _, _, _, _, _, _, _, h0, h1, h2, h3, h4, h5, h6, h7, h8, h9, h10, h11, h12, h13, h14, h15, h16, h17, h18, h29, h30, rfl, h41, h42, h43, h44, h45, h46, h47, h48, h49, h50, h51, (qrw_x (by decide) (hq)), hrn, hvl, hw, hm, hbD, hbG, hbQ, hcD, hcG, hcQ, (hrw_x (by decide) (hh))⟩
          · exact absurd ⟨j, k, q1, by omega, q3, q4⟩ d
        · refine go rfl ⟨_, _, rfl, rfl, ?_⟩
          refine go rfl ⟨_, rfl, ?_⟩
          refine go rfl ⟨_, rfl, ?_⟩
          refine go rfl ⟨_, rfl, ?_⟩
          refine go rfl ?_
          refine go rfl ⟨_, _, _, rfl, ?_⟩
          refine go rfl ⟨_, _, rfl, (vinA (show i + 1 < L by omega) hL31), ?_⟩
          refine go rfl ⟨_, rfl, ?_⟩
          refine go rfl ⟨_, rfl, ?_⟩
          refine go rfl ?_
          refine go rfl ⟨_, _, _, rfl, ?_⟩
          refine go rfl ⟨_, _, rfl, (vinA (show i + 2 < L by omega) hL31), ?_⟩
          refine go rfl ⟨_, _, _, _, _, rfl, h40, rfl, rfl, rfl, ⟨_, _, _, _, _, _, n, N, mlt, ml, _, _, rfl, h40, h42, h43, hm.1, fun j' k' p1 p2 p3 p4 => ?_, fun d2 => ?_⟩⟩
          · have hS := hw.2.2.1 j' p1
            exact absurd ⟨j', k', p1, by omega, p3, p4⟩ d
          · refine go rfl ⟨_, _, rfl, rfl, ?_⟩
            refine go rfl ?_
            exact next _ ⟨_, _, _, _, _, _, _, _, _, _, _, _, _, _, _, _, _, _, _, _, _, _, _, _, _, _, _, (nI 0), _, _, _, _, _, _, _, _, _, _, _, _, h0, h1, h2, h3, h4, h5, h6, h7, h8, h9, h10, h11, h12, h13, h14, h15, h16, h17, h18, h29, h30, rfl, h41, h42, h43, h44, h45, h46, h47, h48, h49, h50, h51, (qrw_x (by decide) (hq)), hrn, hvl, hw, hm, hbD, hbG, hbQ, hcD, hcG, hcQ, (hrw_x (by decide) (hh))⟩
      · show Rr 181 _ _ _ _ _
        refine go rfl ⟨_, rfl, ?_⟩
        refine go rfl ⟨_, rfl, ?_⟩
        refine go rfl ⟨_, rfl, ?_⟩
        refine go rfl ?_
        refine go rfl ⟨_, _, _, rfl, ?_⟩
        refine go rfl ⟨_, _, rfl, (vinA (show i + 1 < L by omega) hL31), ?_⟩
        refine go rfl ⟨_, rfl, ?_⟩
        refine go rfl ⟨_, rfl, ?_⟩
        refine go rfl ?_
        refine go rfl ⟨_, _, _, rfl, ?_⟩
        refine go rfl ⟨_, _, rfl, (vinA (show i + 2 < L by omega) hL31), ?_⟩
        refine go rfl ⟨_, rfl, ?_⟩
        refine go rfl ⟨_, rfl, ?_⟩
        refine go rfl ?_
        refine go rfl ⟨_, _, _, rfl, ?_⟩
        refine go rfl ⟨_, _, rfl, (vinA (show i + 3 < L by omega) hL31), ?_⟩
        refine go rfl ⟨_, _, _, _, _, _, rfl, h0, rfl, rfl, rfl, ⟨n, N, ch, S, lt, st, _, _, _, ds, rg, cs, _, _, _, rfl, h0, h3, h4, h5, hw, h6, h7, h8, h9, fun c => ?_, fun a t kk q1 q2 q3 q4 q5 q6 => ⟨fun c ds' cs' => ?_, fun D c ds' cs' rg' sh' c2 => ?_⟩⟩⟩
        · refine go rfl ⟨_, _, rfl, rfl, ?_⟩
          refine go rfl ⟨_, rfl, ?_⟩
          refine go rfl ⟨_, rfl, ?_⟩
          refine go rfl ⟨_, rfl, ?_⟩
          refine go rfl ?_
          refine go rfl ⟨_, _, _, rfl, ?_⟩
          refine go rfl ⟨_, _, rfl, (vinA (show i + 1 < L by omega) hL31), ?_⟩
          refine go rfl ⟨_, rfl, ?_⟩
          refine go rfl ⟨_, rfl, ?_⟩
          refine go rfl ?_
          refine go rfl ⟨_, _, _, rfl, ?_⟩
          refine go rfl ⟨_, _, rfl, (vinA (show i + 2 < L by omega) hL31), ?_⟩
          refine go rfl ⟨_, rfl, ?_⟩
          refine go rfl ⟨_, rfl, ?_⟩
          refine go rfl ?_
          refine go rfl ⟨_, _, _, rfl, ?_⟩
          refine go rfl ⟨_, _, rfl, (vinA (show i + 3 < L by omega) hL31), ?_⟩
          refine go rfl ⟨_, _, _, _, _, _, rfl, h40, rfl, rfl, rfl, ⟨_, _, _, _, _, _, n, N, ch, mlt, ml, la, fa, ca, _, _, _, rfl, h42, h43, h40, h44, h45, h46, hm, fun d => ?_, fun a' t' kk' p1 p2 p3 p4 p5 p6 => ⟨fun d fa' ca' => ?_, fun D' d la' fa' ca' wy' d2 => ?_⟩⟩⟩
          · refine go rfl ⟨_, _, rfl, rfl, ?_⟩
            refine go rfl ?_
            exact next _ ⟨_, _, _, _, _, _, _, _, _, 0, _, 0, _, _, _, _, _, _, _, _, _, _, _, _, _, _, _, (nI 0), (-1), _, _, _, _, _, _, _, _, _, _, _, h0, h1, h2, h3, h4, h5, rfl, h7, h8, h9, h10, h11, h12, h13, h14, h15, h16, h17, h18, h29, h30, rfl, h41, h42, h43, h44, h45, h46, h47, h48, h49, h50, h51, (qrw_x (by decide) (qrw_x (by decide) (hq))), hrn, hvl, hw, hm, ⟨Nat.zero_le _, hbD.2⟩, hbG, hbQ, Or.inl ⟨rfl, Or.inl rfl⟩, hcG, hcQ, (hrw_x (by decide) (hrw_x (by decide) (hh)))⟩
          · exact absurd ⟨a', t', kk', p1, p2, p3, p4, p5, p6⟩ c
          · exact absurd ⟨a', t', kk', p1, p2, p3, p4, p5, p6⟩ c
        · refine go rfl ⟨_, _, rfl, rfl, ?_⟩
          refine go rfl ⟨_, rfl, ?_⟩
          refine go rfl ⟨_, rfl, ?_⟩
          refine go rfl ⟨_, rfl, ?_⟩
          refine go rfl ?_
          refine go rfl ⟨_, _, _, rfl, ?_⟩
          refine go rfl ⟨_, _, rfl, (vinA (show i + 1 < L by omega) hL31), ?_⟩
          refine go rfl ⟨_, rfl, ?_⟩
          refine go rfl ⟨_, rfl, ?_⟩
          refine go rfl ?_
          refine go rfl ⟨_, _, _, rfl, ?_⟩
          refine go rfl ⟨_, _, rfl, (vinA (show i + 2 < L by omega) hL31), ?_⟩
          refine go rfl ⟨_, rfl, ?_⟩
          refine go rfl ⟨_, rfl, ?_⟩
          refine go rfl ?_
          refine go rfl ⟨_, _, _, rfl, ?_⟩
          refine go rfl ⟨_, _, rfl, (vinA (show i + 3 < L by omega) hL31), ?_⟩
          refine go rfl ⟨_, _, _, _, _, _, rfl, h40, rfl, rfl, rfl, ⟨_, _, _, _, _, _, n, N, ch, mlt, ml, la, fa, ca, _, _, _, rfl, h42, h43, h40, h44, h45, h46, hm, fun d => ?_, fun a' t' kk' p1 p2 p3 p4 p5 p6 => ⟨fun d fa' ca' => ?_, fun D' d la' fa' ca' wy' d2 => ?_⟩⟩⟩
          · exact absurd ⟨a, t, kk, q1, q2, q3, q4, q5, q6⟩ d
          · refine go rfl ⟨_, _, rfl, rfl, ?_⟩
            refine go rfl ?_
            exact next _ ⟨_, _, _, _, _, _, _, _, _, 0, _, 0, ds', cs', _, _, _, _, _, _, _, _, _, _, _, _, _, (nI 0), (-1), _, _, _, _, fa', ca', _, _, _, _, _, h0, h1, h2, h3, h4, h5, rfl, rfl, rfl, h9, h10, h11, h12, h13, h14, h15, h16, h17, h18, h29, h30, rfl, h41, h42, h43, h44, rfl, rfl, h47, h48, h49, h50, h51, (qrw_x (by decide) (qrw_x (by decide) (qrw_x (by decide) (qrw_x (by decide) (qrw_x (by decide) (qrw_x (by decide) (hq))))))), hrn, hvl, hw, hm, ⟨Nat.zero_le _, hbD.2⟩, hbG, hbQ, Or.inl ⟨rfl, Or.inl rfl⟩, hcG, hcQ, (hrw_x (by decide) (hrw_x (by decide) (hrw_x (by decide) (hrw_x (by decide) (hrw_x (by decide) (hrw_x (by decide) (hh)))))))⟩
          · have e1 := (nI_eq (by omega) (by omega)).mp (q4.symm.trans p4)
            subst e1
            have e2 := (nI_eq (by omega) (by omega)).mp (q5.symm.trans p5)
            subst e2
            have e3 := (nI_eq (by omega) (by omega)).mp (q6.symm.trans p6)
            subst e3
            rw [c D'] at d
            cases d
        · have hDn := de_lt q1 c
          refine go rfl ⟨_, _, rfl, rfl, ?_⟩
          refine go rfl ⟨_, rfl, ?_⟩
          refine go rfl ⟨_, rfl, ?_⟩
          refine go rfl ⟨_, rfl, ?_⟩
          refine go rfl ?_
          refine go rfl ⟨_, _, _, rfl, ?_⟩
          refine go rfl ⟨_, _, rfl, (vinA (show i + 1 < L by omega) hL31), ?_⟩
          refine go rfl ⟨_, rfl, ?_⟩
          refine go rfl ⟨_, rfl, ?_⟩
          refine go rfl ?_
          refine go rfl ⟨_, _, _, rfl, ?_⟩
          refine go rfl ⟨_, _, rfl, (vinA (show i + 2 < L by omega) hL31), ?_⟩
          refine go rfl ⟨_, rfl, ?_⟩
          refine go rfl ⟨_, rfl, ?_⟩
          refine go rfl ?_
          refine go rfl ⟨_, _, _, rfl, ?_⟩
          refine go rfl ⟨_, _, rfl, (vinA (show i + 3 < L by omega) hL31), ?_⟩
          refine go rfl ⟨_, _, _, _, _, _, rfl, h40, rfl, rfl, rfl, ⟨_, _, _, _, _, _, n, N, ch, mlt, ml, la, fa, ca, _, _, _, rfl, h42, h43, h40, h44, h45, h46, hm, fun d => ?_, fun a' t' kk' p1 p2 p3 p4 p5 p6 => ⟨fun d fa' ca' => ?_, fun D' d la' fa' ca' wy' d2 => ?_⟩⟩⟩
          · exact absurd ⟨a, t, kk, q1, q2, q3, q4, q5, q6⟩ d
          · have e1 := (nI_eq (by omega) (by omega)).mp (q4.symm.trans p4)
            subst e1
            have e2 := (nI_eq (by omega) (by omega)).mp (q5.symm.trans p5)
            subst e2
            have e3 := (nI_eq (by omega) (by omega)).mp (q6.symm.trans p6)
            subst e3
            rw [d D] at c
            cases c
          · have e1 := (nI_eq (by omega) (by omega)).mp (q4.symm.trans p4)
            subst e1
            have e2 := (nI_eq (by omega) (by omega)).mp (q5.symm.trans p5)
            subst e2
            have e3 := (nI_eq (by omega) (by omega)).mp (q6.symm.trans p6)
            subst e3
            have e4 := de_uni c d
            subst e4
            refine go rfl ⟨_, _, rfl, rfl, ?_⟩
            refine go rfl ?_
            exact next _ ⟨_, _, _, _, _, _, _, _, _, (D + 1), n, sh', ds', cs', rg', _, _, _, _, _, _, _, _, _, _, _, _, (nI 0), (nI D), wy', _, _, la', fa', ca', _, _, _, _, _, h0, h1, h2, h3, h4, h5, rfl, rfl, rfl, rfl, h10, h11, h12, h13, h14, h15, h16, h17, h18, h29, h30, rfl, h41, h42, h43, rfl, rfl, rfl, h47, h48, h49, h50, h51, (qrw_x (by decide) (qrw_x (by decide) (qrw_x (by decide) (qrw_x (by decide) (qrw_x (by decide) (qrw_x (by decide) (qrw_x (by decide) (qrw_x (by decide) (hq))))))))), hrn, hvl, hw, hm, ⟨by omega, Nat.le_refl _⟩, hbG, hbQ, Or.inr ⟨D, by omega, rfl, rfl, rfl, fun k hk => by rw [c2 k hk, d2 k hk]⟩, hcG, hcQ, (hrw_x (by decide) (hrw_x (by decide) (hrw_x (by decide) (hrw_x (by decide) (hrw_x (by decide) (hrw_x (by decide) (hrw_x (by decide) (hrw_x (by decide) (hh)))))))))⟩
      · show Rr 224 _ _ _ _ _
        have hsp : sp = -1 ∨ ∃ D, D < 60 ∧ sp = nI D := hcD.elim (fun h => Or.inl h.1) (fun ⟨D, h1, h2, _⟩ => Or.inr ⟨D, h1, h2⟩)
        refine go rfl ⟨_, rfl, ?_⟩
        refine go rfl ⟨_, rfl, ?_⟩
        refine go rfl ⟨_, rfl, ?_⟩
        refine go rfl ?_
        refine go rfl ⟨_, _, _, rfl, ?_⟩
        refine go rfl ⟨_, _, rfl, (vinA (show i + 1 < L by omega) hL31), ?_⟩
        refine go rfl ⟨_, _, _, _, rfl, h0, rfl, rfl, rfl, ⟨n, rcn, dm, sh, rg, _, rfl, h0, h3, h6, h9, hw.1.1, hbD.2, hbD.1, fun k q1 q2 q3 => ?_, fun d => ?_⟩⟩
        · refine go rfl ⟨_, rfl, ?_⟩
          refine go rfl ⟨_, rfl, ?_⟩
          refine go rfl ⟨_, rfl, ?_⟩
          refine go rfl ?_
          refine go rfl ⟨_, _, _, rfl, ?_⟩
          refine go rfl ⟨_, _, rfl, (vinA (show i + 1 < L by omega) hL31), ?_⟩
          refine go rfl ⟨_, _, _, _, rfl, h40, rfl, rfl, rfl, ⟨_, _, _, _, _, _, _, la, _, rfl, h44, h40, hsp, fun D' k' p1 p2 p3 p4 => ?_, fun d => ?_⟩⟩
          · rcases hcD with ⟨e1, e2⟩ | ⟨D, e1, e2, e3, e4, e5⟩
            · exact absurd (p2.symm.trans e1) (nI_m1 (by omega))
            have e6 := (nI_eq (by omega) (by omega)).mp (p2.symm.trans e2)
            subst e6
            have e7 := (nI_eq (by omega) (by omega)).mp (q3.symm.trans p4)
            subst e7
            refine go rfl ⟨_, _, _, rfl, fun cc => ?_, fun cc => ?_⟩
            · exact next _ ⟨_, _, _, _, _, _, _, _, _, _, _, _, _, _, _, _, _, _, _, _, _, _, _, _, _, _, _, (nI 0), _, _, _, _, _, _, _, _, _, _, _, _, h0, h1, h2, h3, h4, h5, h6, h7, h8, h9, h10, h11, h12, h13, h14, h15, h16, h17, h18, h29, h30, rfl, h41, h42, h43, h44, h45, h46, h47, h48, h49, h50, h51, (qrw_x (by decide) (hq)), hrn, hvl, hw, hm, hbD, hbG, hbQ, Or.inr ⟨D', e1, e2, e3, e4, e5⟩, hcG, hcQ, (hrw_x (by decide) (hh))⟩
            · exact absurd (e5 k p3) cc
          · exfalso
            rcases hcD with ⟨e1, e2⟩ | ⟨D, e1, e2, e3, e4, e5⟩
            · omega
            · exact d ⟨D, k, e1, e2, by omega, q3⟩
        · refine go rfl ⟨_, rfl, ?_⟩
          refine go rfl ⟨_, rfl, ?_⟩
          refine go rfl ⟨_, rfl, ?_⟩
          refine go rfl ?_
          refine go rfl ⟨_, _, _, rfl, ?_⟩
          refine go rfl ⟨_, _, rfl, (vinA (show i + 1 < L by omega) hL31), ?_⟩
          refine go rfl ⟨_, _, _, _, rfl, h40, rfl, rfl, rfl, ⟨_, _, _, _, _, _, _, la, _, rfl, h44, h40, hsp, fun D' k' p1 p2 p3 p4 => ?_, fun d2 => ?_⟩⟩
          · exfalso
            rcases hcD with ⟨e1, e2⟩ | ⟨D, e1, e2, e3, e4, e5⟩
            · exact absurd (p2.symm.trans e1) (nI_m1 (by omega))
            have e6 := (nI_eq (by omega) (by omega)).mp (p2.symm.trans e2)
            exact d ⟨k', by omega, e4, p4⟩
          · refine go rfl ⟨_, _, _, rfl, fun cc => ?_, fun cc => ?_⟩
            · exact next _ ⟨_, _, _, _, _, _, _, _, _, _, _, _, _, _, _, _, _, _, _, _, _, _, _, _, _, _, _, (nI 0), _, _, _, _, _, _, _, _, _, _, _, _, h0, h1, h2, h3, h4, h5, h6, h7, h8, h9, h10, h11, h12, h13, h14, h15, h16, h17, h18, h29, h30, rfl, h41, h42, h43, h44, h45, h46, h47, h48, h49, h50, h51, (qrw_x (by decide) (hq)), hrn, hvl, hw, hm, hbD, hbG, hbQ, hcD, hcG, hcQ, (hrw_x (by decide) (hh))⟩
            · exact absurd (rfl) cc
      · show Rr 247 _ _ _ _ _
        refine go rfl ⟨_, rfl, ?_⟩
        refine go rfl ⟨_, _, _, rfl, h0, rfl, rfl, rfl, ⟨_, _, _, rfl, h0, h6, ?_⟩⟩
        refine go rfl ⟨_, _, rfl, rfl, ?_⟩
        refine go rfl ⟨_, rfl, ?_⟩
        refine go rfl ⟨_, _, _, rfl, h40, rfl, rfl, rfl, ⟨_, _, _, _, _, _, _, rfl, h40, fun v => ?_⟩⟩
        refine go rfl ⟨_, _, rfl, rfl, ?_⟩
        refine go rfl ?_
        exact next _ ⟨_, _, _, _, _, _, _, _, _, _, _, _, _, _, _, _, _, _, _, _, _, _, _, _, _, _, _, (nI 0), _, _, _, _, _, _, _, _, _, _, _, _, h0, h1, h2, h3, h4, h5, h6, h7, h8, h9, h10, h11, h12, h13, h14, h15, h16, h17, h18, h29, h30, rfl, h41, h42, h43, h44, h45, h46, h47, h48, h49, h50, h51, (qrw_x (by decide) (hq)), hrn, hvl, hw, hm, hbD, hbG, hbQ, hcD, hcG, hcQ, (hrw_x (by decide) (hh))⟩
      · show Rr 260 _ _ _ _ _
        refine go rfl ⟨_, rfl, ?_⟩
        refine go rfl ⟨_, rfl, ?_⟩
        refine go rfl ⟨_, rfl, ?_⟩
        refine go rfl ?_
        refine go rfl ⟨_, _, _, rfl, ?_⟩
        refine go rfl ⟨_, _, rfl, (vinA (show i + 1 < L by omega) hL31), ?_⟩
        refine go rfl ⟨_, _, _, _, rfl, h0, rfl, rfl, rfl, ⟨n, N, ch, S, lt, st, rn, rl, fc, kc, tot, _, ft, gcs, ka, hp, _, rfl, h0, h1, h2, hrn, hvl, h3, h4, h5, hw, h10, h11, h12, h13, h14, hbG.1, hbG.2.1, fun d => ?_, fun mo fc' kc' tot' ft' hp' cs' ka' q1 q2 q3 q4 q5 => ?_⟩⟩
        · refine go rfl ⟨_, _, rfl, rfl, ?_⟩
          refine go rfl ⟨_, rfl, ?_⟩
          refine go rfl ⟨_, rfl, ?_⟩
          refine go rfl ⟨_, rfl, ?_⟩
          refine go rfl ?_
          refine go rfl ⟨_, _, _, rfl, ?_⟩
          refine go rfl ⟨_, _, rfl, (vinA (show i + 1 < L by omega) hL31), ?_⟩
          refine go rfl ⟨_, _, _, _, rfl, h40, rfl, rfl, rfl, ⟨_, _, _, _, _, n, N, ch, mlt, ml, rn, rl, ga, mcs, lf, _, rfl, h41, h42, h43, h40, h47, h48, h49, hrn, hvl, hm, fun d2 => ?_, fun mo' p1 p2 p3 kc2 ga' cs2 lf' tot2 p4 => ?_⟩⟩
          · refine go rfl ⟨_, _, rfl, rfl, ?_⟩
            refine go rfl ?_
            exact next _ ⟨_, _, _, _, _, _, _, _, _, _, _, _, _, _, _, _, _, _, _, _, _, _, _, _, _, _, _, (nI 0), _, _, _, _, _, _, _, _, _, _, _, _, h0, h1, h2, h3, h4, h5, h6, h7, h8, h9, h10, h11, h12, h13, h14, h15, h16, h17, h18, h29, h30, rfl, h41, h42, h43, h44, h45, h46, h47, h48, h49, h50, h51, (qrw_x (by decide) (hq)), hrn, hvl, hw, hm, hbD, hbG, hbQ, hcD, hcG, hcQ, (hrw_x (by decide) (hh))⟩
          · exact absurd ⟨mo', p1, p2, p3⟩ d
        · refine go rfl ⟨_, _, rfl, rfl, ?_⟩
          refine go rfl ⟨_, rfl, ?_⟩
          refine go rfl ⟨_, rfl, ?_⟩
          refine go rfl ⟨_, rfl, ?_⟩
          refine go rfl ?_
          refine go rfl ⟨_, _, _, rfl, ?_⟩
          refine go rfl ⟨_, _, rfl, (vinA (show i + 1 < L by omega) hL31), ?_⟩
          refine go rfl ⟨_, _, _, _, rfl, h40, rfl, rfl, rfl, ⟨_, _, _, _, _, n, N, ch, mlt, ml, rn, rl, ga, mcs, lf, _, rfl, h41, h42, h43, h40, h47, h48, h49, hrn, hvl, hm, fun d => ?_, fun mo' p1 p2 p3 kc2 ga' cs2 lf' tot2 p4 => ?_⟩⟩
          · exact absurd ⟨mo, q1, q2, q3⟩ d
          · have e1 := (nI_eq (by omega) (by omega)).mp (q3.symm.trans p3)
            subst e1
            have e2 := ks_two q5 p4
            refine go rfl ⟨_, _, rfl, rfl, ?_⟩
            refine go rfl ?_
            exact next _ ⟨_, _, _, _, _, _, _, _, _, _, _, _, _, _, _, fc', kc', tot', n, ft', hp', cs', ka', _, _, _, _, (nI 0), _, _, kc2, _, _, _, _, ga', cs2, lf', _, _, h0, h1, h2, h3, h4, h5, h6, h7, h8, h9, rfl, rfl, rfl, rfl, rfl, h15, h16, h17, h18, h29, h30, rfl, h41, h42, h43, h44, h45, h46, rfl, rfl, rfl, h50, h51, (qrw_x (by decide) (qrw_x (by decide) (qrw_x (by decide) (qrw_x (by decide) (qrw_x (by decide) (qrw_x (by decide) (qrw_x (by decide) (qrw_x (by decide) (qrw_x (by decide) (hq)))))))))), hrn, hvl, hw, hm, hbD, ⟨q4, ks_le q5, Nat.le_refl _, ks_le p4⟩, hbQ, hcD, Or.inr ⟨e2.2.1, rfl, e2.2.2⟩, hcQ, (hrw_x (by decide) (hrw_x (by decide) (hrw_x (by decide) (hrw_x (by decide) (hrw_x (by decide) (hrw_x (by decide) (hrw_x (by decide) (hrw_x (by decide) (hrw_x (by decide) (hh))))))))))⟩
      · show Rr 283 _ _ _ _ _
        refine go rfl ⟨_, rfl, ?_⟩
        refine go rfl ⟨_, rfl, ?_⟩
        refine go rfl ⟨_, rfl, ?_⟩
        refine go rfl ?_
        refine go rfl ⟨_, _, _, rfl, ?_⟩
        refine go rfl ⟨_, _, rfl, (vinA (show i + 1 < L by omega) hL31), ?_⟩
        refine go rfl ⟨_, rfl, ?_⟩
        refine go rfl ⟨_, rfl, ?_⟩
        refine go rfl ?_
        refine go rfl ⟨_, _, _, rfl, ?_⟩
        refine go rfl ⟨_, _, rfl, (vinA (show i + 2 < L by omega) hL31), ?_⟩
        refine go rfl ⟨_, _, _, _, _, rfl, h0, rfl, rfl, rfl, ⟨n, kc, gm, _, tot, ka, _, _, rfl, h0, h3, h10, h14, hw.1.1, hbG.2.2.1, hbG.2.1, fun k i2 q1 q2 q3 q4 q5 => ?_, fun d => ?_⟩⟩
        · refine go rfl ⟨_, _, rfl, rfl, ?_⟩
          refine go rfl ⟨_, rfl, ?_⟩
          refine go rfl ⟨_, rfl, ?_⟩
          refine go rfl ⟨_, rfl, ?_⟩
          refine go rfl ?_
          refine go rfl ⟨_, _, _, rfl, ?_⟩
          refine go rfl ⟨_, _, rfl, (vinA (show i + 1 < L by omega) hL31), ?_⟩
          refine go rfl ⟨_, rfl, ?_⟩
          refine go rfl ⟨_, rfl, ?_⟩
          refine go rfl ?_
          refine go rfl ⟨_, _, _, rfl, ?_⟩
          refine go rfl ⟨_, _, rfl, (vinA (show i + 2 < L by omega) hL31), ?_⟩
          refine go rfl ⟨_, _, _, _, _, rfl, h40, rfl, rfl, rfl, ⟨_, _, _, _, _, kd, _, ga, _, _, rfl, h47, h40, hbG.2.2.2, fun k' i' p1 p2 p3 p4 => ?_, fun d => ?_⟩⟩
          · have e1 := (nI_eq (by omega) (by omega)).mp (q4.symm.trans p3)
            subst e1
            have e2 := (nI_eq (by omega) (by omega)).mp (q5.symm.trans p4)
            subst e2
            rcases hcG with ⟨e3, e4⟩ | ⟨e3, e4, e5⟩
            · omega
            refine go rfl ⟨_, _, rfl, rfl, ?_⟩
            refine go rfl ?_
            exact next _ ⟨_, _, _, _, _, _, _, _, _, _, _, _, _, _, _, _, _, _, _, _, _, _, _, _, _, _, _, (nI 0), _, _, _, _, _, _, _, _, _, _, _, _, h0, h1, h2, h3, h4, h5, h6, h7, h8, h9, h10, h11, h12, h13, h14, h15, h16, h17, h18, h29, h30, rfl, h41, h42, h43, h44, h45, h46, h47, h48, h49, h50, h51, (qrw_x (by decide) (hq)), hrn, hvl, hw, hm, hbD, hbG, hbQ, hcD, Or.inr ⟨e3, e4, e5⟩, hcQ, (hrw_x (by decide) (hh))⟩
          · exfalso
            rcases hcG with ⟨e3, e4⟩ | ⟨e3, e4, e5⟩
            · omega
            · exact d ⟨k, i2, by omega, q2, q4, q5⟩
        · refine go rfl ⟨_, _, rfl, rfl, ?_⟩
          refine go rfl ⟨_, rfl, ?_⟩
          refine go rfl ⟨_, rfl, ?_⟩
          refine go rfl ⟨_, rfl, ?_⟩
          refine go rfl ?_
          refine go rfl ⟨_, _, _, rfl, ?_⟩
          refine go rfl ⟨_, _, rfl, (vinA (show i + 1 < L by omega) hL31), ?_⟩
          refine go rfl ⟨_, rfl, ?_⟩
          refine go rfl ⟨_, rfl, ?_⟩
          refine go rfl ?_
          refine go rfl ⟨_, _, _, rfl, ?_⟩
          refine go rfl ⟨_, _, rfl, (vinA (show i + 2 < L by omega) hL31), ?_⟩
          refine go rfl ⟨_, _, _, _, _, rfl, h40, rfl, rfl, rfl, ⟨_, _, _, _, _, kd, _, ga, _, _, rfl, h47, h40, hbG.2.2.2, fun k' i' p1 p2 p3 p4 => ?_, fun d2 => ?_⟩⟩
          · exfalso
            rcases hcG with ⟨e3, e4⟩ | ⟨e3, e4, e5⟩
            · omega
            · exact d ⟨k', i', by omega, p2, e4, p3, p4⟩
          · refine go rfl ⟨_, _, rfl, rfl, ?_⟩
            refine go rfl ?_
            exact next _ ⟨_, _, _, _, _, _, _, _, _, _, _, _, _, _, _, _, _, _, _, _, _, _, _, _, _, _, _, (nI 0), _, _, _, _, _, _, _, _, _, _, _, _, h0, h1, h2, h3, h4, h5, h6, h7, h8, h9, h10, h11, h12, h13, h14, h15, h16, h17, h18, h29, h30, rfl, h41, h42, h43, h44, h45, h46, h47, h48, h49, h50, h51, (qrw_x (by decide) (hq)), hrn, hvl, hw, hm, hbD, hbG, hbQ, hcD, hcG, hcQ, (hrw_x (by decide) (hh))⟩
      · show Rr 316 _ _ _ _ _
        refine go rfl ⟨_, rfl, ?_⟩
        refine go rfl ⟨_, rfl, ?_⟩
        refine go rfl ⟨_, rfl, ?_⟩
        refine go rfl ?_
        refine go rfl ⟨_, _, _, rfl, ?_⟩
        refine go rfl ⟨_, _, rfl, (vinA (show i + 1 < L by omega) hL31), ?_⟩
        refine go rfl ⟨_, _, _, _, rfl, h0, rfl, rfl, rfl, ⟨n, N, ch, S, lt, st, _, _, _, rfl, h0, h3, h4, h5, hw, h15, h16, h17, hq, hh, fun d => ?_, fun m q1 q2 q3 F' f' q4 q5 q6 q7 => ⟨fun e => ?_, fun r e e2 => ?_⟩⟩⟩
        · refine go rfl ⟨_, _, rfl, rfl, ?_⟩
          refine go rfl ⟨_, rfl, ?_⟩
          refine go rfl ⟨_, rfl, ?_⟩
          refine go rfl ⟨_, rfl, ?_⟩
          refine go rfl ?_
          refine go rfl ⟨_, _, _, rfl, ?_⟩
          refine go rfl ⟨_, _, rfl, (vinA (show i + 1 < L by omega) hL31), ?_⟩
          refine go rfl ⟨_, _, _, _, rfl, h40, rfl, rfl, rfl, ⟨_, _, _, _, _, _, n, N, ch, mlt, ml, ls, _, rfl, h42, h43, h40, h50, hm, fun d2 => ?_, fun m' p1 p2 p3 => ⟨fun e' ls' => ?_, fun r' e' ls' e2' => ?_⟩⟩⟩
          · refine go rfl ⟨_, _, rfl, rfl, ?_⟩
            refine go rfl ?_
            exact next _ ⟨_, _, _, _, _, _, _, _, _, _, _, _, _, _, _, _, _, _, _, _, _, _, _, 0, _, _, _, (nI 0), _, _, _, 0, _, _, _, _, _, _, _, _, h0, h1, h2, h3, h4, h5, h6, h7, h8, h9, h10, h11, h12, h13, h14, rfl, h16, h17, h18, h29, h30, rfl, h41, h42, h43, h44, h45, h46, h47, h48, h49, h50, h51, (qrw_x (by decide) (qrw_x (by decide) (hq))), hrn, hvl, hw, hm, hbD, hbG, ⟨Nat.zero_le _, hbQ.2.1, Nat.zero_le _⟩, hcD, hcG, Or.inl ⟨rfl, Or.inl rfl⟩, (hrw_x (by decide) (hrw_x (by decide) (hh)))⟩
          · exact absurd ⟨m', p1, p2, p3⟩ d
          · exact absurd ⟨m', p1, p2, p3⟩ d
        · refine go rfl ⟨_, _, rfl, rfl, ?_⟩
          refine go rfl ⟨_, rfl, ?_⟩
          refine go rfl ⟨_, rfl, ?_⟩
          refine go rfl ⟨_, rfl, ?_⟩
          refine go rfl ?_
          refine go rfl ⟨_, _, _, rfl, ?_⟩
          refine go rfl ⟨_, _, rfl, (vinA (show i + 1 < L by omega) hL31), ?_⟩
          refine go rfl ⟨_, _, _, _, rfl, ((q5 40 (by decide)).trans h40), rfl, rfl, rfl, ⟨_, _, _, _, _, _, n, N, ch, mlt, ml, ls, _, rfl, ((q5 42 (by decide)).trans h42), ((q5 43 (by decide)).trans h43), ((q5 40 (by decide)).trans h40), ((q5 50 (by decide)).trans h50), hm, fun d => ?_, fun m' p1 p2 p3 => ⟨fun e' ls' => ?_, fun r' e' ls' e2' => ?_⟩⟩⟩
          · exact absurd ⟨m, q1, q2, q3⟩ d
          · have e1 := (nI_eq (by omega) (by omega)).mp (q3.symm.trans p3)
            subst e1
            refine go rfl ⟨_, _, rfl, rfl, ?_⟩
            refine go rfl ?_
            exact next _ ⟨_, _, _, _, _, _, _, _, _, _, _, _, _, _, _, _, _, _, _, _, _, _, _, 0, _, _, _, (nI 0), _, _, _, 0, _, _, _, _, _, _, ls', f', ((q5 0 (by decide)).trans h0), ((q5 1 (by decide)).trans h1), ((q5 2 (by decide)).trans h2), ((q5 3 (by decide)).trans h3), ((q5 4 (by decide)).trans h4), ((q5 5 (by decide)).trans h5), ((q5 6 (by decide)).trans h6), ((q5 7 (by decide)).trans h7), ((q5 8 (by decide)).trans h8), ((q5 9 (by decide)).trans h9), ((q5 10 (by decide)).trans h10), ((q5 11 (by decide)).trans h11), ((q5 12 (by decide)).trans h12), ((q5 13 (by decide)).trans h13), ((q5 14 (by decide)).trans h14), ((q5 15 (by decide)).trans rfl), ((q5 16 (by decide)).trans h16), ((q5 17 (by decide)).trans h17), q4, ((q5 29 (by decide)).trans h29), ((q5 30 (by decide)).trans h30), rfl, ((q5 41 (by decide)).trans h41), ((q5 42 (by decide)).trans h42), ((q5 43 (by decide)).trans h43), ((q5 44 (by decide)).trans h44), ((q5 45 (by decide)).trans h45), ((q5 46 (by decide)).trans h46), ((q5 47 (by decide)).trans h47), ((q5 48 (by decide)).trans h48), ((q5 49 (by decide)).trans h49), rfl, ((q5 51 (by decide)).trans h51), (qrw_x (by decide) (qrw_x (by decide) (q6))), hrn, hvl, hw, hm, hbD, hbG, ⟨Nat.zero_le _, hbQ.2.1, Nat.zero_le _⟩, hcD, hcG, Or.inl ⟨rfl, Or.inl rfl⟩, (hrw_x (by decide) (hrw_x (by decide) (q7)))⟩
          · have e1 := (nI_eq (by omega) (by omega)).mp (q3.symm.trans p3)
            subst e1
            rw [e] at e'
            cases e'
        · refine go rfl ⟨_, _, rfl, rfl, ?_⟩
          refine go rfl ⟨_, rfl, ?_⟩
          refine go rfl ⟨_, rfl, ?_⟩
          refine go rfl ⟨_, rfl, ?_⟩
          refine go rfl ?_
          refine go rfl ⟨_, _, _, rfl, ?_⟩
          refine go rfl ⟨_, _, rfl, (vinA (show i + 1 < L by omega) hL31), ?_⟩
          refine go rfl ⟨_, _, _, _, rfl, ((q5 40 (by decide)).trans h40), rfl, rfl, rfl, ⟨_, _, _, _, _, _, n, N, ch, mlt, ml, ls, _, rfl, ((q5 42 (by decide)).trans h42), ((q5 43 (by decide)).trans h43), ((q5 40 (by decide)).trans h40), ((q5 50 (by decide)).trans h50), hm, fun d => ?_, fun m' p1 p2 p3 => ⟨fun e' ls' => ?_, fun r' e' ls' e2' => ?_⟩⟩⟩
          · exact absurd ⟨m, q1, q2, q3⟩ d
          · have e1 := (nI_eq (by omega) (by omega)).mp (q3.symm.trans p3)
            subst e1
            rw [e] at e'
            cases e'
          · have e1 := (nI_eq (by omega) (by omega)).mp (q3.symm.trans p3)
            subst e1
            have e9 : r = r' := Option.some.inj (e.symm.trans e')
            subst e9
            refine go rfl ⟨_, _, rfl, rfl, ?_⟩
            refine go rfl ?_
            exact next _ ⟨_, _, _, _, _, _, _, _, _, _, _, _, _, _, _, _, _, _, _, _, _, _, _, m, n, _, _, (nI 0), _, _, _, m, _, _, _, _, _, _, ls', f', ((q5 0 (by decide)).trans h0), ((q5 1 (by decide)).trans h1), ((q5 2 (by decide)).trans h2), ((q5 3 (by decide)).trans h3), ((q5 4 (by decide)).trans h4), ((q5 5 (by decide)).trans h5), ((q5 6 (by decide)).trans h6), ((q5 7 (by decide)).trans h7), ((q5 8 (by decide)).trans h8), ((q5 9 (by decide)).trans h9), ((q5 10 (by decide)).trans h10), ((q5 11 (by decide)).trans h11), ((q5 12 (by decide)).trans h12), ((q5 13 (by decide)).trans h13), ((q5 14 (by decide)).trans h14), rfl, ((q5 16 (by decide)).trans h16), ((q5 17 (by decide)).trans h17), q4, ((q5 29 (by decide)).trans h29), ((q5 30 (by decide)).trans h30), rfl, ((q5 41 (by decide)).trans h41), ((q5 42 (by decide)).trans h42), ((q5 43 (by decide)).trans h43), ((q5 44 (by decide)).trans h44), ((q5 45 (by decide)).trans h45), ((q5 46 (by decide)).trans h46), ((q5 47 (by decide)).trans h47), ((q5 48 (by decide)).trans h48), ((q5 49 (by decide)).trans h49), rfl, ((q5 51 (by decide)).trans h51), (qrw_x (by decide) (qrw_x (by decide) (qrw_x (by decide) (q6)))), hrn, hvl, hw, hm, hbD, hbG, ⟨q2, Nat.le_refl _, q2⟩, hcD, hcG, Or.inr ⟨rfl, rfl, fun k hk => by rw [e2 k hk, e2' k hk]⟩, (hrw_x (by decide) (hrw_x (by decide) (hrw_x (by decide) (q7))))⟩
      · show Rr 339 _ _ _ _ _
        refine go rfl ⟨_, rfl, ?_⟩
        refine go rfl ⟨_, rfl, ?_⟩
        refine go rfl ⟨_, rfl, ?_⟩
        refine go rfl ?_
        refine go rfl ⟨_, _, _, rfl, ?_⟩
        refine go rfl ⟨_, _, rfl, (vinA (show i + 1 < L by omega) hL31), ?_⟩
        refine go rfl ⟨_, _, _, _, rfl, h0, rfl, rfl, rfl, ⟨n, qn, qm, li, _, rfl, h0, h3, h15, h18, hw.1.1, hbQ.2.1, hbQ.1, fun k q1 q2 q3 => ?_, fun d => ?_⟩⟩
        · refine go rfl ⟨_, _, rfl, rfl, ?_⟩
          refine go rfl ⟨_, rfl, ?_⟩
          refine go rfl ⟨_, rfl, ?_⟩
          refine go rfl ⟨_, rfl, ?_⟩
          refine go rfl ?_
          refine go rfl ⟨_, _, _, rfl, ?_⟩
          refine go rfl ⟨_, _, rfl, (vinA (show i + 1 < L by omega) hL31), ?_⟩
          refine go rfl ⟨_, _, _, _, rfl, h40, rfl, rfl, rfl, ⟨_, _, _, _, _, _, sdn, ls, _, rfl, h50, h40, hbQ.2.2, fun k' p1 p2 => ?_, fun d => ?_⟩⟩
          · have e1 := (nI_eq (by omega) (by omega)).mp (q3.symm.trans p2)
            subst e1
            rcases hcQ with ⟨e3, e4⟩ | ⟨e3, e4, e5⟩
            · omega
            refine go rfl ⟨_, _, rfl, rfl, ?_⟩
            refine go rfl ?_
            exact next _ ⟨_, _, _, _, _, _, _, _, _, _, _, _, _, _, _, _, _, _, _, _, _, _, _, _, _, _, _, (nI 0), _, _, _, _, _, _, _, _, _, _, _, _, h0, h1, h2, h3, h4, h5, h6, h7, h8, h9, h10, h11, h12, h13, h14, h15, h16, h17, h18, h29, h30, rfl, h41, h42, h43, h44, h45, h46, h47, h48, h49, h50, h51, (qrw_x (by decide) (hq)), hrn, hvl, hw, hm, hbD, hbG, hbQ, hcD, hcG, Or.inr ⟨e3, e4, e5⟩, (hrw_x (by decide) (hh))⟩
          · exfalso
            rcases hcQ with ⟨e3, e4⟩ | ⟨e3, e4, e5⟩
            · omega
            · exact d ⟨k, by omega, q3⟩
        · refine go rfl ⟨_, _, rfl, rfl, ?_⟩
          refine go rfl ⟨_, rfl, ?_⟩
          refine go rfl ⟨_, rfl, ?_⟩
          refine go rfl ⟨_, rfl, ?_⟩
          refine go rfl ?_
          refine go rfl ⟨_, _, _, rfl, ?_⟩
          refine go rfl ⟨_, _, rfl, (vinA (show i + 1 < L by omega) hL31), ?_⟩
          refine go rfl ⟨_, _, _, _, rfl, h40, rfl, rfl, rfl, ⟨_, _, _, _, _, _, sdn, ls, _, rfl, h50, h40, hbQ.2.2, fun k' p1 p2 => ?_, fun d2 => ?_⟩⟩
          · exfalso
            rcases hcQ with ⟨e3, e4⟩ | ⟨e3, e4, e5⟩
            · omega
            · exact d ⟨k', by omega, e4, p2⟩
          · refine go rfl ⟨_, _, rfl, rfl, ?_⟩
            refine go rfl ?_
            exact next _ ⟨_, _, _, _, _, _, _, _, _, _, _, _, _, _, _, _, _, _, _, _, _, _, _, _, _, _, _, (nI 0), _, _, _, _, _, _, _, _, _, _, _, _, h0, h1, h2, h3, h4, h5, h6, h7, h8, h9, h10, h11, h12, h13, h14, h15, h16, h17, h18, h29, h30, rfl, h41, h42, h43, h44, h45, h46, h47, h48, h49, h50, h51, (qrw_x (by decide) (hq)), hrn, hvl, hw, hm, hbD, hbG, hbQ, hcD, hcG, hcQ, (hrw_x (by decide) (hh))⟩
      · show Rr 362 _ _ _ _ _
        refine go rfl ⟨_, rfl, ?_⟩
        refine go rfl ⟨_, rfl, ?_⟩
        refine go rfl ⟨_, rfl, ?_⟩
        refine go rfl ?_
        refine go rfl ⟨_, _, _, rfl, ?_⟩
        refine go rfl ⟨_, _, rfl, (vinA (show i + 1 < L by omega) hL31), ?_⟩
        refine go rfl ⟨_, rfl, ?_⟩
        refine go rfl ⟨_, rfl, ?_⟩
        refine go rfl ?_
        refine go rfl ⟨_, _, _, rfl, ?_⟩
        refine go rfl ⟨_, _, rfl, (vinA (show i + 2 < L by omega) hL31), ?_⟩
        refine go rfl ⟨_, rfl, ?_⟩
        refine go rfl ⟨_, rfl, ?_⟩
        refine go rfl ?_
        refine go rfl ⟨_, _, _, rfl, ?_⟩
        refine go rfl ⟨_, _, rfl, (vinA (show i + 3 < L by omega) hL31), ?_⟩
        refine go rfl ⟨_, rfl, ?_⟩
        refine go rfl ⟨_, rfl, ?_⟩
        refine go rfl ?_
        refine go rfl ⟨_, _, _, rfl, ?_⟩
        refine go rfl ⟨_, _, rfl, (vinA (show i + 4 < L by omega) hL31), ?_⟩
        refine go rfl ⟨_, _, _, _, _, _, _, rfl, h0, rfl, rfl, rfl, ⟨n, N, ch, S, lt, st, g, _, _, _, _, rfl, h0, h3, h4, h5, hw, h29, h30, fun j k q1 q2 q3 q4 q5 q6 => ?_, fun d => ?_⟩⟩
        · refine go rfl ⟨_, _, rfl, rfl, ?_⟩
          refine go rfl ⟨_, rfl, ?_⟩
          refine go rfl ⟨_, rfl, ?_⟩
          refine go rfl ⟨_, rfl, ?_⟩
          refine go rfl ?_
          refine go rfl ⟨_, _, _, rfl, ?_⟩
          refine go rfl ⟨_, _, rfl, (vinA (show i + 1 < L by omega) hL31), ?_⟩
          refine go rfl ⟨_, rfl, ?_⟩
          refine go rfl ⟨_, rfl, ?_⟩
          refine go rfl ?_
          refine go rfl ⟨_, _, _, rfl, ?_⟩
          refine go rfl ⟨_, _, rfl, (vinA (show i + 2 < L by omega) hL31), ?_⟩
          refine go rfl ⟨_, rfl, ?_⟩
          refine go rfl ⟨_, rfl, ?_⟩
          refine go rfl ?_
          refine go rfl ⟨_, _, _, rfl, ?_⟩
          refine go rfl ⟨_, _, rfl, (vinA (show i + 3 < L by omega) hL31), ?_⟩
          refine go rfl ⟨_, rfl, ?_⟩
          refine go rfl ⟨_, rfl, ?_⟩
          refine go rfl ?_
          refine go rfl ⟨_, _, _, rfl, ?_⟩
          refine go rfl ⟨_, _, rfl, (vinA (show i + 4 < L by omega) hL31), ?_⟩
          refine go rfl ⟨_, _, _, _, _, _, _, rfl, h40, rfl, rfl, rfl, ⟨_, _, _, _, _, _, n, N, ch, mlt, ml, g, _, _, _, _, rfl, h42, h43, h51, h40, hm, fun j' k' p1 p2 p3 p4 p5 p6 => ?_, fun d => ?_⟩⟩
          · have e1 := (nI_eq (by omega) (by omega)).mp (q3.symm.trans p3)
            subst e1
            have e2 := (nI_eq (by omega) (by omega)).mp (q4.symm.trans p4)
            subst e2
            refine go rfl ⟨_, _, rfl, rfl, ?_⟩
            refine go rfl ?_
            exact next _ ⟨_, _, _, _, _, _, _, _, _, _, _, _, _, _, _, _, _, _, _, _, _, _, _, _, _, _, _, (nI 0), _, _, _, _, _, _, _, _, _, _, _, _, h0, h1, h2, h3, h4, h5, h6, h7, h8, h9, h10, h11, h12, h13, h14, h15, h16, h17, h18, h29, rfl, rfl, h41, h42, h43, h44, h45, h46, h47, h48, h49, h50, rfl, (qrw_x (by decide) (qrw_x (by decide) (qrw_x (by decide) (hq)))), hrn, hvl, hw, hm, hbD, hbG, hbQ, hcD, hcG, hcQ, (hrw_x (by decide) (hrw_x (by decide) (hrw_x (by decide) (hh))))⟩
          · exact absurd ⟨j, k, q1, q2, q3, q4, q5, q6⟩ d
        · refine go rfl ⟨_, _, rfl, rfl, ?_⟩
          refine go rfl ⟨_, rfl, ?_⟩
          refine go rfl ⟨_, rfl, ?_⟩
          refine go rfl ⟨_, rfl, ?_⟩
          refine go rfl ?_
          refine go rfl ⟨_, _, _, rfl, ?_⟩
          refine go rfl ⟨_, _, rfl, (vinA (show i + 1 < L by omega) hL31), ?_⟩
          refine go rfl ⟨_, rfl, ?_⟩
          refine go rfl ⟨_, rfl, ?_⟩
          refine go rfl ?_
          refine go rfl ⟨_, _, _, rfl, ?_⟩
          refine go rfl ⟨_, _, rfl, (vinA (show i + 2 < L by omega) hL31), ?_⟩
          refine go rfl ⟨_, rfl, ?_⟩
          refine go rfl ⟨_, rfl, ?_⟩
          refine go rfl ?_
          refine go rfl ⟨_, _, _, rfl, ?_⟩
          refine go rfl ⟨_, _, rfl, (vinA (show i + 3 < L by omega) hL31), ?_⟩
          refine go rfl ⟨_, rfl, ?_⟩
          refine go rfl ⟨_, rfl, ?_⟩
          refine go rfl ?_
          refine go rfl ⟨_, _, _, rfl, ?_⟩
          refine go rfl ⟨_, _, rfl, (vinA (show i + 4 < L by omega) hL31), ?_⟩
          refine go rfl ⟨_, _, _, _, _, _, _, rfl, h40, rfl, rfl, rfl, ⟨_, _, _, _, _, _, n, N, ch, mlt, ml, g, _, _, _, _, rfl, h42, h43, h51, h40, hm, fun j' k' p1 p2 p3 p4 p5 p6 => ?_, fun d2 => ?_⟩⟩
          · exact absurd ⟨j', k', p1, p2, p3, p4, p5, p6⟩ d
          · refine go rfl ⟨_, _, rfl, rfl, ?_⟩
            refine go rfl ?_
            exact next _ ⟨_, _, _, _, _, _, _, _, _, _, _, _, _, _, _, _, _, _, _, _, _, _, _, _, _, _, _, (nI 0), _, _, _, _, _, _, _, _, _, _, _, _, h0, h1, h2, h3, h4, h5, h6, h7, h8, h9, h10, h11, h12, h13, h14, h15, h16, h17, h18, h29, h30, rfl, h41, h42, h43, h44, h45, h46, h47, h48, h49, h50, h51, (qrw_x (by decide) (hq)), hrn, hvl, hw, hm, hbD, hbG, hbQ, hcD, hcG, hcQ, (hrw_x (by decide) (hh))⟩
      · show Rr 415 _ _ _ _ _
        refine go rfl ⟨_, rfl, ?_⟩
        refine go rfl ⟨_, rfl, ?_⟩
        refine go rfl ⟨_, rfl, ?_⟩
        refine go rfl ?_
        refine go rfl ⟨_, _, _, rfl, ?_⟩
        refine go rfl ⟨_, _, rfl, (vinA (show i + 1 < L by omega) hL31), ?_⟩
        refine go rfl ⟨_, _, rfl, ?_⟩
        refine go rfl ?_
        refine go rfl ⟨_, _, _, rfl, ?_⟩
        refine go rfl ⟨_, rfl, ?_⟩
        refine go rfl ⟨_, rfl, ?_⟩
        refine go rfl ?_
        refine go rfl ⟨_, _, _, rfl, ?_⟩
        refine go rfl ⟨_, _, rfl, (vinA (show i + 2 < L by omega) hL31), ?_⟩
        refine go rfl ⟨_, _, rfl, ?_⟩
        refine go rfl ?_
        refine go rfl ⟨_, _, _, rfl, ?_⟩
        refine go rfl ⟨_, _, _, rfl, ?_⟩
        refine go rfl ⟨_, _, _, _, rfl, h0, rfl, rfl, rfl, ⟨n, N, ch, S, lt, st, g, _, rfl, h0, h3, h4, h5, hw, h29, h30, fun q => ?_, fun q => ?_⟩⟩
        · refine go rfl ⟨_, _, rfl, rfl, ?_⟩
          refine go rfl ⟨_, rfl, ?_⟩
          refine go rfl ⟨_, rfl, ?_⟩
          refine go rfl ⟨_, rfl, ?_⟩
          refine go rfl ?_
          refine go rfl ⟨_, _, _, rfl, ?_⟩
          refine go rfl ⟨_, _, rfl, (vinA (show i + 1 < L by omega) hL31), ?_⟩
          refine go rfl ⟨_, _, rfl, ?_⟩
          refine go rfl ?_
          refine go rfl ⟨_, _, _, rfl, ?_⟩
          refine go rfl ⟨_, rfl, ?_⟩
          refine go rfl ⟨_, rfl, ?_⟩
          refine go rfl ?_
          refine go rfl ⟨_, _, _, rfl, ?_⟩
          refine go rfl ⟨_, _, rfl, (vinA (show i + 2 < L by omega) hL31), ?_⟩
          refine go rfl ⟨_, _, rfl, ?_⟩
          refine go rfl ?_
          refine go rfl ⟨_, _, _, rfl, ?_⟩
          refine go rfl ⟨_, _, _, rfl, ?_⟩
          refine go rfl ⟨_, _, _, _, rfl, h40, rfl, rfl, rfl, ⟨_, _, _, _, _, _, n, N, ch, mlt, ml, g, S, lt, _, rfl, h42, h43, h51, h40, hm, hw.1.2.1, hw.2.2.1, hw.2.2.2, fun d => ?_, fun d => ?_⟩⟩
          · refine go rfl ⟨_, _, rfl, rfl, ?_⟩
            refine go rfl ?_
            exact next _ ⟨_, _, _, _, _, _, _, _, _, _, _, _, _, _, _, _, _, _, _, _, _, _, _, _, _, _, _, (nI 0), _, _, _, _, _, _, _, _, _, _, _, _, h0, h1, h2, h3, h4, h5, h6, h7, h8, h9, h10, h11, h12, h13, h14, h15, h16, h17, h18, h29, h30, rfl, h41, h42, h43, h44, h45, h46, h47, h48, h49, h50, h51, (qrw_x (by decide) (hq)), hrn, hvl, hw, hm, hbD, hbG, hbQ, hcD, hcG, hcQ, (hrw_x (by decide) (hh))⟩
          · exfalso
            omega
        · refine go rfl ⟨_, _, rfl, rfl, ?_⟩
          refine go rfl ⟨_, rfl, ?_⟩
          refine go rfl ⟨_, rfl, ?_⟩
          refine go rfl ⟨_, rfl, ?_⟩
          refine go rfl ?_
          refine go rfl ⟨_, _, _, rfl, ?_⟩
          refine go rfl ⟨_, _, rfl, (vinA (show i + 1 < L by omega) hL31), ?_⟩
          refine go rfl ⟨_, _, rfl, ?_⟩
          refine go rfl ?_
          refine go rfl ⟨_, _, _, rfl, ?_⟩
          refine go rfl ⟨_, rfl, ?_⟩
          refine go rfl ⟨_, rfl, ?_⟩
          refine go rfl ?_
          refine go rfl ⟨_, _, _, rfl, ?_⟩
          refine go rfl ⟨_, _, rfl, (vinA (show i + 2 < L by omega) hL31), ?_⟩
          refine go rfl ⟨_, _, rfl, ?_⟩
          refine go rfl ?_
          refine go rfl ⟨_, _, _, rfl, ?_⟩
          refine go rfl ⟨_, _, _, rfl, ?_⟩
          refine go rfl ⟨_, _, _, _, rfl, h40, rfl, rfl, rfl, ⟨_, _, _, _, _, _, n, N, ch, mlt, ml, g, S, lt, _, rfl, h42, h43, h51, h40, hm, hw.1.2.1, hw.2.2.1, hw.2.2.2, fun d => ?_, fun d => ?_⟩⟩
          · exfalso
            omega
          · refine go rfl ⟨_, _, rfl, rfl, ?_⟩
            refine go rfl ?_
            exact next _ ⟨_, _, _, _, _, _, _, _, _, _, _, _, _, _, _, _, _, _, _, _, _, _, _, _, _, _, _, (nI 0), _, _, _, _, _, _, _, _, _, _, _, _, h0, h1, h2, h3, h4, h5, h6, h7, h8, h9, h10, h11, h12, h13, h14, h15, h16, h17, h18, h29, rfl, rfl, h41, h42, h43, h44, h45, h46, h47, h48, h49, h50, rfl, (qrw_x (by decide) (qrw_x (by decide) (qrw_x (by decide) (hq)))), hrn, hvl, hw, hm, hbD, hbG, hbQ, hcD, hcG, hcQ, (hrw_x (by decide) (hrw_x (by decide) (hrw_x (by decide) (hh))))⟩
      · show Rr 468 _ _ _ _ _
        refine go rfl ⟨_, rfl, ?_⟩
        refine go rfl ⟨_, rfl, ?_⟩
        refine go rfl ⟨_, rfl, ?_⟩
        refine go rfl ?_
        refine go rfl ⟨_, _, _, rfl, ?_⟩
        refine go rfl ⟨_, _, rfl, (vinA (show i + 1 < L by omega) hL31), ?_⟩
        refine go rfl ⟨_, rfl, ?_⟩
        refine go rfl ⟨_, rfl, ?_⟩
        refine go rfl ?_
        refine go rfl ⟨_, _, _, rfl, ?_⟩
        refine go rfl ⟨_, _, rfl, (vinA (show i + 2 < L by omega) hL31), ?_⟩
        refine go rfl ⟨_, _, _, _, _, rfl, h0, rfl, rfl, rfl, ⟨g, _, _, rfl, h0, h29, h30, ?_⟩⟩
        refine go rfl ⟨_, _, rfl, rfl, ?_⟩
        refine go rfl ⟨_, rfl, ?_⟩
        refine go rfl ⟨_, rfl, ?_⟩
        refine go rfl ⟨_, rfl, ?_⟩
        refine go rfl ?_
        refine go rfl ⟨_, _, _, rfl, ?_⟩
        refine go rfl ⟨_, _, rfl, (vinA (show i + 1 < L by omega) hL31), ?_⟩
        refine go rfl ⟨_, rfl, ?_⟩
        refine go rfl ⟨_, rfl, ?_⟩
        refine go rfl ?_
        refine go rfl ⟨_, _, _, rfl, ?_⟩
        refine go rfl ⟨_, _, rfl, (vinA (show i + 2 < L by omega) hL31), ?_⟩
        refine go rfl ⟨_, _, _, _, _, rfl, h40, rfl, rfl, rfl, ⟨_, _, _, _, _, _, _, g, _, _, rfl, h51, h40, ?_⟩⟩
        refine go rfl ⟨_, _, rfl, rfl, ?_⟩
        refine go rfl ?_
        exact next _ ⟨_, _, _, _, _, _, _, _, _, _, _, _, _, _, _, _, _, _, _, _, _, _, _, _, _, _, _, (nI 0), _, _, _, _, _, _, _, _, _, _, _, _, h0, h1, h2, h3, h4, h5, h6, h7, h8, h9, h10, h11, h12, h13, h14, h15, h16, h17, h18, h29, h30, rfl, h41, h42, h43, h44, h45, h46, h47, h48, h49, h50, h51, (qrw_x (by decide) (hq)), hrn, hvl, hw, hm, hbD, hbG, hbQ, hcD, hcG, hcQ, (hrw_x (by decide) (hh))⟩
      · show Rr 501 _ _ _ _ _
        refine go rfl ⟨_, rfl, ?_⟩
        refine go rfl ⟨_, rfl, ?_⟩
        refine go rfl ⟨_, rfl, ?_⟩
        refine go rfl ?_
        refine go rfl ⟨_, _, _, rfl, ?_⟩
        refine go rfl ⟨_, _, rfl, (vinA (show i + 1 < L by omega) hL31), ?_⟩
        refine go rfl ⟨_, _, _, _, rfl, h0, rfl, rfl, rfl, ⟨n, N, ch, S, lt, st, g, _, rfl, h0, h3, h4, h5, hw, h29, h30, fun j q1 q2 => ?_, fun d => ?_⟩⟩
        · refine go rfl ⟨_, _, rfl, rfl, ?_⟩
          refine go rfl ⟨_, rfl, ?_⟩
          refine go rfl ⟨_, rfl, ?_⟩
          refine go rfl ⟨_, rfl, ?_⟩
          refine go rfl ?_
          refine go rfl ⟨_, _, _, rfl, ?_⟩
          refine go rfl ⟨_, _, rfl, (vinA (show i + 1 < L by omega) hL31), ?_⟩
          refine go rfl ⟨_, _, _, _, rfl, h40, rfl, rfl, rfl, ⟨_, _, _, _, _, _, n, N, ch, mlt, ml, g, _, rfl, h42, h43, h51, h40, hm, fun j' p1 p2 => ?_, fun d => ?_⟩⟩
          · have e1 := (nI_eq (by omega) (by omega)).mp (q2.symm.trans p2)
            subst e1
            refine go rfl ⟨_, _, rfl, rfl, ?_⟩
            refine go rfl ?_
            exact next _ ⟨_, _, _, _, _, _, _, _, _, _, _, _, _, _, _, _, _, _, _, _, _, _, _, _, _, _, _, (nI 0), _, _, _, _, _, _, _, _, _, _, _, _, h0, h1, h2, h3, h4, h5, h6, h7, h8, h9, h10, h11, h12, h13, h14, h15, h16, h17, h18, h29, h30, rfl, h41, h42, h43, h44, h45, h46, h47, h48, h49, h50, h51, (qrw_x (by decide) (hq)), hrn, hvl, hw, hm, hbD, hbG, hbQ, hcD, hcG, hcQ, (hrw_x (by decide) (hh))⟩
          · exfalso
            rcases d with d | d
            · rw [q2] at d
              exact absurd d (nI_pos (by omega))
            · rw [q2] at d
              exact absurd ((nI_leI (by omega) (by omega)).mp d) (by omega)
        · refine go rfl ⟨_, _, rfl, rfl, ?_⟩
          refine go rfl ⟨_, rfl, ?_⟩
          refine go rfl ⟨_, rfl, ?_⟩
          refine go rfl ⟨_, rfl, ?_⟩
          refine go rfl ?_
          refine go rfl ⟨_, _, _, rfl, ?_⟩
          refine go rfl ⟨_, _, rfl, (vinA (show i + 1 < L by omega) hL31), ?_⟩
          refine go rfl ⟨_, _, _, _, rfl, h40, rfl, rfl, rfl, ⟨_, _, _, _, _, _, n, N, ch, mlt, ml, g, _, rfl, h42, h43, h51, h40, hm, fun j' p1 p2 => ?_, fun d2 => ?_⟩⟩
          · exfalso
            rcases d with d | d
            · rw [p2] at d
              exact absurd d (nI_pos (by omega))
            · rw [p2] at d
              exact absurd ((nI_leI (by omega) (by omega)).mp d) (by omega)
          · refine go rfl ⟨_, _, rfl, rfl, ?_⟩
            refine go rfl ?_
            exact next _ ⟨_, _, _, _, _, _, _, _, _, _, _, _, _, _, _, _, _, _, _, _, _, _, _, _, _, _, _, (nI 0), _, _, _, _, _, _, _, _, _, _, _, _, h0, h1, h2, h3, h4, h5, h6, h7, h8, h9, h10, h11, h12, h13, h14, h15, h16, h17, h18, h29, h30, rfl, h41, h42, h43, h44, h45, h46, h47, h48, h49, h50, h51, (qrw_x (by decide) (hq)), hrn, hvl, hw, hm, hbD, hbG, hbQ, hcD, hcG, hcQ, (hrw_x (by decide) (hh))⟩
      · show Rr 524 _ _ _ _ _
        refine go rfl ⟨_, rfl, ?_⟩
        refine go rfl ⟨_, rfl, ?_⟩
        refine go rfl ⟨_, rfl, ?_⟩
        refine go rfl ?_
        refine go rfl ⟨_, _, _, rfl, ?_⟩
        refine go rfl ⟨_, _, rfl, (vinA (show i + 1 < L by omega) hL31), ?_⟩
        refine go rfl ⟨_, rfl, ?_⟩
        refine go rfl ⟨_, rfl, ?_⟩
        refine go rfl ?_
        refine go rfl ⟨_, _, _, rfl, ?_⟩
        refine go rfl ⟨_, _, rfl, (vinA (show i + 2 < L by omega) hL31), ?_⟩
        refine go rfl ⟨_, _, _, _, _, rfl, h0, rfl, rfl, rfl, ⟨n, N, ch, S, lt, st, g, _, _, rfl, h0, h3, h4, h5, hw, h29, h30, fun j x q1 q2 q3 q4 q5 q6 q7 => ?_, fun d => ?_⟩⟩
        · refine go rfl ⟨_, _, rfl, rfl, ?_⟩
          refine go rfl ⟨_, rfl, ?_⟩
          refine go rfl ⟨_, rfl, ?_⟩
          refine go rfl ⟨_, rfl, ?_⟩
          refine go rfl ?_
          refine go rfl ⟨_, _, _, rfl, ?_⟩
          refine go rfl ⟨_, _, rfl, (vinA (show i + 1 < L by omega) hL31), ?_⟩
          refine go rfl ⟨_, rfl, ?_⟩
          refine go rfl ⟨_, rfl, ?_⟩
          refine go rfl ?_
          refine go rfl ⟨_, _, _, rfl, ?_⟩
          refine go rfl ⟨_, _, rfl, (vinA (show i + 2 < L by omega) hL31), ?_⟩
          refine go rfl ⟨_, _, _, _, _, rfl, h40, rfl, rfl, rfl, ⟨_, _, _, _, _, _, n, N, ch, mlt, ml, g, _, _, rfl, h42, h43, h51, h40, hm, fun j' x' p1 p2 p3 p4 p5 p6 p7 => ?_, fun d => ?_⟩⟩
          · have e1 := (nI_eq (by omega) (by omega)).mp (q2.symm.trans p2)
            subst e1
            have e2 := least_eq _ ⟨p5, p6⟩ p7 ⟨q5, q6⟩ q7
            subst e2
            refine go rfl ⟨_, _, rfl, rfl, ?_⟩
            refine go rfl ?_
            exact next _ ⟨_, _, _, _, _, _, _, _, _, _, _, _, _, _, _, _, _, _, _, _, _, _, _, _, _, _, _, (nI 0), _, _, _, _, _, _, _, _, _, _, _, _, h0, h1, h2, h3, h4, h5, h6, h7, h8, h9, h10, h11, h12, h13, h14, h15, h16, h17, h18, h29, h30, rfl, h41, h42, h43, h44, h45, h46, h47, h48, h49, h50, h51, (qrw_x (by decide) (hq)), hrn, hvl, hw, hm, hbD, hbG, hbQ, hcD, hcG, hcQ, (hrw_x (by decide) (hh))⟩
          · exact absurd ⟨j, x, q1, q2, q3, q4, q5, q6⟩ d
        · refine go rfl ⟨_, _, rfl, rfl, ?_⟩
          refine go rfl ⟨_, rfl, ?_⟩
          refine go rfl ⟨_, rfl, ?_⟩
          refine go rfl ⟨_, rfl, ?_⟩
          refine go rfl ?_
          refine go rfl ⟨_, _, _, rfl, ?_⟩
          refine go rfl ⟨_, _, rfl, (vinA (show i + 1 < L by omega) hL31), ?_⟩
          refine go rfl ⟨_, rfl, ?_⟩
          refine go rfl ⟨_, rfl, ?_⟩
          refine go rfl ?_
          refine go rfl ⟨_, _, _, rfl, ?_⟩
          refine go rfl ⟨_, _, rfl, (vinA (show i + 2 < L by omega) hL31), ?_⟩
          refine go rfl ⟨_, _, _, _, _, rfl, h40, rfl, rfl, rfl, ⟨_, _, _, _, _, _, n, N, ch, mlt, ml, g, _, _, rfl, h42, h43, h51, h40, hm, fun j' x' p1 p2 p3 p4 p5 p6 p7 => ?_, fun d2 => ?_⟩⟩
          · exact absurd ⟨j', x', p1, p2, p3, p4, p5, p6⟩ d
          · refine go rfl ⟨_, _, rfl, rfl, ?_⟩
            refine go rfl ?_
            exact next _ ⟨_, _, _, _, _, _, _, _, _, _, _, _, _, _, _, _, _, _, _, _, _, _, _, _, _, _, _, (nI 0), _, _, _, _, _, _, _, _, _, _, _, _, h0, h1, h2, h3, h4, h5, h6, h7, h8, h9, h10, h11, h12, h13, h14, h15, h16, h17, h18, h29, h30, rfl, h41, h42, h43, h44, h45, h46, h47, h48, h49, h50, h51, (qrw_x (by decide) (hq)), hrn, hvl, hw, hm, hbD, hbG, hbQ, hcD, hcG, hcQ, (hrw_x (by decide) (hh))⟩
      · show Rr 557 _ _ _ _ _
        refine go rfl ⟨_, rfl, ?_⟩
        refine go rfl ⟨_, _, _, rfl, h0, rfl, rfl, rfl, ⟨g, rfl, h0, h29, h30, ?_⟩⟩
        refine go rfl ⟨_, rfl, ?_⟩
        refine go rfl ⟨_, _, _, rfl, h40, rfl, rfl, rfl, ⟨_, _, _, _, _, _, _, g, rfl, h51, h40, ?_⟩⟩
        refine go rfl ?_
        exact next _ ⟨_, _, _, _, _, _, _, _, (clr g 64), _, _, _, _, _, _, _, _, _, _, _, _, _, _, _, _, _, _, (nI 0), _, _, _, _, _, _, _, _, _, _, _, _, h0, h1, h2, h3, h4, h5, h6, h7, h8, h9, h10, h11, h12, h13, h14, h15, h16, h17, h18, h29, rfl, rfl, h41, h42, h43, h44, h45, h46, h47, h48, h49, h50, rfl, (qrw_x (by decide) (qrw_x (by decide) (qrw_x (by decide) (hq)))), hrn, hvl, hw, hm, hbD, hbG, hbQ, hcD, hcG, hcQ, (hrw_x (by decide) (hrw_x (by decide) (hrw_x (by decide) (hh))))⟩
  exact loop L 0 F0 (by omega) (by omega) hiv
set_option maxRecDepth 100000 in
set_option maxHeartbeats 8000000 in
theorem law_walk {L : Nat} {xs : Nat → Int32} (hL : L ≤ 2560) (Rr : mx_K) (go : ∀ {pc : Nat} {o : mx_O} {lv : mx_L} {st : mx_S} {F : mx_F} {ca sl : Nat}, mx_at (t_law L xs) pc = some o → o lv st F ca sl Rr → Rr pc lv st F ca sl) : Rr 0 (mx_en [mx_tb 9] 4) [] (fun _ => none) 0 0 := by
  refine go rfl ⟨(rfl), (fun j x h => by cases h), rfl, rfl, rfl, rfl, ?_⟩
  refine go rfl ⟨_, _, rfl, rfl, ?_⟩
  refine go rfl ⟨_, _, rfl, rfl, rfl, rfl, rfl, rfl, ⟨rfl, rfl, fun k hk => mx_out ⟨rfl, fun j x h => by cases h⟩ (by omega) (mx_noB (n := 1) hk rfl), fun F' hfr hf => ?_⟩⟩
  obtain ⟨h0, h1, h2, h3, h4, h5, h6, h7, h8, h9, h10, h11, h12, h13, h14, h15, h16, h17, h18, h19, h20, h21, h22, h23, h24, h25, h26, h27, h28, h29, h30⟩ := hfr
  have q0 : qrw F' := by
    refine ⟨fun k hk => ?_, fun k hk => ?_, ⟨_, h18⟩⟩
    · rcases (show k = 0 ∨ k = 1 ∨ k = 2 ∨ k = 3 ∨ k = 4 by omega) with rfl | rfl | rfl | rfl | rfl
      · exact ⟨_, h19⟩
      · exact ⟨_, h20⟩
      · exact ⟨_, h21⟩
      · exact ⟨_, h22⟩
      · exact ⟨_, h23⟩
    · rcases (show k = 0 ∨ k = 1 ∨ k = 2 ∨ k = 3 ∨ k = 4 by omega) with rfl | rfl | rfl | rfl | rfl
      · exact ⟨_, h24⟩
      · exact ⟨_, h25⟩
      · exact ⟨_, h26⟩
      · exact ⟨_, h27⟩
      · exact ⟨_, h28⟩
  have q1 : hrw 0 (fun _ => 0) (fun _ _ => 0) 0 0 0 F' := by
    refine hrw_z (fun x hx => ?_)
    rcases (show x = 0 ∨ x = 1 ∨ x = 2 ∨ x = 3 ∨ x = 4 by omega) with rfl | rfl | rfl | rfl | rfl
    · exact h19
    · exact h20
    · exact h21
    · exact h22
    · exact h23
  show Rr 7 _ _ F' _ _
  rw [mx_as1 h0]
  refine go rfl ⟨_, _, rfl, ?_⟩
  refine go rfl ⟨((hf 40 (by decide)).1), (mx_no_put (hf 40 (by decide)).2 (mx_noO rfl)), rfl, rfl, rfl, rfl, ?_⟩
  refine go rfl ⟨_, _, rfl, rfl, ?_⟩
  refine go rfl ⟨_, _, rfl, rfl, rfl, rfl, rfl, rfl, ⟨rfl, rfl, (hf 41 (by decide)).1, mx_no_put (mx_no_put (hf 41 (by decide)).2 (mx_noO rfl)) (mx_noO rfl), (hf 42 (by decide)).1, mx_no_put (mx_no_put (hf 42 (by decide)).2 (mx_noO rfl)) (mx_noO rfl), (hf 43 (by decide)).1, mx_no_put (mx_no_put (hf 43 (by decide)).2 (mx_noO rfl)) (mx_noO rfl), (hf 44 (by decide)).1, mx_no_put (mx_no_put (hf 44 (by decide)).2 (mx_noO rfl)) (mx_noO rfl), (hf 45 (by decide)).1, mx_no_put (mx_no_put (hf 45 (by decide)).2 (mx_noO rfl)) (mx_noO rfl), (hf 46 (by decide)).1, mx_no_put (mx_no_put (hf 46 (by decide)).2 (mx_noO rfl)) (mx_noO rfl), (hf 47 (by decide)).1, mx_no_put (mx_no_put (hf 47 (by decide)).2 (mx_noO rfl)) (mx_noO rfl), (hf 48 (by decide)).1, mx_no_put (mx_no_put (hf 48 (by decide)).2 (mx_noO rfl)) (mx_noO rfl), (hf 49 (by decide)).1, mx_no_put (mx_no_put (hf 49 (by decide)).2 (mx_noO rfl)) (mx_noO rfl), (hf 50 (by decide)).1, mx_no_put (mx_no_put (hf 50 (by decide)).2 (mx_noO rfl)) (mx_noO rfl), (hf 51 (by decide)).1, mx_no_put (mx_no_put (hf 51 (by decide)).2 (mx_noO rfl)) (mx_noO rfl), ?_⟩⟩
  refine go rfl ⟨_, _, rfl, ?_⟩
  refine go rfl ?_
  refine go rfl ⟨_, _, rfl, ?_⟩
  exact law_loop hL Rr go _ ⟨0, 0, (fun _ => 0), (fun _ _ => 0), (fun _ => 0), _, _, _, _, 0, 0, _, _, _, _, 0, 0, _, 0, _, _, _, _, 0, 0, _, _, _, _, _, 0, 0, _, _, _, _, _, _, _, _, rfl, h1, h2, h3, h4, h5, h6, h7, h8, h9, h10, h11, h12, h13, h14, h15, h16, h17, h18, h29, h30, rfl, rfl, rfl, rfl, rfl, rfl, rfl, rfl, rfl, rfl, rfl, rfl, (qrw_x (by decide) ((qrw_x (by decide) ((qrw_x (by decide) ((qrw_x (by decide) ((qrw_x (by decide) ((qrw_x (by decide) ((qrw_x (by decide) ((qrw_x (by decide) ((qrw_x (by decide) ((qrw_x (by decide) ((qrw_x (by decide) ((qrw_x (by decide) ((qrw_x (by decide) ((qrw_x (by decide) (q0)))))))))))))))))))))))))))), Nat.zero_le _, fun i hi => absurd hi (Nat.not_lt_zero i), ⟨⟨by omega, rfl, fun k hk => absurd hk (Nat.not_lt_zero k), fun k hk => (by rw [show k = 0 by omega]; rfl)⟩, ⟨by omega, fun w hw => absurd hw (Nat.not_lt_zero w), fun w i hw => absurd hw (Nat.not_lt_zero w)⟩, fun w hw => absurd hw (Nat.not_lt_zero w), fun w i hw => absurd hw (Nat.not_lt_zero w)⟩, ⟨⟨by omega, fun w hw => absurd hw (Nat.not_lt_zero w), fun w hw => absurd hw (Nat.not_lt_zero w)⟩, ⟨by omega, fun w hw => absurd hw (Nat.not_lt_zero w), fun w i hw => absurd hw (Nat.not_lt_zero w)⟩, fun w i hw => absurd hw (Nat.not_lt_zero w)⟩, ⟨Nat.zero_le _, Nat.le_refl _⟩, ⟨Nat.zero_le _, Nat.zero_le _, Nat.le_refl _, Nat.zero_le _⟩, ⟨Nat.zero_le _, Nat.le_refl _, Nat.zero_le _⟩, Or.inl ⟨rfl, Or.inl rfl⟩, Or.inl ⟨rfl, Or.inl rfl⟩, Or.inl ⟨rfl, Or.inl rfl⟩, (hrw_x (by decide) ((hrw_x (by decide) ((hrw_x (by decide) ((hrw_x (by decide) ((hrw_x (by decide) ((hrw_x (by decide) ((hrw_x (by decide) ((hrw_x (by decide) ((hrw_x (by decide) ((hrw_x (by decide) ((hrw_x (by decide) ((hrw_x (by decide) ((hrw_x (by decide) ((hrw_x (by decide) (q1))))))))))))))))))))))))))))⟩
