/-- the pool's end, out of the number of files -/
def ps_n (S : ps_S) : Nat := 103 + 7 * (S 0 8).toNatClampNeg
/-- one call, and that the pool's end is told by the number of files -/
def f_call (S : ps_S) (a0 a1 a2 a3 a4 a5 a6 : Int32) : Option ps_S := (f_op (ps_n S) S a0 a1 a2 a3 a4 a5 a6).bind fun S9 =>
  if (a0 &&& 31) = 6 then (f_L_file (ps_n S) S a1 a2).bind fun q => if ps_n S9 = (if q.1 = 0 then ps_n S + 7 else ps_n S) then some S9 else none
  else if ps_n S9 = ps_n S then some S9 else none
def f_runs (xs : Nat → Int32) : Nat → Nat → ps_S → Option ps_S
  | 0, _, S => some S
  | c + 1, i, S => (f_call S (xs i) (xs (i + 1)) (xs (i + 2)) (xs (i + 3)) (xs (i + 4)) (xs (i + 5)) (xs (i + 6))).bind fun S9 => f_runs xs c (i + 7) S9
theorem law_lt {L j : Nat} (hL : L ≤ 3584) (hj : j ≤ 4000) : (Int32.ofNat L - 7 < nI j) ↔ L < j + 7 := by
  have h1 : (Int32.ofNat L - 7).toInt = (L : Int) - 7 := by
    rw [Int32.toInt_sub]
    have h2 : (Int32.ofNat L).toInt = (L : Int) := nI_toInt (n := L) (by omega)
    rw [h2]
    show Int.bmod ((L : Int) - 7) (2 ^ 32) = _
    rw [Int.bmod_def]
    split <;> omega
  rw [Int32.lt_iff_toInt_lt, h1, nI_toInt (by omega)]
  omega
theorem law_add {j k : Nat} {x : Int32} (hx : x = nI k) (hj : j + k < 2 ^ 31) : (nI j + x).toNatClampNeg = j + k := by
  rw [hx, nI_add, nI_clamp hj]
theorem law_vin {j k L : Nat} {x : Int32} (hx : x = nI k) (hj : j + k < L) (hL : L ≤ 3584) : vp_in (nI j + x) L := by
  rw [hx, nI_add]
  exact nI_in hj (by omega)
set_option maxHeartbeats 4000000 in
theorem law_switch {G : ps_G} {nL kc ks : Nat} {w : ps_X} {S : ps_S} {lv : List (Nat × Value)} {rest : List Value} {own : String} {Ts : List Cond} {R : Room} (hG : ps_ok G code own nL Ts R) {x : Int32} (k0 : x = 0 → ps_V G nL kc ks w S 144 lv rest) (k1 : x = 1 → ps_V G nL kc ks w S 224 lv rest) (k2 : x = 2 → ps_V G nL kc ks w S 315 lv rest) (k3 : x = 3 → ps_V G nL kc ks w S 395 lv rest) (k4 : x = 4 → ps_V G nL kc ks w S 475 lv rest) (k5 : x = 5 → ps_V G nL kc ks w S 488 lv rest) (k6 : x = 6 → ps_V G nL kc ks w S 556 lv rest) (k7 : x = 7 → ps_V G nL kc ks w S 624 lv rest) (k8 : x = 8 → ps_V G nL kc ks w S 704 lv rest) (k9 : x = 9 → ps_V G nL kc ks w S 779 lv rest) (k10 : x = 10 → ps_V G nL kc ks w S 835 lv rest) (k11 : x = 11 → ps_V G nL kc ks w S 915 lv rest) (k12 : x = 12 → ps_V G nL kc ks w S 1040 lv rest) (k13 : x = 13 → ps_V G nL kc ks w S 1108 lv rest) (k14 : x = 14 → ps_V G nL kc ks w S 1176 lv rest) (k15 : x = 15 → ps_V G nL kc ks w S 1220 lv rest) (k16 : x = 16 → ps_V G nL kc ks w S 1312 lv rest) (k17 : x = 17 → ps_V G nL kc ks w S 1380 lv rest) (k18 : x = 18 → ps_V G nL kc ks w S 1436 lv rest) (k19 : x = 19 → ps_V G nL kc ks w S 1449 lv rest) (k20 : x = 20 → ps_V G nL kc ks w S 1517 lv rest) (k21 : x = 21 → ps_V G nL kc ks w S 1530 lv rest) (kd : ¬ x = 0 → ¬ x = 1 → ¬ x = 2 → ¬ x = 3 → ¬ x = 4 → ¬ x = 5 → ¬ x = 6 → ¬ x = 7 → ¬ x = 8 → ¬ x = 9 → ¬ x = 10 → ¬ x = 11 → ¬ x = 12 → ¬ x = 13 → ¬ x = 14 → ¬ x = 15 → ¬ x = 16 → ¬ x = 17 → ¬ x = 18 → ¬ x = 19 → ¬ x = 20 → ¬ x = 21 → ps_V G nL kc ks w S 1586 lv rest) : ps_V G nL kc ks w S 40 lv (.int x :: rest) := fun H locs ls hP hD hS hi hl => by
  by_cases c0 : x = 0
  · subst c0
    exact lv_tableIn hG.1.1 hG.1.2.1 dL_law_40 (by decide) (by decide) rfl (by decide) (k0 rfl H locs ls hP hD hS hi hl)
  by_cases c1 : x = 1
  · subst c1
    exact lv_tableIn hG.1.1 hG.1.2.1 dL_law_40 (by decide) (by decide) rfl (by decide) (k1 rfl H locs ls hP hD hS hi hl)
  by_cases c2 : x = 2
  · subst c2
    exact lv_tableIn hG.1.1 hG.1.2.1 dL_law_40 (by decide) (by decide) rfl (by decide) (k2 rfl H locs ls hP hD hS hi hl)
  by_cases c3 : x = 3
  · subst c3
    exact lv_tableIn hG.1.1 hG.1.2.1 dL_law_40 (by decide) (by decide) rfl (by decide) (k3 rfl H locs ls hP hD hS hi hl)
  by_cases c4 : x = 4
  · subst c4
    exact lv_tableIn hG.1.1 hG.1.2.1 dL_law_40 (by decide) (by decide) rfl (by decide) (k4 rfl H locs ls hP hD hS hi hl)
  by_cases c5 : x = 5
  · subst c5
    exact lv_tableIn hG.1.1 hG.1.2.1 dL_law_40 (by decide) (by decide) rfl (by decide) (k5 rfl H locs ls hP hD hS hi hl)
  by_cases c6 : x = 6
  · subst c6
    exact lv_tableIn hG.1.1 hG.1.2.1 dL_law_40 (by decide) (by decide) rfl (by decide) (k6 rfl H locs ls hP hD hS hi hl)
  by_cases c7 : x = 7
  · subst c7
    exact lv_tableIn hG.1.1 hG.1.2.1 dL_law_40 (by decide) (by decide) rfl (by decide) (k7 rfl H locs ls hP hD hS hi hl)
  by_cases c8 : x = 8
  · subst c8
    exact lv_tableIn hG.1.1 hG.1.2.1 dL_law_40 (by decide) (by decide) rfl (by decide) (k8 rfl H locs ls hP hD hS hi hl)
  by_cases c9 : x = 9
  · subst c9
    exact lv_tableIn hG.1.1 hG.1.2.1 dL_law_40 (by decide) (by decide) rfl (by decide) (k9 rfl H locs ls hP hD hS hi hl)
  by_cases c10 : x = 10
  · subst c10
    exact lv_tableIn hG.1.1 hG.1.2.1 dL_law_40 (by decide) (by decide) rfl (by decide) (k10 rfl H locs ls hP hD hS hi hl)
  by_cases c11 : x = 11
  · subst c11
    exact lv_tableIn hG.1.1 hG.1.2.1 dL_law_40 (by decide) (by decide) rfl (by decide) (k11 rfl H locs ls hP hD hS hi hl)
  by_cases c12 : x = 12
  · subst c12
    exact lv_tableIn hG.1.1 hG.1.2.1 dL_law_40 (by decide) (by decide) rfl (by decide) (k12 rfl H locs ls hP hD hS hi hl)
  by_cases c13 : x = 13
  · subst c13
    exact lv_tableIn hG.1.1 hG.1.2.1 dL_law_40 (by decide) (by decide) rfl (by decide) (k13 rfl H locs ls hP hD hS hi hl)
  by_cases c14 : x = 14
  · subst c14
    exact lv_tableIn hG.1.1 hG.1.2.1 dL_law_40 (by decide) (by decide) rfl (by decide) (k14 rfl H locs ls hP hD hS hi hl)
  by_cases c15 : x = 15
  · subst c15
    exact lv_tableIn hG.1.1 hG.1.2.1 dL_law_40 (by decide) (by decide) rfl (by decide) (k15 rfl H locs ls hP hD hS hi hl)
  by_cases c16 : x = 16
  · subst c16
    exact lv_tableIn hG.1.1 hG.1.2.1 dL_law_40 (by decide) (by decide) rfl (by decide) (k16 rfl H locs ls hP hD hS hi hl)
  by_cases c17 : x = 17
  · subst c17
    exact lv_tableIn hG.1.1 hG.1.2.1 dL_law_40 (by decide) (by decide) rfl (by decide) (k17 rfl H locs ls hP hD hS hi hl)
  by_cases c18 : x = 18
  · subst c18
    exact lv_tableIn hG.1.1 hG.1.2.1 dL_law_40 (by decide) (by decide) rfl (by decide) (k18 rfl H locs ls hP hD hS hi hl)
  by_cases c19 : x = 19
  · subst c19
    exact lv_tableIn hG.1.1 hG.1.2.1 dL_law_40 (by decide) (by decide) rfl (by decide) (k19 rfl H locs ls hP hD hS hi hl)
  by_cases c20 : x = 20
  · subst c20
    exact lv_tableIn hG.1.1 hG.1.2.1 dL_law_40 (by decide) (by decide) rfl (by decide) (k20 rfl H locs ls hP hD hS hi hl)
  by_cases c21 : x = 21
  · subst c21
    exact lv_tableIn hG.1.1 hG.1.2.1 dL_law_40 (by decide) (by decide) rfl (by decide) (k21 rfl H locs ls hP hD hS hi hl)
  refine lv_tableOut hG.1.1 hG.1.2.1 dL_law_40 ?_ (by decide) (kd c0 c1 c2 c3 c4 c5 c6 c7 c8 c9 c10 c11 c12 c13 c14 c15 c16 c17 c18 c19 c20 c21 H locs ls hP hD hS hi hl)
  have e0 : x.toInt ≠ 0 := fun q => c0 (Int32.toInt_inj.mp q)
  have e1 : x.toInt ≠ 1 := fun q => c1 (Int32.toInt_inj.mp q)
  have e2 : x.toInt ≠ 2 := fun q => c2 (Int32.toInt_inj.mp q)
  have e3 : x.toInt ≠ 3 := fun q => c3 (Int32.toInt_inj.mp q)
  have e4 : x.toInt ≠ 4 := fun q => c4 (Int32.toInt_inj.mp q)
  have e5 : x.toInt ≠ 5 := fun q => c5 (Int32.toInt_inj.mp q)
  have e6 : x.toInt ≠ 6 := fun q => c6 (Int32.toInt_inj.mp q)
  have e7 : x.toInt ≠ 7 := fun q => c7 (Int32.toInt_inj.mp q)
  have e8 : x.toInt ≠ 8 := fun q => c8 (Int32.toInt_inj.mp q)
  have e9 : x.toInt ≠ 9 := fun q => c9 (Int32.toInt_inj.mp q)
  have e10 : x.toInt ≠ 10 := fun q => c10 (Int32.toInt_inj.mp q)
  have e11 : x.toInt ≠ 11 := fun q => c11 (Int32.toInt_inj.mp q)
  have e12 : x.toInt ≠ 12 := fun q => c12 (Int32.toInt_inj.mp q)
  have e13 : x.toInt ≠ 13 := fun q => c13 (Int32.toInt_inj.mp q)
  have e14 : x.toInt ≠ 14 := fun q => c14 (Int32.toInt_inj.mp q)
  have e15 : x.toInt ≠ 15 := fun q => c15 (Int32.toInt_inj.mp q)
  have e16 : x.toInt ≠ 16 := fun q => c16 (Int32.toInt_inj.mp q)
  have e17 : x.toInt ≠ 17 := fun q => c17 (Int32.toInt_inj.mp q)
  have e18 : x.toInt ≠ 18 := fun q => c18 (Int32.toInt_inj.mp q)
  have e19 : x.toInt ≠ 19 := fun q => c19 (Int32.toInt_inj.mp q)
  have e20 : x.toInt ≠ 20 := fun q => c20 (Int32.toInt_inj.mp q)
  have e21 : x.toInt ≠ 21 := fun q => c21 (Int32.toInt_inj.mp q)
  omega
set_option maxHeartbeats 4000000 in
set_option maxRecDepth 100000 in
theorem law_loop {G : ps_G} {b L : Nat} {xs : Nat → Int32} (hC : law_ctx G b L xs) (hL : L ≤ 3584) (hend : ∀ w S lv kc ks, kc ≤ 601024 → ks ≤ 7293034 → ps_V G 7 kc ks w S 1592 lv []) :
    ∀ (c j : Nat) (S S9 : ps_S) (ad : Nat → Nat), c + j = L / 7 → f_runs xs c (7 * j) S = some S9 → ps_V G 7 (103 + 16 * j) (15000 + 64 * j) (ps_n S, ad, ps_T) S 23 [(4, .int (nI (7 * j))), (3, .ref (ad 102)), (2, .ref (ad 80)), (1, .ref (ad 0)), (0, .ref b)] [] := by
  intro c
  induction c with
  | zero =>
    intro j S S9 ad hcj h
    obtain ⟨hG, hXW, hX, hbl, hbA, hst⟩ := hC
    refine ps_iload hG dL_law_23 0 rfl ?_
    refine ps_aload_n hG dL_law_25 rfl 4 rfl ?_
    refine ps_slen hG hX hbl hbA dL_law_26 ?_
    refine ps_bipush (v := 7) hG dL_law_27 (by decide) ?_
    refine ps_isub hG dL_law_29 ?_
    refine ps_icmp_gt (tgt := 1592) hG dL_law_30 (by decide) (fun c9 => ?_) (fun c9 => ?_)
    · exact hend _ _ _ _ _ (by omega) (by omega)
    · exact absurd ((law_lt hL (by omega)).mpr (by omega)) c9
  | succ c ih =>
    intro j S S9 ad hcj h
    have hC0 := hC
    obtain ⟨hG, hXW, hX, hbl, hbA, hst⟩ := hC
    obtain ⟨S1, h1, h⟩ := ps_bd h
    obtain ⟨S2, h2, h3⟩ := ps_bd h1
    have hj : 7 * j + 6 < L := by omega
    have hw : ps_ww (ps_n S, ad, ps_T) := ⟨by show 103 ≤ 103 + 7 * _; omega, fun _ _ => rfl⟩
    have v0 : vp_in (nI (7 * j)) L := nI_in (by omega) (by omega)
    have v1 : vp_in (nI (7 * j) + 1) L := law_vin (k := 1) rfl (by omega) hL
    have e1 : (nI (7 * j) + 1).toNatClampNeg = 7 * j + 1 := law_add (k := 1) rfl (by omega)
    have v2 : vp_in (nI (7 * j) + 2) L := law_vin (k := 2) rfl (by omega) hL
    have e2 : (nI (7 * j) + 2).toNatClampNeg = 7 * j + 2 := law_add (k := 2) rfl (by omega)
    have v3 : vp_in (nI (7 * j) + 3) L := law_vin (k := 3) rfl (by omega) hL
    have e3 : (nI (7 * j) + 3).toNatClampNeg = 7 * j + 3 := law_add (k := 3) rfl (by omega)
    have v4 : vp_in (nI (7 * j) + 4) L := law_vin (k := 4) rfl (by omega) hL
    have e4 : (nI (7 * j) + 4).toNatClampNeg = 7 * j + 4 := law_add (k := 4) rfl (by omega)
    have v5 : vp_in (nI (7 * j) + 5) L := law_vin (k := 5) rfl (by omega) hL
    have e5 : (nI (7 * j) + 5).toNatClampNeg = 7 * j + 5 := law_add (k := 5) rfl (by omega)
    have v6 : vp_in (nI (7 * j) + 6) L := law_vin (k := 6) rfl (by omega) hL
    have e6 : (nI (7 * j) + 6).toNatClampNeg = 7 * j + 6 := law_add (k := 6) rfl (by omega)
    have e0 : (nI (7 * j)).toNatClampNeg = 7 * j := nI_clamp (by omega)
    have hr : (103 + 16 * j) + 16 ≤ 601024 ∧ (15000 + 64 * j) + 64 ≤ 7293034 := ⟨by omega, by omega⟩
    have hgo : ∀ (ad2 : Nat → Nat) (n2 : Nat), n2 = ps_n S1 → ps_V G 7 (103 + 16 * j + 16) (15000 + 64 * j + 64) (n2, ad2, ps_T) S1 1586 [(4, .int (nI (7 * j))), (3, .ref (ad2 102)), (2, .ref (ad2 80)), (1, .ref (ad2 0)), (0, .ref b)] [] := by
      intro ad2 n2 hn2
      subst hn2
      refine ps_iinc (v := nI (7 * (j + 1))) (lv' := [(4, .int (nI (7 * (j + 1)))), (3, .ref (ad2 102)), (2, .ref (ad2 80)), (1, .ref (ad2 0)), (0, .ref b)]) hG dL_law_1586 0 rfl (nI_add (7 * j) 7) (by decide) rfl ?_
      refine ps_goto (tgt := 23) hG dL_law_1589 (by decide) ?_
      exact ih (j + 1) S1 S9 ad2 (by omega) h
    refine ps_iload hG dL_law_23 0 rfl ?_
    refine ps_aload_n hG dL_law_25 rfl 4 rfl ?_
    refine ps_slen hG hX hbl hbA dL_law_26 ?_
    refine ps_bipush (v := 7) hG dL_law_27 (by decide) ?_
    refine ps_isub hG dL_law_29 ?_
    refine ps_icmp_gt (tgt := 1592) hG dL_law_30 (by decide) (fun c9 => ?_) (fun c9 => ?_)
    · exact absurd ((law_lt hL (by omega)).mp c9) (by omega)
    refine ps_aload_n hG dL_law_33 rfl 4 rfl ?_
    refine ps_iload hG dL_law_34 0 rfl ?_
    refine ps_sld hG hX hbl hbA v0 dL_law_36 ?_
    rw [e0]
    refine ps_bipush (v := 31) hG dL_law_37 (by decide) ?_
    refine ps_iand hG dL_law_39 ?_
    have hop : f_op (ps_n S) S (xs (7 * j)) (xs (7 * j + 1)) (xs (7 * j + 2)) (xs (7 * j + 3)) (xs (7 * j + 4)) (xs (7 * j + 5)) (xs (7 * j + 6)) = some S2 := h2
    unfold f_op at hop
    rw [← e1, ← e2, ← e3, ← e4, ← e5, ← e6] at hop
    generalize hx : xs (7 * j) &&& 31 = x at h3 hop
    have hS : ¬ x = 6 → S2 = S1 ∧ ps_n S = ps_n S1 := fun h6 => by
      have h4 := ps_in h6 h3
      obtain ⟨h5, h4⟩ := ps_ig h4
      cases h4
      exact ⟨rfl, h5.symm⟩
    refine law_switch hG (fun cx => ?_) (fun cx => ?_) (fun cx => ?_) (fun cx => ?_) (fun cx => ?_) (fun cx => ?_) (fun cx => ?_) (fun cx => ?_) (fun cx => ?_) (fun cx => ?_) (fun cx => ?_) (fun cx => ?_) (fun cx => ?_) (fun cx => ?_) (fun cx => ?_) (fun cx => ?_) (fun cx => ?_) (fun cx => ?_) (fun cx => ?_) (fun cx => ?_) (fun cx => ?_) (fun cx => ?_) (fun d0 d1 d2 d3 d4 d5 d6 d7 d8 d9 d10 d11 d12 d13 d14 d15 d16 d17 d18 d19 d20 d21 => ?_)
    · subst cx
      replace hop := ps_ip rfl hop
      obtain ⟨rfl, hn9⟩ := hS (by decide)
      exact law_c0 hC0 hw hr v1 v2 v3 hop (hgo ad _ hn9)
    · subst cx
      replace hop := ps_in (by decide) hop
      replace hop := ps_ip rfl hop
      obtain ⟨rfl, hn9⟩ := hS (by decide)
      exact law_c1 hC0 hw hr v1 v2 hop (hgo ad _ hn9)
    · subst cx
      replace hop := ps_in (by decide) hop
      replace hop := ps_in (by decide) hop
      replace hop := ps_ip rfl hop
      obtain ⟨rfl, hn9⟩ := hS (by decide)
      exact law_c2 hC0 hw hr v1 v2 v3 hop (hgo ad _ hn9)
    · subst cx
      replace hop := ps_in (by decide) hop
      replace hop := ps_in (by decide) hop
      replace hop := ps_in (by decide) hop
      replace hop := ps_ip rfl hop
      obtain ⟨rfl, hn9⟩ := hS (by decide)
      exact law_c3 hC0 hw hr v1 v2 v3 hop (hgo ad _ hn9)
    · subst cx
      replace hop := ps_in (by decide) hop
      replace hop := ps_in (by decide) hop
      replace hop := ps_in (by decide) hop
      replace hop := ps_in (by decide) hop
      replace hop := ps_ip rfl hop
      obtain ⟨rfl, hn9⟩ := hS (by decide)
      exact law_c4 hC0 hw hr  hop (hgo ad _ hn9)
    · subst cx
      replace hop := ps_in (by decide) hop
      replace hop := ps_in (by decide) hop
      replace hop := ps_in (by decide) hop
      replace hop := ps_in (by decide) hop
      replace hop := ps_in (by decide) hop
      replace hop := ps_ip rfl hop
      obtain ⟨rfl, hn9⟩ := hS (by decide)
      exact law_c5 hC0 hw hr v1 v2 hop (hgo ad _ hn9)
    · subst cx
      replace hop := ps_in (by decide) hop
      replace hop := ps_in (by decide) hop
      replace hop := ps_in (by decide) hop
      replace hop := ps_in (by decide) hop
      replace hop := ps_in (by decide) hop
      replace hop := ps_in (by decide) hop
      replace hop := ps_ip rfl hop
      have h4 := ps_ip rfl h3
      obtain ⟨⟨q1, q2⟩, hq, h4⟩ := ps_bd h4
      obtain ⟨h5, h4⟩ := ps_ig h4
      cases h4
      refine law_c6 hC0 hw hr rfl v1 v2 hop (fun ad2 n2 had2 hn2 => hgo ad2 n2 ?_)
      rw [e1, e2] at hn2
      rw [hn2 q1 q2 hq]
      exact h5.symm
    · subst cx
      replace hop := ps_in (by decide) hop
      replace hop := ps_in (by decide) hop
      replace hop := ps_in (by decide) hop
      replace hop := ps_in (by decide) hop
      replace hop := ps_in (by decide) hop
      replace hop := ps_in (by decide) hop
      replace hop := ps_in (by decide) hop
      replace hop := ps_ip rfl hop
      obtain ⟨rfl, hn9⟩ := hS (by decide)
      exact law_c7 hC0 hw hr v1 v2 v3 hop (hgo ad _ hn9)
    · subst cx
      replace hop := ps_in (by decide) hop
      replace hop := ps_in (by decide) hop
      replace hop := ps_in (by decide) hop
      replace hop := ps_in (by decide) hop
      replace hop := ps_in (by decide) hop
      replace hop := ps_in (by decide) hop
      replace hop := ps_in (by decide) hop
      replace hop := ps_in (by decide) hop
      replace hop := ps_ip rfl hop
      obtain ⟨rfl, hn9⟩ := hS (by decide)
      exact law_c8 hC0 hw hr v1 v2 hop (hgo ad _ hn9)
    · subst cx
      replace hop := ps_in (by decide) hop
      replace hop := ps_in (by decide) hop
      replace hop := ps_in (by decide) hop
      replace hop := ps_in (by decide) hop
      replace hop := ps_in (by decide) hop
      replace hop := ps_in (by decide) hop
      replace hop := ps_in (by decide) hop
      replace hop := ps_in (by decide) hop
      replace hop := ps_in (by decide) hop
      replace hop := ps_ip rfl hop
      obtain ⟨rfl, hn9⟩ := hS (by decide)
      exact law_c9 hC0 hw hr v1 hop (hgo ad _ hn9)
    · subst cx
      replace hop := ps_in (by decide) hop
      replace hop := ps_in (by decide) hop
      replace hop := ps_in (by decide) hop
      replace hop := ps_in (by decide) hop
      replace hop := ps_in (by decide) hop
      replace hop := ps_in (by decide) hop
      replace hop := ps_in (by decide) hop
      replace hop := ps_in (by decide) hop
      replace hop := ps_in (by decide) hop
      replace hop := ps_in (by decide) hop
      replace hop := ps_ip rfl hop
      obtain ⟨rfl, hn9⟩ := hS (by decide)
      exact law_c10 hC0 hw hr v1 v2 v3 hop (hgo ad _ hn9)
    · subst cx
      replace hop := ps_in (by decide) hop
      replace hop := ps_in (by decide) hop
      replace hop := ps_in (by decide) hop
      replace hop := ps_in (by decide) hop
      replace hop := ps_in (by decide) hop
      replace hop := ps_in (by decide) hop
      replace hop := ps_in (by decide) hop
      replace hop := ps_in (by decide) hop
      replace hop := ps_in (by decide) hop
      replace hop := ps_in (by decide) hop
      replace hop := ps_in (by decide) hop
      replace hop := ps_ip rfl hop
      obtain ⟨rfl, hn9⟩ := hS (by decide)
      exact law_c11 hC0 hw hr v1 v2 v3 v4 v5 v6 hop (hgo ad _ hn9)
    · subst cx
      replace hop := ps_in (by decide) hop
      replace hop := ps_in (by decide) hop
      replace hop := ps_in (by decide) hop
      replace hop := ps_in (by decide) hop
      replace hop := ps_in (by decide) hop
      replace hop := ps_in (by decide) hop
      replace hop := ps_in (by decide) hop
      replace hop := ps_in (by decide) hop
      replace hop := ps_in (by decide) hop
      replace hop := ps_in (by decide) hop
      replace hop := ps_in (by decide) hop
      replace hop := ps_in (by decide) hop
      replace hop := ps_ip rfl hop
      obtain ⟨rfl, hn9⟩ := hS (by decide)
      exact law_c12 hC0 hw hr v1 v2 hop (hgo ad _ hn9)
    · subst cx
      replace hop := ps_in (by decide) hop
      replace hop := ps_in (by decide) hop
      replace hop := ps_in (by decide) hop
      replace hop := ps_in (by decide) hop
      replace hop := ps_in (by decide) hop
      replace hop := ps_in (by decide) hop
      replace hop := ps_in (by decide) hop
      replace hop := ps_in (by decide) hop
      replace hop := ps_in (by decide) hop
      replace hop := ps_in (by decide) hop
      replace hop := ps_in (by decide) hop
      replace hop := ps_in (by decide) hop
      replace hop := ps_in (by decide) hop
      replace hop := ps_ip rfl hop
      obtain ⟨rfl, hn9⟩ := hS (by decide)
      exact law_c13 hC0 hw hr v1 v2 hop (hgo ad _ hn9)
    · subst cx
      replace hop := ps_in (by decide) hop
      replace hop := ps_in (by decide) hop
      replace hop := ps_in (by decide) hop
      replace hop := ps_in (by decide) hop
      replace hop := ps_in (by decide) hop
      replace hop := ps_in (by decide) hop
      replace hop := ps_in (by decide) hop
      replace hop := ps_in (by decide) hop
      replace hop := ps_in (by decide) hop
      replace hop := ps_in (by decide) hop
      replace hop := ps_in (by decide) hop
      replace hop := ps_in (by decide) hop
      replace hop := ps_in (by decide) hop
      replace hop := ps_in (by decide) hop
      replace hop := ps_ip rfl hop
      obtain ⟨rfl, hn9⟩ := hS (by decide)
      exact law_c14 hC0 hw hr  hop (hgo ad _ hn9)
    · subst cx
      replace hop := ps_in (by decide) hop
      replace hop := ps_in (by decide) hop
      replace hop := ps_in (by decide) hop
      replace hop := ps_in (by decide) hop
      replace hop := ps_in (by decide) hop
      replace hop := ps_in (by decide) hop
      replace hop := ps_in (by decide) hop
      replace hop := ps_in (by decide) hop
      replace hop := ps_in (by decide) hop
      replace hop := ps_in (by decide) hop
      replace hop := ps_in (by decide) hop
      replace hop := ps_in (by decide) hop
      replace hop := ps_in (by decide) hop
      replace hop := ps_in (by decide) hop
      replace hop := ps_in (by decide) hop
      replace hop := ps_ip rfl hop
      obtain ⟨rfl, hn9⟩ := hS (by decide)
      exact law_c15 hC0 hw hr v1 v2 v3 v4 hop (hgo ad _ hn9)
    · subst cx
      replace hop := ps_in (by decide) hop
      replace hop := ps_in (by decide) hop
      replace hop := ps_in (by decide) hop
      replace hop := ps_in (by decide) hop
      replace hop := ps_in (by decide) hop
      replace hop := ps_in (by decide) hop
      replace hop := ps_in (by decide) hop
      replace hop := ps_in (by decide) hop
      replace hop := ps_in (by decide) hop
      replace hop := ps_in (by decide) hop
      replace hop := ps_in (by decide) hop
      replace hop := ps_in (by decide) hop
      replace hop := ps_in (by decide) hop
      replace hop := ps_in (by decide) hop
      replace hop := ps_in (by decide) hop
      replace hop := ps_in (by decide) hop
      replace hop := ps_ip rfl hop
      obtain ⟨rfl, hn9⟩ := hS (by decide)
      exact law_c16 hC0 hw hr v1 v2 hop (hgo ad _ hn9)
    · subst cx
      replace hop := ps_in (by decide) hop
      replace hop := ps_in (by decide) hop
      replace hop := ps_in (by decide) hop
      replace hop := ps_in (by decide) hop
      replace hop := ps_in (by decide) hop
      replace hop := ps_in (by decide) hop
      replace hop := ps_in (by decide) hop
      replace hop := ps_in (by decide) hop
      replace hop := ps_in (by decide) hop
      replace hop := ps_in (by decide) hop
      replace hop := ps_in (by decide) hop
      replace hop := ps_in (by decide) hop
      replace hop := ps_in (by decide) hop
      replace hop := ps_in (by decide) hop
      replace hop := ps_in (by decide) hop
      replace hop := ps_in (by decide) hop
      replace hop := ps_in (by decide) hop
      replace hop := ps_ip rfl hop
      obtain ⟨rfl, hn9⟩ := hS (by decide)
      exact law_c17 hC0 hw hr v1 hop (hgo ad _ hn9)
    · subst cx
      replace hop := ps_in (by decide) hop
      replace hop := ps_in (by decide) hop
      replace hop := ps_in (by decide) hop
      replace hop := ps_in (by decide) hop
      replace hop := ps_in (by decide) hop
      replace hop := ps_in (by decide) hop
      replace hop := ps_in (by decide) hop
      replace hop := ps_in (by decide) hop
      replace hop := ps_in (by decide) hop
      replace hop := ps_in (by decide) hop
      replace hop := ps_in (by decide) hop
      replace hop := ps_in (by decide) hop
      replace hop := ps_in (by decide) hop
      replace hop := ps_in (by decide) hop
      replace hop := ps_in (by decide) hop
      replace hop := ps_in (by decide) hop
      replace hop := ps_in (by decide) hop
      replace hop := ps_in (by decide) hop
      replace hop := ps_ip rfl hop
      obtain ⟨rfl, hn9⟩ := hS (by decide)
      exact law_c18 hC0 hw hr  hop (hgo ad _ hn9)
    · subst cx
      replace hop := ps_in (by decide) hop
      replace hop := ps_in (by decide) hop
      replace hop := ps_in (by decide) hop
      replace hop := ps_in (by decide) hop
      replace hop := ps_in (by decide) hop
      replace hop := ps_in (by decide) hop
      replace hop := ps_in (by decide) hop
      replace hop := ps_in (by decide) hop
      replace hop := ps_in (by decide) hop
      replace hop := ps_in (by decide) hop
      replace hop := ps_in (by decide) hop
      replace hop := ps_in (by decide) hop
      replace hop := ps_in (by decide) hop
      replace hop := ps_in (by decide) hop
      replace hop := ps_in (by decide) hop
      replace hop := ps_in (by decide) hop
      replace hop := ps_in (by decide) hop
      replace hop := ps_in (by decide) hop
      replace hop := ps_in (by decide) hop
      replace hop := ps_ip rfl hop
      obtain ⟨rfl, hn9⟩ := hS (by decide)
      exact law_c19 hC0 hw hr v1 v2 hop (hgo ad _ hn9)
    · subst cx
      replace hop := ps_in (by decide) hop
      replace hop := ps_in (by decide) hop
      replace hop := ps_in (by decide) hop
      replace hop := ps_in (by decide) hop
      replace hop := ps_in (by decide) hop
      replace hop := ps_in (by decide) hop
      replace hop := ps_in (by decide) hop
      replace hop := ps_in (by decide) hop
      replace hop := ps_in (by decide) hop
      replace hop := ps_in (by decide) hop
      replace hop := ps_in (by decide) hop
      replace hop := ps_in (by decide) hop
      replace hop := ps_in (by decide) hop
      replace hop := ps_in (by decide) hop
      replace hop := ps_in (by decide) hop
      replace hop := ps_in (by decide) hop
      replace hop := ps_in (by decide) hop
      replace hop := ps_in (by decide) hop
      replace hop := ps_in (by decide) hop
      replace hop := ps_in (by decide) hop
      replace hop := ps_ip rfl hop
      obtain ⟨rfl, hn9⟩ := hS (by decide)
      exact law_c20 hC0 hw hr  hop (hgo ad _ hn9)
    · subst cx
      replace hop := ps_in (by decide) hop
      replace hop := ps_in (by decide) hop
      replace hop := ps_in (by decide) hop
      replace hop := ps_in (by decide) hop
      replace hop := ps_in (by decide) hop
      replace hop := ps_in (by decide) hop
      replace hop := ps_in (by decide) hop
      replace hop := ps_in (by decide) hop
      replace hop := ps_in (by decide) hop
      replace hop := ps_in (by decide) hop
      replace hop := ps_in (by decide) hop
      replace hop := ps_in (by decide) hop
      replace hop := ps_in (by decide) hop
      replace hop := ps_in (by decide) hop
      replace hop := ps_in (by decide) hop
      replace hop := ps_in (by decide) hop
      replace hop := ps_in (by decide) hop
      replace hop := ps_in (by decide) hop
      replace hop := ps_in (by decide) hop
      replace hop := ps_in (by decide) hop
      replace hop := ps_in (by decide) hop
      replace hop := ps_ip rfl hop
      obtain ⟨rfl, hn9⟩ := hS (by decide)
      exact law_c21 hC0 hw hr v1 hop (hgo ad _ hn9)
    · skip
      replace hop := ps_in d0 hop
      replace hop := ps_in d1 hop
      replace hop := ps_in d2 hop
      replace hop := ps_in d3 hop
      replace hop := ps_in d4 hop
      replace hop := ps_in d5 hop
      replace hop := ps_in d6 hop
      replace hop := ps_in d7 hop
      replace hop := ps_in d8 hop
      replace hop := ps_in d9 hop
      replace hop := ps_in d10 hop
      replace hop := ps_in d11 hop
      replace hop := ps_in d12 hop
      replace hop := ps_in d13 hop
      replace hop := ps_in d14 hop
      replace hop := ps_in d15 hop
      replace hop := ps_in d16 hop
      replace hop := ps_in d17 hop
      replace hop := ps_in d18 hop
      replace hop := ps_in d19 hop
      replace hop := ps_in d20 hop
      replace hop := ps_in d21 hop
      cases hop
      obtain ⟨rfl, hn9⟩ := hS d6
      exact ps_widen (by omega) (by omega) (hgo ad _ hn9)
