/-! a day -/
section
variable {np nf c B f o k : Nat} {id so on : Nat → Int32} {kp : Nat → Nat → List Nat} {C M C' M' S T C0 M0 : ps_S} {D : Nat → Nat → Nat} {ow : Nat → Nat}
theorem cp_congr1 (h : pu_CP np id so on kp C) (hn : np ≤ 16) (hf : ∀ a c, 0 < a → a < 22 → C' a c = C a c) : pu_CP np id so on kp C' := by
  refine ⟨by rw [hf 1 4 (by omega) (by omega)]; exact h.1, fun x hx => ?_⟩
  obtain ⟨e1, e2, e3, e4⟩ := h.2 x hx
  exact ⟨by rw [hf 2 x (by omega) (by omega)]; exact e1, by rw [hf 3 x (by omega) (by omega)]; exact e2, by rw [hf 4 x (by omega) (by omega)]; exact e3, fun c hc => by rw [hf _ _ (by omega) (by omega), hf _ _ (by omega) (by omega)]; exact e4 c hc⟩
/-- what a day's steps leave as it is -/
def pa_fr (C C' M M' : ps_S) : Prop := (∀ a b, ((80 ≤ a ∧ a ≤ 102) ∨ a = 0) → C' a b = C a b) ∧ ∀ a b, ((a < 80 ∨ 102 ≤ a) ∨ (a = 80 ∧ b ≤ 1)) → M' a b = M a b
theorem pa_t {C'' M'' : ps_S} (h : pa_fr C C' M M') (h2 : pa_fr C' C'' M' M'') : pa_fr C C'' M M'' := ⟨fun a b x => (h2.1 a b x).trans (h.1 a b x), fun a b x => (h2.2 a b x).trans (h.2 a b x)⟩
theorem pa_r : pa_fr C C M M := ⟨fun _ _ _ => rfl, fun _ _ _ => rfl⟩
theorem pa_st (h : st_fr f k C C' M M') : pa_fr C C' M M' := ⟨fun a b x => h.1 a b (by omega) (by omega) (by omega) (by omega), fun a b x => h.2 a b (by omega) (by omega) (by omega)⟩
theorem pa_ch (h : ch_fr f C C' M M') : pa_fr C C' M M' := ⟨fun a b x => h.1 a b (by omega) (by omega) (by omega) (by omega), fun a b x => h.2 a b (by omega) (by omega)⟩
theorem cr_cnt (P : rl_P np id so on kp C M) (H : rl_H np f o C M) : ps_it (fun (a : Int32 × Int32 × Int32) => f_X1_isToRepair_L7 C (103 + 7 * f) a.1 a.2.1 a.2.2) ps_fu (0, 0, 0) = some (nI (pu_ch M f 6), nI (pu_ct M f 6)) := by
  refine pu_it0 (step := fun (a : Int32 × Int32 × Int32) => f_X1_isToRepair_L7 C (103 + 7 * f) a.1 a.2.1 a.2.2) (fun j => (nI (pu_ch M f j), nI (pu_ct M f j), nI j)) 6 (fun j hj => ?_) ?_ (by omega)
  · show f_X1_isToRepair_L7 C (103 + 7 * f) _ _ (nI j) = _
    unfold f_X1_isToRepair_L7 f_X1_isToRepair_J29 f_X1_isToRepair_J47
    rw [if_neg (lit_ge (x := 6) (n := 6) rfl hj (by omega)), x8_held hj, pu_sb, ch_hand P H hj, pu_sb, pu_sb, (H j hj).1.1, ← ct_step, ← ch_step, nI_1]
    rcases th_01 M (6 * f + j) with e | e
    · rw [e]
      by_cases e2 : M 93 (6 * f + j) = -1
      · rw [if_pos e2, if_pos rfl, if_pos rfl]
      · rw [if_neg e2, if_neg (show ¬ (1 : Int32) = 0 by decide), if_pos rfl]
    · rw [e]
      by_cases e2 : M 93 (6 * f + j) = -1
      · exact absurd e2 (th_held e)
      · rw [if_neg e2, if_neg (show ¬ (1 : Int32) = 0 by decide), if_neg (show ¬ (1 : Int32) = 0 by decide)]
  · show f_X1_isToRepair_L7 C (103 + 7 * f) _ _ (nI 6) = _
    unfold f_X1_isToRepair_L7
    rw [if_pos (by decide)]
theorem mr_cnt (P : rl_P np id so on kp C M) (hf : f < 12) (H : rl_H np f o C M) : ps_it (fun (a : Int32 × Int32 × Int32) => f_X11_repairs_L10 M (nI f) a.1 a.2.1 a.2.2) ps_fu (0, 0, 6 * nI f) = some (nI (pu_ch M f 6), nI (pu_ct M f 6)) := by
  have h := pu_it0 (step := fun (a : Int32 × Int32 × Int32) => f_X11_repairs_L10 M (nI f) a.1 a.2.1 a.2.2) (b := (nI (pu_ch M f 6), nI (pu_ct M f 6))) (fun j => (nI (pu_ch M f j), nI (pu_ct M f j), nI (6 * f + j))) 6 (fun j hj => ?_) ?_ (by omega)
  · rw [x6s]
    exact h
  · show f_X11_repairs_L10 M (nI f) _ _ (nI (6 * f + j)) = _
    have ib := pu_ib (i := 6 * f + j) (n := 72) (by omega) (by omega)
    have cl := nI_clamp (n := 6 * f + j) (by omega)
    have j39 : ∀ s, f_X11_repairs_J39 M (nI (pu_ch M f j)) (nI (pu_ct M f j)) (nI (6 * f + j)) s = some (.inl (nI (pu_ch M f j) + s, nI (pu_ct M f j) + pu_th M (6 * f + j), nI (6 * f + j + 1))) := by
      intro s
      unfold f_X11_repairs_J39 f_X11_repairs_J56
      rw [pu_lts, mh_there P hf H hj, pu_sb, pu_lts, pu_lts, nI_1]
      rcases th_01 M (6 * f + j) with e | e
      · rw [e, if_pos rfl]
      · rw [e, if_neg (by decide)]
    unfold f_X11_repairs_L10
    rw [x6e, if_neg (nI_ge (by omega) (by omega)), if_pos ib, cl, j39, j39, ct_step]
    have := ch_step M f j
    by_cases e2 : M 93 (6 * f + j) = -1
    · rw [if_pos e2] at this ⊢
      rw [this]
      rfl
    · rw [if_neg e2] at this ⊢
      rw [this]
      rfl
  · show f_X11_repairs_L10 M (nI f) _ _ (nI (6 * f + 6)) = _
    unfold f_X11_repairs_L10
    rw [x6e, if_pos (nI_le (Nat.le_refl _) (by omega))]
theorem sim_repair (Q : rl_Q np id so on kp nf ow D c C M) (hf : f < nf) : ∃ C' M' kp', f_X10_pass_L68 C (nI f) = some (.inl (C', nI (f + 1))) ∧ f_X11_repairs M (nI f) = some M' ∧ rl_Q np id so on kp' nf ow D c C' M' ∧ pa_fr C C' M M' := by
  have hn := Q.1.1.1
  have hnf := Q.2.2.2.2.1.1
  obtain ⟨⟨⟨ho, hCo, hMo⟩, -⟩, H⟩ := Q.2.2.2.2.2.2.1 f hf
  have h57 := (Q.2.2.2.2.2.1 f (by omega)).1 hf
  have hc6 : pu_ch M f 6 ≤ 6 := cnt_le _ _
  have ht6 : pu_ct M f 6 ≤ 6 := cnt_le _ _
  have cX : ∀ r, f_X1_isToRepair C (103 + 7 * f) = some r → f_X10_pass_L68 C (nI f) = if r = 0 then some (.inl (C, nI (f + 1))) else (f_X1_storeMissing C (103 + 7 * f)).bind fun S => some (.inl (S, nI (f + 1))) := by
    intro r hr
    unfold f_X10_pass_L68 f_X10_pass_J107
    rw [if_neg (lit_ge (x := 12) (n := 12) rfl (by omega) (by omega)), if_pos (pu_ib (by omega) (by omega)), nI_clamp (by omega), if_neg h57, hr, pu_sb, nI_1]
  have mX : f_X11_repairs M (nI f) = (ps_it (fun (a : ps_S × Int32) => f_X11_repairs_L67 (nI f) (nI (pu_ch M f 6)) (nI (pu_ct M f 6)) a.1 a.2) ps_fu (M, 0)).bind (fun S67 => some S67) := by
    unfold f_X11_repairs
    rw [pu_b2 (mr_cnt Q.1 (by omega) H)]
  have m1 : ∀ {T : ps_S} {j : Nat} {C1 : ps_S} {kp1 : Nat → Nat → List Nat}, j < 6 → rl_Q np id so on kp1 nf ow D c C1 T → f_X11_repairs_L67 (nI f) (nI (pu_ch M f 6)) (nI (pu_ct M f 6)) T (nI j) = if on (ow f) = 0 then some (.inr T) else if (4 : Int32) < nI (pu_ch M f 6) then some (.inr T) else if nI (pu_ct M f 6) < 4 then some (.inr T) else if T 93 (6 * f + j) = -1 then (f_X11_stores T (nI f) (nI j)).bind fun S => some (.inl (S, nI (j + 1))) else some (.inl (T, nI (j + 1))) := by
    intro T j C1 kp1 hj QT
    obtain ⟨⟨⟨ho, hCo, hMo⟩, -⟩, -⟩ := QT.2.2.2.2.2.2.1 f hf
    unfold f_X11_repairs_L67 f_X11_repairs_J121
    rw [if_neg (lit_ge (x := 6) (n := 6) rfl hj (by omega)), if_pos (pu_ib (by omega) (by omega)), nI_clamp (n := f) (by omega), hMo, if_pos (pu_ib (by omega) (by omega)), nI_clamp (n := ow f) (by omega), mp_on QT.1 ho, pu_x6, if_pos (pu_ib (by omega) (by omega)), nI_clamp (n := 6 * f + j) (by omega), nI_1]
  have rep : ∀ r, (if on (ow f) = 0 then (0 : Int32) else 1) = r → f_X1_isToRepair C (103 + 7 * f) = if r = 0 then some 0 else if (4 : Int32) < nI (pu_ch M f 6) then some 0 else if nI (pu_ct M f 6) < 4 then some 0 else some 1 := by
    intro r hr
    unfold f_X1_isToRepair f_X8_owner
    rw [pu_b2 (cr_cnt Q.1 H), pu_sb, hCo, cp_on Q.1.2.1 hn ho, pu_sb, hr]
  have none' : f_X1_isToRepair C (103 + 7 * f) = some 0 → f_X11_repairs_L67 (nI f) (nI (pu_ch M f 6)) (nI (pu_ct M f 6)) M (nI 0) = some (.inr M) → ∃ C' M' kp', f_X10_pass_L68 C (nI f) = some (.inl (C', nI (f + 1))) ∧ f_X11_repairs M (nI f) = some M' ∧ rl_Q np id so on kp' nf ow D c C' M' ∧ pa_fr C C' M M' := by
    intro h1 h2
    refine ⟨C, M, kp, ?_, ?_, Q, pa_r⟩
    · rw [cX 0 h1, if_pos rfl]
    · have e : ps_it (fun (a : ps_S × Int32) => f_X11_repairs_L67 (nI f) (nI (pu_ch M f 6)) (nI (pu_ct M f 6)) a.1 a.2) ps_fu (M, 0) = some M := it_r (n := 19999) (step := fun (a : ps_S × Int32) => f_X11_repairs_L67 (nI f) (nI (pu_ch M f 6)) (nI (pu_ct M f 6)) a.1 a.2) h2
      rw [mX, e, pu_sb]
  have m0 := m1 (j := 0) (by omega) Q
  rcases rp_on Q.1 ho with e | e
  · have r0 := rep 0 (by rw [if_pos e])
    rw [if_pos rfl] at r0
    rw [if_pos e] at m0
    exact none' r0 m0
  · have r1 := rep 1 (by rw [e]; rfl)
    rw [if_neg (by decide)] at r1
    rw [e, if_neg (by decide)] at m0
    by_cases h4 : 4 < pu_ch M f 6
    · have h4' : (4 : Int32) < nI (pu_ch M f 6) := nI_lt (a := 4) h4 (by omega)
      rw [if_pos h4'] at r1 m0
      exact none' r1 m0
    · have h4' : ¬ (4 : Int32) < nI (pu_ch M f 6) := nI_nlt (b := pu_ch M f 6) (a := 4) (by omega) (by omega)
      rw [if_neg h4'] at r1 m0
      by_cases h5 : pu_ct M f 6 < 4
      · have h5' : nI (pu_ct M f 6) < 4 := nI_lt (b := 4) h5 (by omega)
        rw [if_pos h5'] at r1 m0
        exact none' r1 m0
      · have h5' : ¬ nI (pu_ct M f 6) < 4 := nI_nlt (b := 4) (by omega) (by omega)
        rw [if_neg h5'] at r1
        have loop := pu_two0 (s1 := fun (a : ps_S × Int32) => f_X1_storeMissing_L2 (103 + 7 * f) a.1 a.2) (s2 := fun (a : ps_S × Int32) => f_X11_repairs_L67 (nI f) (nI (pu_ch M f 6)) (nI (pu_ct M f 6)) a.1 a.2) (a := (C, 0)) (b := (M, 0))
          (fun j a b => a.2 = nI j ∧ b.2 = nI j ∧ ∃ kp', rl_Q np id so on kp' nf ow D c a.1 b.1 ∧ pa_fr C a.1 M b.1)
          (fun a b => ∃ kp', rl_Q np id so on kp' nf ow D c a b ∧ pa_fr C a M b) 6 (by omega) ⟨rfl, rfl, kp, Q, pa_r⟩ ?_ ?_
        · obtain ⟨C', M', e1, e2, kp', Q', fr⟩ := loop
          refine ⟨C', M', kp', ?_, ?_, Q', fr⟩
          · rw [cX 1 r1, if_neg (by decide)]
            unfold f_X1_storeMissing
            rw [e1, pu_sb, pu_sb]
          · rw [mX, e2, pu_sb]
        · rintro j ⟨T, i⟩ ⟨U, i2⟩ hj ⟨hi, hi2, kp1, Q1, fr⟩
          dsimp only at hi hi2 Q1 fr ⊢
          subst hi; subst hi2
          rw [m1 hj Q1, e, if_neg (show ¬ (1 : Int32) = 0 by decide), if_neg h4', if_neg h5']
          by_cases hh : U 93 (6 * f + j) = -1
          · obtain ⟨C', M', kp', e1, e2, Q', fr'⟩ := sim_store Q1 hf hj hh
            rw [if_pos hh, e1, e2, pu_sb]
            exact ⟨_, _, rfl, rfl, rfl, rfl, kp', Q', pa_t fr (pa_st fr')⟩
          · rw [if_neg hh, skip_store Q1 hf hj hh]
            exact ⟨_, _, rfl, rfl, rfl, rfl, kp1, Q1, fr⟩
        · rintro ⟨T, i⟩ ⟨U, i2⟩ ⟨hi, hi2, kp1, Q1, fr⟩
          dsimp only at hi hi2 Q1 fr ⊢
          subst hi; subst hi2
          refine ⟨T, U, ?_, ?_, kp1, Q1, fr⟩
          · unfold f_X1_storeMissing_L2
            rw [if_pos (by decide)]
          · unfold f_X11_repairs_L67
            rw [if_pos (by decide)]
theorem sim_chfile (Q : rl_Q np id so on kp nf ow D c C M) (hf : f < nf) (hB : ∀ x y, D x y + 60 ≤ 1000 * c) : ∃ C' M' D', f_X10_pass_L32 C (nI f) = some (.inl (C', nI (f + 1))) ∧ pu_st (fun (a : ps_S × Int32) => f_X11_pass_L26 a.1 a.2) 6 (M, nI (6 * f)) (M', nI (6 * (f + 1))) ∧ rl_Q np id so on kp nf ow D' c C' M' ∧ (∀ x y, D' x y ≤ D x y + 60) ∧ pa_fr C C' M M' := by
  have hn := Q.1.1.1
  have hnf := Q.2.2.2.2.1.1
  obtain ⟨⟨⟨ho, hCo, hMo⟩, -⟩, H⟩ := Q.2.2.2.2.2.2.1 f hf
  have h57 := (Q.2.2.2.2.2.1 f (by omega)).1 hf
  have cX : ∀ C', f_X1_challenge C (103 + 7 * f) = some C' → f_X10_pass_L32 C (nI f) = some (.inl (C', nI (f + 1))) := by
    intro C' hr
    unfold f_X10_pass_L32 f_X10_pass_J60
    rw [if_neg (lit_ge (x := 12) (n := 12) rfl (by omega) (by omega)), if_pos (pu_ib (by omega) (by omega)), nI_clamp (by omega), if_neg h57, hr, pu_sb, nI_1]
  have mX : ∀ {T T' C1 : ps_S} {j : Nat} {D1 : Nat → Nat → Nat}, j < 6 → rl_Q np id so on kp nf ow D1 c C1 T → f_X11_challenges T (nI (6 * f + j)) = some T' → f_X11_pass_L26 T (nI (6 * f + j)) = some (.inl (T', nI (6 * f + (j + 1)))) := by
    intro T T' C1 j D1 hj QT h
    unfold f_X11_pass_L26
    rw [QT.2.2.2.2.1.2.2, x6s, if_neg (nI_ge (by omega) (by omega)), h, pu_sb, nI_1]
    rfl
  rcases rp_on Q.1 ho with e | e
  · refine ⟨C, M, D, cX C ?_, ?_, Q, fun x y => by omega, pa_r⟩
    · unfold f_X1_challenge f_X8_owner
      rw [pu_sb, hCo, cp_on Q.1.2.1 hn ho, pu_sb, if_pos e, if_pos rfl]
    · obtain ⟨a', x, y⟩ := pu_st1 (s1 := fun (a : ps_S × Int32) => f_X11_pass_L26 a.1 a.2) (fun j a => a = (M, nI (6 * f + j))) 0 6 (fun j a h1 h2 h3 => by
        subst h3
        exact ⟨_, mX h2 Q (ch_off Q hf h2 e), rfl⟩) 6 0 (M, nI (6 * f)) (by omega) (by omega) rfl
      rw [y] at x
      exact x
  · obtain ⟨⟨C', i⟩, ⟨M', i2⟩, x, y, hi, hi2, D', Q', hD, fr⟩ := pu_st2 (s1 := fun (a : ps_S × Int32) => f_X1_challenge_L17 (103 + 7 * f) a.1 a.2) (s2 := fun (a : ps_S × Int32) => f_X11_pass_L26 a.1 a.2) (fun j a b => a.2 = nI j ∧ b.2 = nI (6 * f + j) ∧ ∃ D', rl_Q np id so on kp nf ow D' c a.1 b.1 ∧ (∀ x y, D' x y ≤ D x y + 10 * j) ∧ pa_fr C a.1 M b.1) 6 (by
      rintro j ⟨T, i⟩ ⟨U, i2⟩ hj ⟨hi, hi2, D1, Q1, hD1, fr⟩
      dsimp only at hi hi2 Q1 fr ⊢
      subst hi; subst hi2
      obtain ⟨C', M', D', e1, e2, Q', hD', fr'⟩ := sim_chal Q1 hf hj e (fun x y => by
        have := hD1 x y
        have := hB x y
        omega)
      refine ⟨_, _, e1, mX hj Q1 e2, rfl, rfl, D', Q', fun x y => ?_, pa_t fr (pa_ch fr')⟩
      have := hD1 x y
      have := hD' x y
      omega) 6 0 (C, nI 0) (M, nI (6 * f)) (by omega) ⟨rfl, rfl, D, Q, fun x y => by omega, pa_r⟩
    dsimp only at hi hi2 Q' fr
    subst hi; subst hi2
    refine ⟨C', M', D', cX C' ?_, y, Q', fun x y => hD x y, fr⟩
    unfold f_X1_challenge f_X8_owner
    have e6 : f_X1_challenge_L17 (103 + 7 * f) C' (nI 6) = some (.inr C') := by
      unfold f_X1_challenge_L17
      rw [if_pos (by decide)]
    have e7 : ps_it (fun (a : ps_S × Int32) => f_X1_challenge_L17 (103 + 7 * f) a.1 a.2) ps_fu (C, 0) = some C' := pu_st_it 6 (C, nI 0) (C', nI 6) x e6 ps_fu (by unfold ps_fu; omega)
    rw [pu_sb, hCo, cp_on Q.1.2.1 hn ho, pu_sb, e, if_neg (show ¬ (1 : Int32) = 0 by decide), if_neg (show ¬ (1 : Int32) = 0 by decide), e7, pu_sb]
theorem sim_days (Q : rl_Q np id so on kp nf ow D c C M) (hB : ∀ x y, D x y + 720 ≤ 1000 * c) : ∃ C1 M1 C2 M2 D2 kp2, ps_it (fun (a : ps_S × Int32) => f_X10_pass_L32 a.1 a.2) ps_fu (C, 0) = some C1 ∧ ps_it (fun (a : ps_S × Int32) => f_X11_pass_L26 a.1 a.2) ps_fu (M, 0) = some M1 ∧ ps_it (fun (a : ps_S × Int32) => f_X10_pass_L68 a.1 a.2) ps_fu (C1, 0) = some C2 ∧ ps_it (fun (a : ps_S × Int32) => f_X11_pass_L50 a.1 a.2) ps_fu (M1, 0) = some M2 ∧ rl_Q np id so on kp2 nf ow D2 c C2 M2 ∧ (∀ x y, D2 x y ≤ D x y + 720) ∧ pa_fr C C2 M M2 := by
  have hnf := Q.2.2.2.2.1.1
  have l1 := pu_ind0 (step := fun (a : ps_S × Int32) => f_X10_pass_L32 a.1 a.2) (a := (C, 0))
    (fun j a => a.2 = nI j ∧ ∃ M' D', pu_st (fun (a : ps_S × Int32) => f_X11_pass_L26 a.1 a.2) (6 * min j nf) (M, nI 0) (M', nI (6 * min j nf)) ∧ rl_Q np id so on kp nf ow D' c a.1 M' ∧ (∀ x y, D' x y ≤ D x y + 60 * j) ∧ pa_fr C a.1 M M')
    (fun b => ∃ M' D', pu_st (fun (a : ps_S × Int32) => f_X11_pass_L26 a.1 a.2) (6 * nf) (M, nI 0) (M', nI (6 * nf)) ∧ rl_Q np id so on kp nf ow D' c b M' ∧ (∀ x y, D' x y ≤ D x y + 720) ∧ pa_fr C b M M') 12 (by omega) ?_ ?_ ?_
  · obtain ⟨C1, e1, M1, D1, x1, Q1, hD1, fr1⟩ := l1
    have l2 := pu_lead (s1 := fun (a : ps_S × Int32) => f_X10_pass_L68 a.1 a.2) (s2 := fun (a : ps_S × Int32) => f_X11_pass_L50 a.1 a.2) (a := (C1, 0)) (b := (M1, 0))
      (fun j a b => a.2 = nI j ∧ (j ≤ nf → b.2 = nI j) ∧ (nf ≤ j → b.2 = nI nf) ∧ ∃ kp', rl_Q np id so on kp' nf ow D1 c a.1 b.1 ∧ pa_fr C a.1 M b.1)
      (fun a b => ∃ kp', rl_Q np id so on kp' nf ow D1 c a b ∧ pa_fr C a M b) nf 12 hnf (by omega) ⟨rfl, fun _ => rfl, fun h => by
        have : nf = 0 := by omega
        rw [this]; rfl, kp, Q1, fr1⟩ ?_ ?_ ?_
    · obtain ⟨C2, M2, e2, e3, kp2, Q2, fr2⟩ := l2
      refine ⟨C1, M1, C2, M2, D1, kp2, e1, ?_, e2, e3, Q2, hD1, fr2⟩
      refine pu_st_it (6 * nf) (M, nI 0) (M1, nI (6 * nf)) x1 ?_ ps_fu (by unfold ps_fu; omega)
      show f_X11_pass_L26 M1 (nI (6 * nf)) = _
      unfold f_X11_pass_L26
      rw [Q1.2.2.2.2.1.2.2, x6s, if_pos (nI_le (Nat.le_refl _) (by omega))]
    · rintro j ⟨T, i⟩ ⟨U, i2⟩ hj ⟨hi, hi2, -, kp1, QT, fr⟩
      have hi2 := hi2 (by omega)
      dsimp only at hi hi2 QT fr ⊢
      subst hi; subst hi2
      obtain ⟨C', M', kp', e1, e2, Q', fr'⟩ := sim_repair QT hj
      refine ⟨_, (M', nI (j + 1)), e1, ?_, rfl, fun _ => rfl, fun h => ?_, kp', Q', pa_t fr fr'⟩
      · unfold f_X11_pass_L50
        rw [QT.2.2.2.2.1.2.2, if_neg (nI_ge hj (by omega)), e2, pu_sb, nI_1]
      · have : nf = j + 1 := by omega
        rw [this]
    · rintro j ⟨T, i⟩ ⟨U, i2⟩ hj hj12 ⟨hi, -, hi2, kp1, QT, fr⟩
      have hi2 := hi2 hj
      dsimp only at hi hi2 QT fr ⊢
      subst hi; subst hi2
      refine ⟨(T, nI (j + 1)), ?_, rfl, fun h => by omega, fun _ => rfl, kp1, QT, fr⟩
      unfold f_X10_pass_L68 f_X10_pass_J107
      rw [if_neg (lit_ge (x := 12) (n := 12) rfl hj12 (by omega)), if_pos (pu_ib hj12 (by omega)), nI_clamp (by omega), if_pos ((QT.2.2.2.2.2.1 j hj12).2 hj), nI_1]
    · rintro ⟨T, i⟩ ⟨U, i2⟩ ⟨hi, -, hi2, kp1, QT, fr⟩
      have hi2 := hi2 hnf
      dsimp only at hi hi2 QT fr ⊢
      subst hi; subst hi2
      refine ⟨T, U, ?_, ?_, kp1, QT, fr⟩
      · unfold f_X10_pass_L68
        rw [if_pos (by decide)]
      · unfold f_X11_pass_L50
        rw [QT.2.2.2.2.1.2.2, if_pos (nI_le (Nat.le_refl _) (by omega))]
  · refine ⟨rfl, M, D, ?_, Q, fun x y => by omega, pa_r⟩
    rw [Nat.zero_min]
    rfl
  · rintro j ⟨T, i⟩ hj ⟨hi, M', D', x, QT, hD, fr⟩
    dsimp only at hi QT fr ⊢
    subst hi
    by_cases hjn : j < nf
    · rw [Nat.min_eq_left (by omega)] at x
      obtain ⟨C2, M2, D2, e1, x2, Q2, hD2, fr2⟩ := sim_chfile QT hjn (fun x y => by
        have := hD x y
        have := hB x y
        omega)
      refine ⟨_, e1, rfl, M2, D2, ?_, Q2, fun x y => ?_, pa_t fr fr2⟩
      · rw [Nat.min_eq_left (by omega), show 6 * (j + 1) = 6 * j + 6 by omega]
        have x2' : pu_st (fun (a : ps_S × Int32) => f_X11_pass_L26 a.1 a.2) 6 (M', nI (6 * j)) (M2, nI (6 * j + 6)) := x2
        exact pu_st_add (6 * j) 6 _ _ _ x x2'
      · have := hD x y
        have := hD2 x y
        omega
    · refine ⟨(T, nI (j + 1)), ?_, rfl, M', D', ?_, QT, fun x y => Nat.le_trans (hD x y) (by omega), fr⟩
      · unfold f_X10_pass_L32 f_X10_pass_J60
        rw [if_neg (lit_ge (x := 12) (n := 12) rfl hj (by omega)), if_pos (pu_ib hj (by omega)), nI_clamp (by omega), if_pos ((QT.2.2.2.2.2.1 j hj).2 (by omega)), nI_1]
      · rw [Nat.min_eq_right (by omega)] at x ⊢
        exact x
  · rintro ⟨T, i⟩ ⟨hi, M', D', x, QT, hD, fr⟩
    dsimp only at hi QT fr ⊢
    subst hi
    rw [Nat.min_eq_right hnf] at x
    refine ⟨T, ?_, M', D', x, QT, fun x y => hD x y, fr⟩
    unfold f_X10_pass_L32
    rw [if_pos (by decide)]
theorem op_pass (Q : rl_Q np id so on kp nf ow D c S S) (hc : c ≤ 512) : op_K c S (f_cmp (fun r => r) (f_L_pass S) (fun S => f_X11_pass S)) := by
  unfold f_L_pass
  have hn := Q.1.1.1
  obtain ⟨d, hd, hC, hM⟩ := Q.2.1.2.2
  have hM : S 80 1 = nI d := by
    rcases hM with h | ⟨h, -⟩
    · exact h
    · omega
  by_cases e : d = 500
  · subst e
    refine op_no (e := 2) (k := 1) Q ?_ rfl (by decide) ?_
    · unfold f_X10_pass
      rw [hC, if_neg (show ¬ nI 500 < 500 by decide)]
    · show f_X11_pass S = _
      unfold f_X11_pass f_X11_pass_J16
      rw [hM, if_pos (show nI 500 = 500 from rfl)]
      exact pu_no (by decide) _ (if_pos rfl)
  · refine op_yes Q (fun M QM => ?_)
    have hM2 : M 80 1 = nI d := by
      obtain ⟨d', hd', hC', hM'⟩ := QM.2.1.2.2
      rw [hC] at hC'
      have := pu_inj (by omega) (by omega) hC'
      subst this
      rcases hM' with h | ⟨h, -⟩
      · exact h
      · omega
    have hb : ∀ x y, D x y ≤ 1000 * c := fun x y => rd_b QM.2.2.2.1 hn x y
    -- the class's day goes ahead
    have QW : rl_Q np id so on kp nf ow D (c + 1000) (ps_up S 0 9 (nI (d + 1))) (ps_up M 80 0 0) := by
      obtain ⟨P, ⟨O1, O2, -⟩, N, DD, F⟩ := rq_le (rq_0 QM (v := 0)) (show c ≤ c + 1000 by omega)
      have u : ∀ a b, ¬ (a = 0 ∧ b = 9) → ps_up S 0 9 (nI (d + 1)) a b = S a b := fun a b h => if_neg h
      refine ⟨⟨P.1, cp_congr1 P.2.1 hn (fun a b h1 h2 => u a b (by omega)), P.2.2⟩, ⟨?_, ?_, d + 1, by omega, pu_up_same _ _ _ _, Or.inr ⟨by omega, ?_⟩⟩, rn_congr N (fun a b h1 h2 => u a b (by omega)) (fun _ _ _ _ => rfl), rd_congr DD (fun a b h1 h2 => u a b (by omega)) (fun _ => rfl), rf_congr F (u 0 8 (by omega)) (fun b => u 57 b (by omega)) (fun a b h => u a b (by omega)) rfl (fun _ _ _ _ => rfl)⟩
      · rw [u 22 6 (by omega)]; exact O1
      · rw [u 78 2 (by omega)]; exact O2
      · rw [pu_up_i (by omega), hM2, nI_1]
    obtain ⟨C1, M1, C2, M2, D2, kp2, e1, e2, e3, e4, Q2, hD2, fr⟩ := sim_days QW (fun x y => by
      have := hb x y
      omega)
    have g09 : C2 0 9 = nI (d + 1) := by rw [fr.1 0 9 (by omega), pu_up_same]
    have g08 : C2 0 8 = S 0 8 := by rw [fr.1 0 8 (by omega), pu_up_i (by omega)]
    have g81 : M2 80 1 = nI d := by rw [fr.2 80 1 (by omega), pu_up_i (by omega), hM2]
    refine ⟨C2, nI (d + 1), ps_up M2 80 1 (nI (d + 1)), ?_, fun a b h1 h2 => by rw [fr.1 a b (by omega), pu_up_k (by omega)], ?_, by rw [pu_up_i (by omega), fr.2 80 0 (by omega), pu_up_same], fun a b h => by rw [pu_up_k (by omega), fr.2 a b (by omega), pu_up_k (by omega)], ?_, g08⟩
    · unfold f_X10_pass
      rw [hC, if_pos (show nI d < 500 from lit_lt (x := 500) (n := 500) rfl (by omega) (by omega)), nI_1, e1, pu_sb, e3, pu_sb, g09]
    · unfold f_X11_pass f_X11_pass_J16
      rw [hM2, if_neg (show ¬ nI d = 500 from fun q => e (pu_inj (b := 500) (by omega) (by omega) q)), pu_b2 (pu_h0 M), if_neg (show ¬ (1 : Int32) = 0 by decide), e2, pu_sb, e4, pu_sb, pu_up_same, g81, nI_1]
    · obtain ⟨P, ⟨O1, O2, -⟩, N, DD, F⟩ := Q2
      have v : ∀ a b, ¬ (a = 80 ∧ b = 1) → ps_up M2 80 1 (nI (d + 1)) a b = M2 a b := fun a b h => if_neg h
      refine rq_R (np := np) (id := id) (so := so) (on := on) (kp := kp2) (nf := nf) (ow := ow) (D := D2) ⟨⟨P.1, P.2.1, mp_congr P.2.2 (v 80 2 (by omega)) (fun a b h1 h2 => v a b (by omega))⟩, ⟨?_, ?_, d + 1, by omega, g09, Or.inl (pu_up_same _ _ _ _)⟩, rn_congr N (fun _ _ _ _ => rfl) (fun a b h1 h2 => v a b (by omega)), ⟨fun p q hp hq => ⟨(DD.1 p q hp hq).1, ?_, ?_⟩, DD.2⟩, rf_congr F rfl (fun _ => rfl) (fun _ _ _ => rfl) (v 80 15 (by omega)) (fun a b h1 h2 => v a b (by omega))⟩
      · rw [v 80 14 (by omega)]; exact O1
      · rw [v 80 26 (by omega)]; exact O2
      · rw [v 101 _ (by omega)]; exact (DD.1 p q hp hq).2.1
      · have := hD2 p q
        have := hb p q
        omega
end
