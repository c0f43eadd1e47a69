/-! file -/
section
variable {np nf c B f o k : Nat} {id so on : Nat → Int32} {kp : Nat → Nat → List Nat} {C M C' M' S T C0 M0 : ps_S} {D : Nat → Nat → Nat} {ow : Nat → Nat}
theorem sim_file (Q : rl_Q np id so on kp nf ow D c S M) (hnf : nf < 12) {p : Nat} (hp : p < np) (e : on p = 1) (y : Int32) : ∃ C' M', f_X10_file (103 + 7 * nf) S (nI p) y = some (.inr (nI nf, C')) ∧ f_X11_file M (nI p) y = some (nI nf, M') ∧ rl_fc S C' ∧ rl_fm M M' ∧ M' 80 0 = 0 ∧ C' 0 8 = nI (nf + 1) ∧ rl_R c C' M' := by
  have hn := Q.1.1.1
  have Q0 := rq_0 Q (v := 0)
  obtain ⟨P, O, N, DD, ⟨F1, F8, F15⟩, F57, FV, FZ⟩ := Q0
  obtain ⟨C1, e1, i1, i2, i3, i4, i5, i6, i7⟩ := cf_init (103 + 7 * nf) (ps_z S (103 + 7 * nf)) (nI p) y
  obtain ⟨M1, M2, e2, e3, j15, j91, j93, jv, j4, j5, jf⟩ := mf_init (ps_up M 80 0 0) (f := nf) hnf (nI p) y
  have hlo : ∀ a b, a < 103 + 7 * nf → C1 a b = S a b := fun a b h => by rw [i7 a b h, pz_k (by omega)]
  obtain ⟨C2, hC2⟩ : ∃ C2, C2 = ps_up (ps_up C1 57 nf 1) 0 8 (nI (nf + 1)) := ⟨_, rfl⟩
  have u2 : ∀ a b, ¬ (a = 57 ∧ b = nf) → ¬ (a = 0 ∧ b = 8) → C2 a b = C1 a b := fun a b h1 h2 => by
    rw [hC2]
    show (if a = 0 ∧ b = 8 then _ else (if a = 57 ∧ b = nf then _ else _)) = _
    rw [if_neg h2, if_neg h1]
  have g2 : ∀ a b, ¬ (a = 57 ∧ b = nf) → ¬ (a = 0 ∧ b = 8) → a < 103 + 7 * nf → C2 a b = S a b := fun a b h1 h2 h3 => (u2 a b h1 h2).trans (hlo a b h3)
  have Q2 : rl_Q np id so on kp (nf + 1) (fun g => if g = nf then p else ow g) D c C2 M2 := by
    refine ⟨⟨P.1, cp_congr1 P.2.1 hn (fun a b h1 h2 => g2 a b (by omega) (by omega) (by omega)), mp_congr P.2.2 (jf 80 2 (by omega) (by omega) (by omega)) (fun a b h1 h2 => jf a b (by omega) (by omega) (by omega))⟩, ro_congr O (g2 22 6 (by omega) (by omega) (by omega)) (g2 78 2 (by omega) (by omega) (by omega)) (g2 0 9 (by omega) (by omega) (by omega)) (jf 80 14 (by omega) (by omega) (by omega)) (jf 80 26 (by omega) (by omega) (by omega)) (jf 80 1 (by omega) (by omega) (by omega)), rn_congr N (fun a b h1 h2 => g2 a b (by omega) (by omega) (by omega)) (fun a b h1 h2 => jf a b (by omega) (by omega) (by omega)), rd_congr DD (fun a b h1 h2 => g2 a b (by omega) (by omega) (by omega)) (fun b => jf 101 b (by omega) (by omega) (by omega)), ⟨by omega, by rw [hC2, pu_up_same], j15⟩, fun i hi => ⟨fun h => ?_, fun h => ?_⟩, fun f hf => ?_, fun i h1 h2 => ?_⟩
    · by_cases ei : i = nf
      · rw [hC2, pu_up_k (by omega), ei, pu_up_same]
        decide
      · rw [g2 _ _ (by omega) (by omega) (by omega)]
        exact (F57 i hi).1 (by omega)
    · rw [g2 _ _ (by omega) (by omega) (by omega)]
      exact (F57 i hi).2 (by omega)
    · dsimp only
      by_cases ef : f = nf
      · subst ef
        rw [if_pos rfl]
        refine ⟨⟨⟨hp, ?_, j91⟩, ⟨fi_d y, fi_lt y, jv, ?_, ?_⟩, fun k hk => ?_, ?_⟩, fun k hk => ⟨⟨?_, ?_, ?_⟩, ?_⟩⟩
        · rw [u2 _ _ (by omega) (by omega)]; exact i1
        · rw [j4, xr_4]
        · rw [j5, xr_4]
        · rw [u2 _ _ (by omega) (by omega), ← fk4]
          by_cases h4 : k < 4
          · rw [i3 k h4, jv k h4]
          · rcases (show k = 4 ∨ k = 5 by omega) with ek | ek
            · rw [ek, i4, j4]
            · rw [ek, i5, j5]
        · have x1 : (fun k => C2 (107 + 7 * f) k) = fun k => C1 (103 + 7 * f + 4) k := funext fun k => by rw [u2 _ _ (by omega) (by omega), fk4]
          have x2 : (fun k => C2 (109 + 7 * f) k) = fun k => C1 (103 + 7 * f + 6) k := funext fun k => by rw [u2 _ _ (by omega) (by omega), show 103 + 7 * f + 6 = 109 + 7 * f by omega]
          rw [x1, x2]
          exact i6
        · rw [u2 _ _ (by omega) (by omega), ← fk1, (i2 k hk).1, j93 k hk]
        · rw [u2 _ _ (by omega) (by omega), ← fk2, (i2 k hk).2.1, jf 94 _ (by omega) (by omega) (by omega), (FZ _ (by omega) (by omega)).1]
        · rw [u2 _ _ (by omega) (by omega), ← fk3, (i2 k hk).2.2, jf 95 _ (by omega) (by omega) (by omega), (FZ _ (by omega) (by omega)).2]
        · rw [j93 k hk, jf 94 _ (by omega) (by omega) (by omega), jf 95 _ (by omega) (by omega) (by omega), (FZ _ (by omega) (by omega)).1, (FZ _ (by omega) (by omega)).2]
          exact ⟨Or.inl rfl, Or.inl rfl, 0, by omega, rfl⟩
      · rw [if_neg ef]
        obtain ⟨v, h⟩ := FV f (by omega)
        exact ⟨rv_congr2 v (fun a b h => g2 a b (by omega) (by omega) (by omega)) (jf 91 f (by omega) (by omega) (by omega)) (fun b h1 h2 => jf 92 b (by omega) (by omega) (by omega)), rh_congr h (fun a b _ h => g2 a b (by omega) (by omega) (by omega)) (fun a b h1 h2 h3 h4 => jf a b (by omega) (by omega) (by omega))⟩
    · rw [jf 94 _ (by omega) (by omega) (by omega), jf 95 _ (by omega) (by omega) (by omega)]
      exact FZ i (by omega) h2
  have loop := pu_two0 (s1 := fun (a : ps_S × Int32) => f_X1_storeMissing_L2 (103 + 7 * nf) a.1 a.2) (s2 := fun (a : ps_S × Int32) => f_X11_file_L202 (nI nf) a.1 a.2) (a := (C2, 0)) (b := (M2, 0))
    (fun j a b => a.2 = nI j ∧ b.2 = nI j ∧ (∀ i, j ≤ i → i < 6 → b.1 93 (6 * nf + i) = -1) ∧ ∃ kp', rl_Q np id so on kp' (nf + 1) (fun g => if g = nf then p else ow g) D c a.1 b.1 ∧ pa_fr C2 a.1 M2 b.1)
    (fun a b => ∃ kp', rl_Q np id so on kp' (nf + 1) (fun g => if g = nf then p else ow g) D c a b ∧ pa_fr C2 a M2 b) 6 (by omega) ⟨rfl, rfl, fun i _ hi => j93 i hi, kp, Q2, pa_r⟩ ?_ ?_
  · obtain ⟨C', M', x1, x2, kp', Q', fr⟩ := loop
    have h08 : C1 0 8 = nI nf := by rw [hlo 0 8 (by omega)]; exact F8
    have c57 : ps_up C1 57 nf 1 0 8 = nI nf := by rw [pu_up_k (by omega)]; exact h08
    refine ⟨C', M', ?_, ?_, fun a b h1 h2 => ?_, fun a b h => ?_, ?_, ?_, rq_R Q'⟩
    · unfold f_X10_file
      rw [pu_bxr (np_ok P hp), pu_bxr (no_ok P hp e), F8, if_neg (nI_pos (by omega)), if_pos (show nI nf < 12 from lit_lt (x := 12) (n := 12) rfl hnf (by omega)), e1, pu_sb, h08, if_pos (pu_ib hnf (by omega)), if_pos rfl, nI_clamp (by omega), c57, nI_1, ← hC2]
      unfold f_X1_storeMissing
      rw [x1, pu_sb, pu_sb]
    · unfold f_X11_file f_X11_file_J38
      rw [mp_is Q.1.2.2.1 hn hp, pu_sb, if_neg (show ¬ (1 : Int32) = 0 by decide), if_pos (pu_ib (by omega) (by omega)), nI_clamp (n := p) (by omega), mp_on Q.1 hp, e, if_neg (show ¬ (1 : Int32) = 0 by decide), Q.2.2.2.2.1.2.2, if_neg (show ¬ (12 : Int32) ≤ nI nf from lit_ge (x := 12) (n := 12) rfl hnf (by omega)), pu_b2 (pu_h0 M), if_neg (show ¬ (1 : Int32) = 0 by decide), pu_lts, pu_lts, F15, x6s, show nI (6 * nf) + 4 = nI (6 * nf + 4) from nI_add _ 4, show nI (6 * nf) + 5 = nI (6 * nf + 5) from nI_add _ 5, if_pos (pu_ib hnf (by omega)), if_pos (pu_ib (by omega) (by omega)), if_pos (pu_ib (by omega) (by omega)), nI_clamp (n := nf) (by omega), nI_clamp (n := 6 * nf + 4) (by omega), nI_clamp (n := 6 * nf + 5) (by omega), nI_1, e2, pu_sb, e3, pu_sb, x2, pu_sb]
    · rw [fr.1 a b (by omega), g2 a b (by omega) (by omega) (by omega)]
    · rw [fr.2 a b (by omega), jf a b (by omega) (by omega) (by omega), pu_up_k (by omega)]
    · rw [fr.2 80 0 (by omega), jf 80 0 (by omega) (by omega) (by omega), pu_up_same]
    · rw [fr.1 0 8 (by omega), hC2, pu_up_same]
  · rintro j ⟨T, i⟩ ⟨U, i'⟩ hj ⟨hi, hi', h93, kp1, Q1, fr⟩
    dsimp only at hi hi' h93 Q1 fr ⊢
    subst hi; subst hi'
    obtain ⟨C', M', kp', x1, x2, Q', fr'⟩ := sim_store Q1 (f := nf) (by omega) hj (h93 j (Nat.le_refl _) hj)
    refine ⟨_, (M', nI (j + 1)), x1, ?_, rfl, rfl, fun i h1 h2 => ?_, kp', Q', pa_t fr (pa_st fr')⟩
    · unfold f_X11_file_L202
      rw [if_neg (lit_ge (x := 6) (n := 6) rfl hj (by omega)), x2, pu_sb, nI_1]
    · dsimp only
      rw [fr'.2 93 _ (by omega) (by omega) (by omega)]
      exact h93 i (by omega) h2
  · rintro ⟨T, i⟩ ⟨U, i'⟩ ⟨hi, hi', h93, kp1, Q1, fr⟩
    dsimp only at hi hi' h93 Q1 fr ⊢
    subst hi; subst hi'
    refine ⟨T, U, ?_, ?_, kp1, Q1, fr⟩
    · unfold f_X1_storeMissing_L2
      rw [if_pos (by decide)]
    · unfold f_X11_file_L202
      rw [if_pos (by decide)]
theorem op_file (Q : rl_Q np id so on kp nf ow D c S S) (x y : Int32) : ∃ S9 q, f_cmp (fun r => r) (f_L_file (ps_n S) S x y) (fun S => f_X11_file S x y) = some S9 ∧ rl_R (c + 1) S9 S9 ∧ f_L_file (ps_n S) S x y = some q ∧ ps_n S9 = (if q.1 = 0 then ps_n S + 7 else ps_n S) := by
  have hn := Q.1.1.1
  have F1 := Q.2.2.2.2.1.1
  have F8 := Q.2.2.2.2.1.2.1
  have en : ps_n S = 103 + 7 * nf := by
    unfold ps_n
    rw [F8, nI_clamp (by omega)]
  have no : ∀ (e : Nat) (k : Int32), f_X10_file (ps_n S) S x y = some (.inl e) → ps_pos [1, 2] e 1 = some k → ¬ k = 0 → f_X11_file S x y = some (0, ps_up S 80 0 k) → ∃ S9 q, f_cmp (fun r => r) (f_L_file (ps_n S) S x y) (fun S => f_X11_file S x y) = some S9 ∧ rl_R (c + 1) S9 S9 ∧ f_L_file (ps_n S) S x y = some q ∧ ps_n S9 = (if q.1 = 0 then ps_n S + 7 else ps_n S) := by
    intro e k h1 h2 h3 h4
    obtain ⟨S9, x1, x2, x3⟩ := op_no (g := fun r => r) (m := fun S => f_X11_file S x y) Q h1 h2 h3 h4
    refine ⟨S9, (k, S), x1, x2, ?_, ?_⟩
    · unfold f_L_file ps_lr
      rw [h1]
      show (ps_pos [1, 2] e 1).bind _ = _
      rw [h2]
      rfl
    · dsimp only
      rw [if_neg h3]
      unfold ps_n
      rw [x3]
  by_cases hx : ∃ p, p < np ∧ x = nI p
  · obtain ⟨p, hp, rfl⟩ := hx
    rcases rp_on Q.1 hp with e | e
    · refine no 2 2 ?_ rfl (by decide) ?_
      · unfold f_X10_file
        rw [pu_bxr (np_ok Q.1 hp), pu_bxl (no_no Q.1 hp e)]
      · unfold f_X11_file f_X11_file_J38
        rw [mp_is Q.1.2.2.1 hn hp, pu_sb, if_neg (show ¬ (1 : Int32) = 0 by decide), if_pos (pu_ib (by omega) (by omega)), nI_clamp (n := p) (by omega), mp_on Q.1 hp, if_pos e]
        exact pu_no (by decide) _ (if_pos rfl)
    · by_cases h12 : nf < 12
      · obtain ⟨S9, C', r, x1, x2, x3, x4⟩ := op_ok (x := f_X10_file (ps_n S) S (nI p) y) (m := fun S => f_X11_file S (nI p) y) (cs := [1, 2]) (g := fun r => r) (c' := c) Q (fun M QM => by
          obtain ⟨C', M', y1, y2, y3, y4, y5, y6, y7⟩ := sim_file QM h12 hp e y
          rw [en]
          exact ⟨C', nI nf, M', y1, y3, y2, y5, y4, y7⟩)
        obtain ⟨C2, M2, y1, -, -, -, -, y6, -⟩ := sim_file Q h12 hp e y
        rw [en] at x1
        rw [x1] at y1
        cases y1
        refine ⟨S9, (0, ps_up C' 102 0 (nI nf)), x2, rl_up x3, ?_, ?_⟩
        · unfold f_L_file ps_lr
          rw [en, x1]
          rfl
        · dsimp only
          rw [if_pos rfl, en]
          unfold ps_n
          rw [x4, y6, nI_clamp (by omega)]
          omega
      · refine no 2 2 ?_ rfl (by decide) ?_
        · unfold f_X10_file
          rw [pu_bxr (np_ok Q.1 hp), pu_bxr (no_ok Q.1 hp e), F8, if_neg (nI_pos (by omega)), if_neg (show ¬ nI nf < 12 from nI_nlt (b := 12) (by omega) (by omega))]
        · unfold f_X11_file f_X11_file_J38
          rw [mp_is Q.1.2.2.1 hn hp, pu_sb, if_neg (show ¬ (1 : Int32) = 0 by decide), if_pos (pu_ib (by omega) (by omega)), nI_clamp (n := p) (by omega), mp_on Q.1 hp, e, if_neg (show ¬ (1 : Int32) = 0 by decide), Q.2.2.2.2.1.2.2, if_pos (show (12 : Int32) ≤ nI nf from lit_le (x := 12) (n := 12) rfl (by omega) (by omega))]
          exact pu_no (by decide) _ (if_pos rfl)
  · refine no 1 1 ?_ rfl (by decide) ?_
    · unfold f_X10_file
      rw [pu_bxl (np_no Q.1 hx)]
    · unfold f_X11_file f_X11_file_J38
      rw [mp_isno Q.1.2.2.1 Q.1.1.1 hx, pu_sb, if_pos rfl]
      exact pu_no (by decide) _ (if_pos rfl)
end
