/-! fetch; challenges, repair: pass -/
section
variable {np nf c B f o k : Nat} {id so on : Nat → Int32} {kp : Nat → Nat → List Nat} {C M C' M' S T : ps_S} {D : Nat → Nat → Nat} {ow : Nat → Nat}
def pu_th (M : ps_S) (x : Nat) : Int32 := if M 93 x = -1 then 0 else if M 94 x = 0 then 0 else if M 83 (M 93 x).toNatClampNeg = 0 then 0 else 1
theorem th_01 (M : ps_S) (x : Nat) : pu_th M x = 0 ∨ pu_th M x = 1 := by
  unfold pu_th
  split
  · exact Or.inl rfl
  · split
    · exact Or.inl rfl
    · split
      · exact Or.inl rfl
      · exact Or.inr rfl
theorem th_held {M : ps_S} {x : Nat} (h : pu_th M x = 1) : ¬ M 93 x = -1 := by
  intro e
  unfold pu_th at h
  rw [if_pos e] at h
  exact absurd h (by decide)
theorem ch_hand (P : rl_P np id so on kp C M) (H : rl_H np f o C M) (hk : k < 6) : f_X1_isAtHand C (103 + 7 * f) (nI k) = some (pu_th M (6 * f + k)) := by
  obtain ⟨⟨h1, h2, h3⟩, h4, h5, h6⟩ := H k hk
  unfold f_X1_isAtHand pu_th
  rw [x8_kept hk, pu_sb, h2]
  by_cases e : M 94 (6 * f + k) = 0
  · rw [if_pos e, if_pos rfl, if_pos e, ite_self]
  · rw [if_neg e, if_neg (by decide), x8_holder hk, pu_sb, h1, if_neg e]
    rcases h4 with h4 | ⟨x, hx, -, h4⟩
    · rw [h4, if_pos rfl, cp_onno P.2.1 P.1.1 (pu_m1no P.1.1), pu_sb, if_pos rfl]
    · have := P.1.1
      rw [h4, if_neg (pu_ne1 (by omega)), cp_on P.2.1 P.1.1 hx, pu_sb, nI_clamp (by omega), mp_on P hx]
      by_cases e2 : on x = 0
      · rw [if_pos e2, if_pos rfl]
      · rw [if_neg e2, if_neg (by decide)]
theorem mh_there (P : rl_P np id so on kp C M) (hf : f < 12) (H : rl_H np f o C M) (hk : k < 6) : f_X11_isThere M (nI (6 * f + k)) = some (pu_th M (6 * f + k)) := by
  obtain ⟨⟨h1, h2, h3⟩, h4, h5, h6⟩ := H k hk
  have ib := pu_ib (i := 6 * f + k) (n := 72) (by omega) (by omega)
  have cl := nI_clamp (n := 6 * f + k) (by omega)
  unfold f_X11_isThere pu_th
  rw [if_pos ib, cl, if_pos ib, if_pos ib]
  rcases h4 with h4 | ⟨x, hx, -, h4⟩
  · rw [if_pos h4, if_pos h4]
  · have := P.1.1
    rw [h4, if_neg (pu_ne1 (by omega)), if_neg (pu_ne1 (by omega)), if_pos (pu_ib (by omega) (by omega))]
    split
    · rfl
    · split <;> rfl
theorem th_congr {x : Nat} (h3 : M' 93 x = M 93 x) (h4 : M' 94 x = M 94 x) (h8 : ∀ y, M' 83 y = M 83 y) : pu_th M' x = pu_th M x := by
  unfold pu_th
  rw [h3, h4, h8]
def pu_ct (M : ps_S) (f j : Nat) : Nat := pu_cnt (fun k => decide (pu_th M (6 * f + k) = 1)) j
def pu_ch (M : ps_S) (f j : Nat) : Nat := pu_cnt (fun k => decide (¬ M 93 (6 * f + k) = -1)) j
theorem ct_step (M : ps_S) (f j : Nat) : nI (pu_ct M f j) + pu_th M (6 * f + j) = nI (pu_ct M f (j + 1)) := by
  show _ = nI (pu_ct M f j + (if decide (pu_th M (6 * f + j) = 1) = true then 1 else 0))
  rcases th_01 M (6 * f + j) with e | e
  · rw [e, Int32.add_zero]; rfl
  · rw [e, nI_1]; rfl
theorem ch_step (M : ps_S) (f j : Nat) : nI (pu_ch M f j) + (if M 93 (6 * f + j) = -1 then 0 else 1) = nI (pu_ch M f (j + 1)) := by
  show _ = nI (pu_ch M f j + (if decide (¬ M 93 (6 * f + j) = -1) = true then 1 else 0))
  by_cases e : M 93 (6 * f + j) = -1
  · rw [if_pos e, Int32.add_zero]; simp [e]
  · rw [if_neg e, nI_1]; simp [e]
theorem cg_cnt (P : rl_P np id so on kp C M) (H : rl_H np f o C M) : ps_it (fun (a : Int32 × Int32) => f_X1_give_L5 C (103 + 7 * f) a.1 a.2) ps_fu (0, 0) = some (nI (pu_ct M f 6)) := by
  refine pu_it0 (step := fun (a : Int32 × Int32) => f_X1_give_L5 C (103 + 7 * f) a.1 a.2) (fun j => (nI (pu_ct M f j), nI j)) 6 (fun j hj => ?_) ?_ (by omega)
  · show f_X1_give_L5 C (103 + 7 * f) _ (nI j) = _
    unfold f_X1_give_L5 f_X1_give_J28
    rw [if_neg (lit_ge (x := 6) (n := 6) rfl hj (by omega)), ch_hand P H hj, pu_sb, ← ct_step, nI_1]
    rcases th_01 M (6 * f + j) with e | e
    · rw [e, if_pos rfl]
    · rw [e, if_neg (by decide)]
  · show f_X1_give_L5 C (103 + 7 * f) _ (nI 6) = _
    unfold f_X1_give_L5
    rw [if_pos (by decide)]
theorem x6s (f : Nat) : (6 : Int32) * nI f = nI (6 * f) := by rw [show (6 : Int32) = nI 6 from rfl, pu_mul]
theorem x6e (f : Nat) : (6 : Int32) * nI f + 6 = nI (6 * f + 6) := by rw [x6s]; exact nI_add _ 6
theorem mg_cnt (P : rl_P np id so on kp C M) (hf : f < 12) (H : rl_H np f o C M) : ps_it (fun (a : Int32 × Int32) => f_X11_fetch_L62 (nI f) M a.1 a.2) ps_fu (0, 6 * nI f) = some (nI (pu_ct M f 6)) := by
  have h := pu_it0 (step := fun (a : Int32 × Int32) => f_X11_fetch_L62 (nI f) M a.1 a.2) (b := nI (pu_ct M f 6)) (fun j => (nI (pu_ct M f j), nI (6 * f + j))) 6 (fun j hj => ?_) ?_ (by omega)
  · rw [x6s]
    exact h
  · show f_X11_fetch_L62 (nI f) M _ (nI (6 * f + j)) = _
    unfold f_X11_fetch_L62 f_X11_fetch_J90
    rw [x6e, if_neg (nI_ge (by omega) (by omega)), mh_there P hf H hj, pu_sb, ← ct_step, nI_1]
    rcases th_01 M (6 * f + j) with e | e
    · rw [e, if_pos rfl]; rfl
    · rw [e, if_neg (by decide)]; rfl
  · show f_X11_fetch_L62 (nI f) M _ (nI (6 * f + 6)) = _
    unfold f_X11_fetch_L62
    rw [x6e, if_pos (nI_le (Nat.le_refl _) (by omega))]
def d_add (D : Nat → Nat → Nat) (p q z : Nat) : Nat → Nat → Nat := fun a b => if a = p ∧ b = q then D p q + z else D a b
theorem rd_add (h : rl_D np D B C M) (hn : np ≤ 16) {p q z : Nat} (hp : p < np) (hq : q < np) (hz : D p q + z ≤ B) : rl_D np (d_add D p q z) B (ps_up C (38 + p) q (nI (D p q + z))) (ps_up M 101 (16 * p + q) (nI (D p q + z))) := by
  refine ⟨fun a b ha hb => ⟨rdC_put (rd_c h) (by omega) (by omega) a b ha hb, rdM_put (rd_m h) (by omega) (by omega) a b ha hb, ?_⟩, fun a b hab => ?_⟩
  · unfold d_add
    by_cases e : a = p ∧ b = q
    · rw [if_pos e]; exact hz
    · rw [if_neg e]; exact (h.1 a b ha hb).2.2
  · unfold d_add
    rw [if_neg (by omega)]; exact h.2 a b hab
theorem d_add_le (D : Nat → Nat → Nat) (p q z a b : Nat) : d_add D p q z a b ≤ D a b + z := by
  unfold d_add
  by_cases e : a = p ∧ b = q
  · rw [if_pos e, e.1, e.2]; exact Nat.le_refl _
  · rw [if_neg e]; omega
theorem sim_give (Q : rl_Q np id so on kp nf ow D c C M) (hf : f < nf) {p : Nat} (hp : p < np) (hB : ∀ x y, D x y + 10 ≤ 1000 * c) : ∃ (u v : ps_S × Int32), ps_it (fun (a : ps_S × Int32 × Int32) => f_X1_give_L57 (103 + 7 * f) (nI p) a.1 a.2.1 a.2.2) ps_fu (C, 0, 0) = some u ∧ ps_it (fun (a : ps_S × Int32 × Int32) => f_X11_fetch_L126 (nI p) (nI f) a.1 a.2.1 a.2.2) ps_fu (M, 0, 6 * nI f) = some v ∧ u.2 = v.2 ∧ ∃ D', rl_Q np id so on kp nf ow D' c u.1 v.1 ∧ (∀ a b, a < 38 ∨ 54 ≤ a → u.1 a b = C a b) ∧ ∀ a b, a ≠ 101 → v.1 a b = M a b := by
  have hn := Q.1.1.1
  have hnf := Q.2.2.2.2.1.1
  rw [x6s]
  refine pu_twox0 (s1 := fun (a : ps_S × Int32 × Int32) => f_X1_give_L57 (103 + 7 * f) (nI p) a.1 a.2.1 a.2.2) (s2 := fun (a : ps_S × Int32 × Int32) => f_X11_fetch_L126 (nI p) (nI f) a.1 a.2.1 a.2.2) (a := (C, 0, 0)) (b := (M, 0, nI (6 * f)))
    (fun j a b => a.2.2 = nI j ∧ b.2.2 = nI (6 * f + j) ∧ a.2.1 = b.2.1 ∧ ∃ g D', a.2.1 = nI g ∧ g ≤ j ∧ (∀ x y, D' x y ≤ D x y + j) ∧ rl_Q np id so on kp nf ow D' c a.1 b.1 ∧ (∀ x y, x < 38 ∨ 54 ≤ x → a.1 x y = C x y) ∧ ∀ x y, x ≠ 101 → b.1 x y = M x y)
    (fun u v => u.2 = v.2 ∧ ∃ D', rl_Q np id so on kp nf ow D' c u.1 v.1 ∧ (∀ a b, a < 38 ∨ 54 ≤ a → u.1 a b = C a b) ∧ ∀ a b, a ≠ 101 → v.1 a b = M a b) 6 (by omega) ⟨rfl, rfl, rfl, 0, D, rfl, Nat.le_refl _, fun _ _ => Nat.le_refl _, Q, fun _ _ _ => rfl, fun _ _ _ => rfl⟩ ?_ ?_
  · rintro j ⟨T, g1, i⟩ ⟨U, g2, i2⟩ hj ⟨hi, hi2, hg, g, D', hg1, hgj, hD, QT, fT, fU⟩
    dsimp only at hi hi2 hg hg1 QT fT fU ⊢
    subst hi; subst hi2; subst hg; subst hg1
    have H := (QT.2.2.2.2.2.2.1 f hf).2
    unfold f_X1_give_L57 f_X1_give_J98 f_X11_fetch_L126 f_X11_fetch_J192 f_X11_fetch_J187
    rw [if_neg (lit_ge (x := 6) (n := 6) rfl hj (by omega)), x6e, if_neg (nI_ge (by omega) (by omega))]
    by_cases h4 : 4 ≤ g
    · rw [if_pos (lit_le (x := 4) (n := 4) rfl h4 (by omega)), if_pos (lit_le (x := 4) (n := 4) rfl h4 (by omega))]
      exact Or.inr ⟨_, _, rfl, rfl, rfl, D', QT, fT, fU⟩
    · rw [if_neg (lit_ge (x := 4) (n := 4) rfl (by omega) (by omega)), if_neg (lit_ge (x := 4) (n := 4) rfl (by omega) (by omega)), ch_hand QT.1 H hj, pu_sb, mh_there QT.1 (by omega) H hj, pu_sb, nI_1, nI_1]
      refine Or.inl ?_
      rcases th_01 U (6 * f + j) with e | e
      · rw [e, if_pos rfl, if_pos rfl]
        exact ⟨_, _, rfl, rfl, rfl, nI_1 _, rfl, g, D', rfl, by omega, fun x y => Nat.le_trans (hD x y) (by omega), QT, fT, fU⟩
      · rw [e, if_neg (by decide), if_neg (by decide), x8_holder hj, pu_sb, (H j hj).1.1]
        have ib := pu_ib (i := 6 * f + j) (n := 72) (by omega) (by omega)
        have cl := nI_clamp (n := 6 * f + j) (by omega)
        rcases (H j hj).2.1 with h93 | ⟨x, hx, -, h93⟩
        · exact absurd h93 (th_held e)
        · rw [cl, h93, if_pos ib, pu_16, nI_add, if_pos (pu_ib (by omega) (by omega)), if_pos ib, if_pos (pu_ib (by omega) (by omega)), if_pos (pu_ib (by omega) (by omega)), nI_clamp (n := 16 * p + x) (by omega)]
          by_cases hxp : x = p
          · subst hxp
            rw [if_pos rfl, Int32.add_zero, ps_up_self rfl]
            have eo : f_X2_owe T (nI x) (nI x) 1 = some T := by
              unfold f_X2_owe
              rw [cd_place (by omega) (by omega), pu_sb, if_neg (by decide), if_pos rfl]
            rw [eo, pu_sb]
            exact ⟨_, _, rfl, rfl, rfl, nI_1 _, rfl, g + 1, D', rfl, by omega, fun x y => Nat.le_trans (hD x y) (by omega), QT, fT, fU⟩
          · rw [if_neg (fun q => hxp (pu_inj (by omega) (by omega) q)), cd_owe (by omega) (by omega) (fun q => hxp q.symm), pu_sb]
            obtain ⟨P, O, N, DD, F⟩ := QT
            rw [rd_c DD p x (by omega) (by omega), rd_m DD p x (by omega) (by omega), nI_1]
            have h1 := hD p x
            have h2 := hB p x
            have uM : ∀ a b, a ≠ 101 → ps_up U 101 (16 * p + x) (nI (D' p x + 1)) a b = U a b := fun a b h => pu_up_k h
            have uT : ∀ a b, a ≠ 38 + p → ps_up T (38 + p) x (nI (D' p x + 1)) a b = T a b := fun a b h => pu_up_k h
            refine ⟨_, _, rfl, rfl, rfl, nI_1 _, rfl, g + 1, d_add D' p x 1, rfl, by omega, fun a b => Nat.le_trans (d_add_le D' p x 1 a b) (by have := hD a b; omega), ⟨rp_congr P (fun a b h => uT a b (by omega)) (uM 80 2 (by omega)) (fun a b h1 h2 => uM a b (by omega)), ro_congr O (uT 22 6 (by omega)) (uT 78 2 (by omega)) (uT 0 9 (by omega)) (uM 80 14 (by omega)) (uM 80 26 (by omega)) (uM 80 1 (by omega)), rn_congr N (fun a b h1 h2 => uT a b (by omega)) (fun a b h1 h2 => uM a b (by omega)), rd_add DD hn hp hx (by omega), rf_congr F (uT 0 8 (by omega)) (fun b => uT 57 b (by omega)) (fun a b h => uT a b (by omega)) (uM 80 15 (by omega)) (fun a b h1 h2 => uM a b (by omega))⟩, fun a b h => by rw [← fT a b h]; exact pu_up_k (by omega), fun a b h => by rw [← fU a b h]; exact pu_up_k h⟩
  · rintro ⟨T, g1, i⟩ ⟨U, g2, i2⟩ ⟨hi, hi2, hg, g, D', hg1, hgj, hD, QT, fT, fU⟩
    dsimp only at hi hi2 hg hg1 QT fT fU ⊢
    subst hi; subst hi2; subst hg
    unfold f_X1_give_L57 f_X11_fetch_L126
    rw [if_pos (show (6 : Int32) ≤ nI 6 by decide), x6e, if_pos (nI_le (Nat.le_refl _) (by omega))]
    exact ⟨_, _, rfl, rfl, rfl, D', QT, fT, fU⟩
theorem op_fetch (Q : rl_Q np id so on kp nf ow D c S S) (x y : Int32) : op_K c S (f_cmp (fun r => r) (f_L_fetch S x y) (fun S => f_X11_fetch S x y)) := by
  unfold f_L_fetch
  have hn := Q.1.1.1
  have hnf := Q.2.2.2.2.1.1
  by_cases hx : ∃ p, p < np ∧ x = nI p
  · obtain ⟨p, hp, rfl⟩ := hx
    by_cases hy : ∃ f, f < nf ∧ y = nI f
    · obtain ⟨f, hf, rfl⟩ := hy
      rcases rp_on Q.1 hp with e | e
      · refine op_no (e := 2) (k := 2) Q ?_ rfl (by decide) ?_
        · unfold f_X10_fetch
          rw [pu_bxr (np_ok Q.1 hp), pu_bxr (fa_ok Q.2.2.2.2 hf), pu_bxl (no_no Q.1 hp e)]
        · show f_X11_fetch S (nI p) (nI f) = _
          unfold f_X11_fetch f_X11_fetch_J21 f_X11_fetch_J45
          rw [mp_is Q.1.2.2.1 hn hp, pu_sb, if_neg (by decide), mf_is Q.2.2.2.2.1.2.2 hnf hf, pu_sb, if_neg (by decide), if_neg (by decide), if_pos (pu_ib (by omega) (by omega)), nI_clamp (by omega), mp_on Q.1 hp, if_pos e]
          exact pu_no (by decide) _ (if_pos rfl)
      · refine op_yes Q (fun M QM => ?_)
        have Q0 : rl_Q np id so on kp nf ow D (c + 1) S (ps_up M 80 0 0) := rq_le (rq_0 QM) (by omega)
        obtain ⟨V, H⟩ := Q0.2.2.2.2.2.2.1 f hf
        have ho := V.1
        have cc := cg_cnt Q0.1 H
        have mc := mg_cnt Q0.1 (by omega) H
        have c6 : pu_ct (ps_up M 80 0 0) f 6 ≤ 6 := cnt_le _ _
        have cX : f_X10_fetch S (nI p) (nI f) = (ps_b2 (f_X1_give S (103 + 7 * f) (nI p)) fun r22 S22 => some (.inr (r22, S22))) := by
          unfold f_X10_fetch
          rw [pu_bxr (np_ok Q.1 hp), pu_bxr (fa_ok Q.2.2.2.2 hf), pu_bxr (no_ok Q.1 hp e)]
        have mX : f_X11_fetch M (nI p) (nI f) = f_X11_fetch_J45 M (nI p) (nI f) 0 := by
          unfold f_X11_fetch f_X11_fetch_J21
          rw [mp_is QM.1.2.2.1 hn hp, pu_sb, if_neg (by decide), mf_is QM.2.2.2.2.1.2.2 hnf hf, pu_sb, if_neg (by decide), if_neg (by decide), if_pos (pu_ib (by omega) (by omega)), nI_clamp (by omega), mp_on QM.1 hp, e, if_neg (by decide)]
        rw [cX, mX]
        unfold f_X1_give f_X8_owner f_X11_fetch_J45
        rw [cc, pu_sb, pu_sb, ho.2.1, pu_b2 (pu_h0 M), if_neg (show ¬ (1 : Int32) = 0 by decide), mc, pu_sb, if_pos (pu_ib (by omega) (by omega)), nI_clamp (by omega), ho.2.2]
        by_cases epo : p = ow f
        · rw [if_pos (by rw [epo]), if_pos (by rw [epo]), pu_b2 rfl]
          exact ⟨S, 0, ps_up M 80 0 0, rfl, fc_0, rfl, pu_up_same _ _ _ _, fm_0, rq_R Q0, rfl⟩
        · have := ho.1
          rw [if_neg (fun q => epo (pu_inj (by omega) (by omega) q)), if_neg (fun q => epo (pu_inj (by omega) (by omega) q).symm)]
          by_cases h4 : 4 ≤ pu_ct (ps_up M 80 0 0) f 6
          · rw [if_pos (lit_le (x := 4) (n := 4) rfl h4 (by omega)), if_pos (lit_le (x := 4) (n := 4) rfl h4 (by omega))]
            obtain ⟨⟨C', r⟩, ⟨M', r2⟩, e1, e2, hr, D', Q', fC, fM⟩ := sim_give Q0 hf hp (fun x y => by
              have := rd_b QM.2.2.2.1 hn x y
              omega)
            dsimp only at hr Q' fC fM
            subst hr
            rw [pu_b2 e1, pu_b2 rfl, pu_b2 e2]
            exact ⟨C', r, M', rfl, fun a b h1 h2 => fC a b (by omega), rfl, by rw [fM _ _ (by omega), pu_up_same], fun a b h => by rw [fM a b (by omega), pu_up_k (by omega)], rq_R Q', fC _ _ (by omega)⟩
          · rw [if_neg (lit_ge (x := 4) (n := 4) rfl (by omega) (by omega)), if_neg (lit_ge (x := 4) (n := 4) rfl (by omega) (by omega)), pu_b2 rfl]
            exact ⟨S, 0, ps_up M 80 0 0, rfl, fc_0, rfl, pu_up_same _ _ _ _, fm_0, rq_R Q0, rfl⟩
    · refine op_no (e := 1) (k := 1) Q ?_ rfl (by decide) ?_
      · unfold f_X10_fetch
        rw [pu_bxr (np_ok Q.1 hp), pu_bxl (fa_no Q.2.2.2.2 hy)]
      · show f_X11_fetch S (nI p) y = _
        unfold f_X11_fetch f_X11_fetch_J21 f_X11_fetch_J45
        rw [mp_is Q.1.2.2.1 hn hp, pu_sb, if_neg (by decide), mf_no Q.2.2.2.2.1.2.2 hnf hy, pu_sb, if_pos rfl, if_pos rfl]
        exact pu_no (by decide) _ (if_pos rfl)
  · refine op_no (e := 1) (k := 1) Q ?_ rfl (by decide) ?_
    · unfold f_X10_fetch
      rw [pu_bxl (np_no Q.1 hx)]
    · show f_X11_fetch S x y = _
      unfold f_X11_fetch f_X11_fetch_J21 f_X11_fetch_J45
      rw [mp_isno Q.1.2.2.1 Q.1.1.1 hx, pu_sb, if_pos rfl, if_pos rfl]
      exact pu_no (by decide) _ (if_pos rfl)
/-! challenges -/
theorem rh_put (H : rl_H np f o C M) {h v m : Int32} (h1 : rl_H1 np o h v m) (c1 : C' (104 + 7 * f) k = h) (c2 : C' (105 + 7 * f) k = v) (c3 : C' (106 + 7 * f) k = m) (m1 : M' 93 (6 * f + k) = h) (m2 : M' 94 (6 * f + k) = v) (m3 : M' 95 (6 * f + k) = m) (cr : ∀ a j, j ≠ k → (a = 104 + 7 * f ∨ a = 105 + 7 * f ∨ a = 106 + 7 * f) → C' a j = C a j) (mr : ∀ a j, j ≠ 6 * f + k → 93 ≤ a → a ≤ 95 → M' a j = M a j) : rl_H np f o C' M' := by
  intro j hj
  by_cases e : j = k
  · subst e
    rw [c1, c2, c3, m1, m2, m3]
    exact ⟨⟨rfl, rfl, rfl⟩, h1⟩
  · rw [cr _ j e (Or.inl rfl), cr _ j e (Or.inr (Or.inl rfl)), cr _ j e (Or.inr (Or.inr rfl)), mr 93 _ (by omega) (by omega) (by omega), mr 94 _ (by omega) (by omega) (by omega), mr 95 _ (by omega) (by omega) (by omega)]
    exact H j hj
theorem m6 (hk : k < 6) (hf : f < 12) : nI (6 * f + k) / 6 = nI f := by
  rw [show (6 : Int32) = nI 6 from rfl, pk_div (by omega) (by omega) (by omega)]
  congr 1
  omega
/-- what challenges leave as it is -/
def ch_fr (f : Nat) (C C' M M' : ps_S) : Prop := (∀ a b, (a < 38 ∨ 54 ≤ a) → a ≠ 104 + 7 * f → a ≠ 105 + 7 * f → a ≠ 106 + 7 * f → C' a b = C a b) ∧ (∀ a b, a ≠ 101 → ¬ (93 ≤ a ∧ a ≤ 95) → M' a b = M a b)
theorem ch_off (Q : rl_Q np id so on kp nf ow D c C M) (hf : f < nf) (hk : k < 6) (h : on (ow f) = 0) : f_X11_challenges M (nI (6 * f + k)) = some M := by
  have hn := Q.1.1.1
  have hnf := Q.2.2.2.2.1.1
  obtain ⟨⟨ho, hCo, hMo⟩, -⟩ := (Q.2.2.2.2.2.2.1 f hf).1
  unfold f_X11_challenges
  rw [m6 hk (by omega), if_pos (pu_ib (by omega) (by omega)), if_pos (pu_ib (by omega) (by omega)), nI_clamp (n := 6 * f + k) (by omega), nI_clamp (n := f) (by omega), hMo, if_pos (pu_ib (by omega) (by omega)), nI_clamp (n := ow f) (by omega), mp_on Q.1 ho, if_pos h, ite_self]
theorem sim_chal (Q : rl_Q np id so on kp nf ow D c C M) (hf : f < nf) (hk : k < 6) (hon : on (ow f) = 1) (hB : ∀ x y, D x y + 10 ≤ 1000 * c) : ∃ C' M' D', f_X1_challenge_L17 (103 + 7 * f) C (nI k) = some (.inl (C', nI (k + 1))) ∧ f_X11_challenges M (nI (6 * f + k)) = some M' ∧ rl_Q np id so on kp nf ow D' c C' M' ∧ (∀ x y, D' x y ≤ D x y + 10) ∧ ch_fr f C C' M M' := by
  have hn := Q.1.1.1
  have hnf := Q.2.2.2.2.1.1
  obtain ⟨⟨⟨ho, hCo, hMo⟩, -⟩, H⟩ := Q.2.2.2.2.2.2.1 f hf
  have ib := pu_ib (i := 6 * f + k) (n := 72) (by omega) (by omega)
  have cl := nI_clamp (n := 6 * f + k) (by omega)
  obtain ⟨⟨h1, h2, h3⟩, h4, h5, n, hn2, h6⟩ := H k hk
  unfold f_X1_challenge_L17 f_X1_challenge_J37 f_X11_challenges
  rw [if_neg (lit_ge (x := 6) (n := 6) rfl hk (by omega)), x8_held hk, pu_sb, h1, m6 hk (by omega), if_pos (pu_ib (by omega) (by omega)), if_pos ib, cl, nI_clamp (n := f) (by omega), hMo]
  rcases h4 with h4 | ⟨x, hx, hxo, h4⟩
  · rw [if_pos h4, if_pos rfl, if_pos h4, nI_1]
    exact ⟨C, M, D, rfl, rfl, Q, fun _ _ => by omega, fun _ _ _ _ _ _ => rfl, fun _ _ _ _ => rfl⟩
  · have hne : ¬ M 93 (6 * f + k) = -1 := by rw [h4]; exact pu_ne1 (by omega)
    rw [if_neg hne, if_neg (by decide), if_neg hne, if_pos (pu_ib (by omega) (by omega)), nI_clamp (n := ow f) (by omega), mp_on Q.1 ho, hon, if_neg (by decide), mh_there Q.1 (by omega) H hk, pu_sb, if_pos ib, if_pos ib, if_pos ib, if_pos ib, if_pos ib, if_pos ib, if_pos ib, if_pos ib, if_pos ib]
    unfold f_X1_challengePiece f_X8_owner
    rw [x8_holder hk, pu_sb, ch_hand Q.1 H hk, pu_sb, h1, hCo, pu_sb, pu_sb, x8_missed hk, pu_sb, h3, h6, pu_up_same, nI_1, pu_up_k (a := 93) (k := 95) (by omega), h4, pu_up_k (a := 101) (k := 95) (by omega), nI_1]
    obtain ⟨P, O, N, DD, F⟩ := Q
    rcases th_01 M (6 * f + k) with e | e
    · rw [e, if_pos rfl, if_pos rfl]
      by_cases en : n = 2
      · subst en
        have e3 : nI (2 + 1) = 3 := rfl
        rw [e3, if_pos (show (3 : Int32) ≤ 3 by decide), if_pos rfl, cd_owe (by omega) (by omega) hxo, pu_sb, x8_hand hk (-1) (Or.inl rfl), pu_sb, pu_sb, pu_16, nI_add, if_pos (pu_ib (by omega) (by omega)), if_pos (pu_ib (by omega) (by omega)), nI_clamp (n := 16 * x + ow f) (by omega), rd_c DD x (ow f) (by omega) (by omega), rd_m DD x (ow f) (by omega) (by omega), show (10 : Int32) = nI 10 from rfl, nI_add, pu_nb0]
        have hb := hB x (ow f)
        refine ⟨_, _, d_add D x (ow f) 10, rfl, rfl, ⟨rp_congr P (fun a b h => ?_) ?_ (fun a b h1 h2 => ?_), ro_congr O ?_ ?_ ?_ ?_ ?_ ?_, rn_congr N (fun a b h1 h2 => ?_) (fun a b h1 h2 => ?_), rd_congr (rd_add DD hn hx ho hb) (fun a b h1 h2 => ?_) (fun b => ?_), rf_mut F hf (fun a b h1 h2 h3 h4 => ?_) ?_ (fun a b h1 h2 h3 => ?_) (rh_put H (k := k) (h := -1) (v := 0) (m := 0) ⟨Or.inl rfl, Or.inl rfl, 0, by omega, rfl⟩ ?_ ?_ ?_ ?_ ?_ ?_ (fun a j h1 h2 => ?_) (fun a j h1 h2 h3 => ?_))⟩, fun a b => d_add_le D x (ow f) 10 a b, fun a b h1 h2 h3 h4 => ?_, fun a b h1 h2 => ?_⟩
        · rw [pu_up_k (by omega), pu_up_k (by omega), pu_up_k (by omega), pu_up_k (by omega)]
        · rw [pu_up_k (by omega), pu_up_k (by omega), pu_up_k (by omega), pu_up_k (by omega), pu_up_k (by omega)]
        · rw [pu_up_k (by omega), pu_up_k (by omega), pu_up_k (by omega), pu_up_k (by omega), pu_up_k (by omega)]
        · rw [pu_up_k (by omega), pu_up_k (by omega), pu_up_k (by omega), pu_up_k (by omega)]
        · rw [pu_up_k (by omega), pu_up_k (by omega), pu_up_k (by omega), pu_up_k (by omega)]
        · rw [pu_up_k (by omega), pu_up_k (by omega), pu_up_k (by omega), pu_up_k (by omega)]
        · rw [pu_up_k (by omega), pu_up_k (by omega), pu_up_k (by omega), pu_up_k (by omega), pu_up_k (by omega)]
        · rw [pu_up_k (by omega), pu_up_k (by omega), pu_up_k (by omega), pu_up_k (by omega), pu_up_k (by omega)]
        · rw [pu_up_k (by omega), pu_up_k (by omega), pu_up_k (by omega), pu_up_k (by omega), pu_up_k (by omega)]
        · rw [pu_up_k (by omega), pu_up_k (by omega), pu_up_k (by omega), pu_up_k (by omega)]
        · rw [pu_up_k (by omega), pu_up_k (by omega), pu_up_k (by omega), pu_up_k (by omega), pu_up_k (by omega)]
        · rw [pu_up_k (by omega), pu_up_k (by omega), pu_up_k (by omega)]
        · rw [pu_up_k (by omega), pu_up_k (by omega), pu_up_k (by omega)]
          unfold ps_up
          by_cases eb : b = 16 * x + ow f
          · rw [if_pos ⟨rfl, eb⟩, if_pos ⟨rfl, eb⟩]
          · have g1 : ¬ ((101 : Nat) = 101 ∧ b = 16 * x + ow f) := fun q => eb q.2
            have g2 : ¬ ((101 : Nat) = 95 ∧ b = 6 * f + k) := by omega
            rw [if_neg g1, if_neg g2, if_neg g1]
        · rw [pu_up_k h3, pu_up_k h2, pu_up_k h1, pu_up_k (by omega)]
        · rw [pu_up_k (by omega), pu_up_k (by omega), pu_up_k (by omega), pu_up_k (by omega), pu_up_k (by omega)]
        · unfold ps_up
          rw [if_neg (by omega), if_neg (by omega), if_neg (by omega), if_neg (by omega), if_neg (by omega)]
        · rw [pu_up_k (by omega), pu_up_k (by omega), pu_up_same]
        · rw [pu_up_k (by omega), pu_up_same]
        · rw [pu_up_same]
        · rw [pu_up_k (by omega), pu_up_k (by omega), pu_up_same]
        · rw [pu_up_k (by omega), pu_up_same]
        · rw [pu_up_same]
        · rw [pu_up_i h1, pu_up_i h1, pu_up_i h1, pu_up_k (by omega)]
        · rw [pu_up_i h1, pu_up_i h1, pu_up_i h1, pu_up_k (by omega), pu_up_i h1]
        · rw [pu_up_k h4, pu_up_k h3, pu_up_k h2, pu_up_k (by omega)]
        · rw [pu_up_k (by omega), pu_up_k (by omega), pu_up_k (by omega), pu_up_k (by omega), pu_up_k (by omega)]
      · have e3 : ¬ (3 : Int32) ≤ nI (n + 1) := lit_ge (x := 3) (n := 3) rfl (by omega) (by omega)
        have e4 : ¬ nI (n + 1) = 3 := fun q => e3 (by rw [q]; decide)
        rw [if_neg e3, if_neg e4, pu_sb, nI_1, x8_setMissed hk, pu_sb, pu_sb]
        refine ⟨_, _, D, rfl, rfl, ⟨rp_congr P (fun a b h => pu_up_k (by omega)) (pu_up_k (by omega)) (fun a b h1 h2 => pu_up_k (by omega)), ro_congr O (pu_up_k (by omega)) (pu_up_k (by omega)) (pu_up_k (by omega)) (pu_up_k (by omega)) (pu_up_k (by omega)) (pu_up_k (by omega)), rn_congr N (fun a b h1 h2 => pu_up_k (by omega)) (fun a b h1 h2 => pu_up_k (by omega)), rd_congr DD (fun a b h1 h2 => pu_up_k (by omega)) (fun b => pu_up_k (by omega)), rf_mut F hf (fun a b h1 h2 h3 h4 => pu_up_k h3) (pu_up_k (by omega)) (fun a b h1 h2 h3 => ?_) (rh_put H (k := k) (h := nI x) (v := M 94 (6 * f + k)) (m := nI (n + 1)) ⟨Or.inr ⟨x, hx, hxo, rfl⟩, h5, n + 1, by omega, rfl⟩ ?_ ?_ ?_ ?_ ?_ ?_ (fun a j h1 h2 => pu_up_i h1) (fun a j h1 h2 h3 => pu_up_i h1))⟩, fun _ _ => by omega, fun a b h1 h2 h3 h4 => pu_up_k h4, fun a b h1 h2 => pu_up_k (by omega)⟩
        · unfold ps_up
          rw [if_neg (by omega)]
        · rw [pu_up_k (by omega), h1, h4]
        · rw [pu_up_k (by omega), h2]
        · rw [pu_up_same]
        · rw [pu_up_k (by omega), h4]
        · rw [pu_up_k (by omega)]
        · rw [pu_up_same]
    · rw [e, if_neg (by decide), if_neg (by decide), cd_owe (by omega) (by omega) (fun q => hxo q.symm), pu_sb, x8_setMissed hk, pu_sb, pu_sb, pu_16, nI_add, if_pos (pu_ib (by omega) (by omega)), if_pos (pu_ib (by omega) (by omega)), nI_clamp (n := 16 * ow f + x) (by omega), rd_c DD (ow f) x (by omega) (by omega), rd_m DD (ow f) x (by omega) (by omega), show (3 : Int32) = nI 3 from rfl, nI_add]
      have hb := hB (ow f) x
      refine ⟨_, _, d_add D (ow f) x 3, rfl, rfl, ⟨rp_congr P (fun a b h => ?_) ?_ (fun a b h1 h2 => ?_), ro_congr O ?_ ?_ ?_ ?_ ?_ ?_, rn_congr N (fun a b h1 h2 => ?_) (fun a b h1 h2 => ?_), rd_congr (rd_add DD hn ho hx (by omega)) (fun a b h1 h2 => pu_up_k (by omega)) (fun b => pu_up_k (by omega)), rf_mut F hf (fun a b h1 h2 h3 h4 => ?_) ?_ (fun a b h1 h2 h3 => ?_) (rh_put H (k := k) (h := nI x) (v := M 94 (6 * f + k)) (m := 0) ⟨Or.inr ⟨x, hx, hxo, rfl⟩, h5, 0, by omega, rfl⟩ ?_ ?_ ?_ ?_ ?_ ?_ (fun a j h1 h2 => ?_) (fun a j h1 h2 h3 => ?_))⟩, fun a b => Nat.le_trans (d_add_le D (ow f) x 3 a b) (by omega), fun a b h1 h2 h3 h4 => ?_, fun a b h1 h2 => ?_⟩
      · rw [pu_up_k (by omega), pu_up_k (by omega)]
      · rw [pu_up_k (by omega), pu_up_k (by omega)]
      · rw [pu_up_k (by omega), pu_up_k (by omega)]
      · rw [pu_up_k (by omega), pu_up_k (by omega)]
      · rw [pu_up_k (by omega), pu_up_k (by omega)]
      · rw [pu_up_k (by omega), pu_up_k (by omega)]
      · rw [pu_up_k (by omega), pu_up_k (by omega)]
      · rw [pu_up_k (by omega), pu_up_k (by omega)]
      · rw [pu_up_k (by omega), pu_up_k (by omega)]
      · rw [pu_up_k (by omega), pu_up_k (by omega)]
      · rw [pu_up_k (by omega), pu_up_k (by omega)]
      · rw [pu_up_k h3, pu_up_k (by omega)]
      · rw [pu_up_k (by omega), pu_up_k (by omega)]
      · unfold ps_up
        rw [if_neg (by omega), if_neg (by omega)]
      · rw [pu_up_k (by omega), pu_up_k (by omega), h1, h4]
      · rw [pu_up_k (by omega), pu_up_k (by omega), h2]
      · rw [pu_up_same]
      · rw [pu_up_k (by omega), pu_up_k (by omega), h4]
      · rw [pu_up_k (by omega), pu_up_k (by omega)]
      · rw [pu_up_same]
      · rw [pu_up_i h1, pu_up_k (by omega)]
      · rw [pu_up_i h1, pu_up_k (by omega)]
      · rw [pu_up_k h4, pu_up_k (by omega)]
      · rw [pu_up_k (by omega), pu_up_k (by omega)]
end
