/-! the reference's lookup, from its begin to its result -/
section
variable {np : Nat} {id so on : Nat → Int32} {key me : Nat} {S : ps_S} {kp : Nat → Nat → List Nat}
theorem lm_begin (M : pu_MP np id so on kp S) (w : pu_AW np id on kp) (hm : me < np) {ways : Nat} (hw : ways = 1 ∨ ways = 2) : ∃ S1 S', ps_it (fun (a : ps_S × Int32) => f_X11_looksUp_L8 a.1 a.2) ps_fu (ps_up S 80 14 0, 0) = some S1 ∧ ps_it (fun (a : ps_S × Int32 × Int32) => f_X11_looksUp_L62 (nI me) (nI key) (nI ways) a.1 a.2.1 a.2.2) ps_fu (S1, (-1), 0) = some S' ∧ lk_M np id so on (lk_begin np id key me kp ways) S' ∧ lk_G S S' := by
  have hn := w.1
  have loop1 := pu_ind0 (step := fun (a : ps_S × Int32) => f_X11_looksUp_L8 a.1 a.2) (a := (ps_up S 80 14 0, 0))
    (fun j a => a.2 = nI j ∧ (∀ x, x < j → a.1 86 x = 0 ∧ a.1 86 (16 + x) = 0 ∧ a.1 87 x = 0 ∧ a.1 88 x = 0) ∧ ∀ x b, x ≠ 86 → x ≠ 87 → x ≠ 88 → a.1 x b = ps_up S 80 14 0 x b)
    (fun T => (∀ x, x < 16 → T 86 x = 0 ∧ T 86 (16 + x) = 0 ∧ T 87 x = 0 ∧ T 88 x = 0) ∧ ∀ x b, x ≠ 86 → x ≠ 87 → x ≠ 88 → T x b = ps_up S 80 14 0 x b) 16 (by omega) ⟨rfl, fun x hx => absurd hx (by omega), fun _ _ _ _ _ => rfl⟩ ?_ ?_
  · obtain ⟨S1, e1, z, f1⟩ := loop1
    have u1 : ∀ a b, a ≠ 86 → a ≠ 87 → a ≠ 88 → ¬ (a = 80 ∧ b = 14) → S1 a b = S a b := fun a b h1 h2 h3 h4 => by rw [f1 a b h1 h2 h3]; exact if_neg h4
    have M1 : pu_MP np id so on kp S1 := mp_congr M (u1 _ _ (by omega) (by omega) (by omega) (by omega)) (fun a c h1 h2 => u1 a c (by omega) (by omega) (by omega) (by omega))
    have len : (lk_L0 np id key me kp).length ≤ np := pu_pig np _ ((sel_pw (q := pu_keeps kp me) (d := fun x => id x ^^^ nI key) (n := np) (m := 16) (last := -1)).imp (fun {a b} hab => fun e => by rw [e] at hab; exact pu_irr _ hab)) (fun a ha => (sel_mem ha).1)
    have loop2 := pu_ind0 (step := fun (a : ps_S × Int32 × Int32) => f_X11_looksUp_L62 (nI me) (nI key) (nI ways) a.1 a.2.1 a.2.2) (a := (S1, (-1), 0))
      (fun j a => a.2.2 = nI j ∧ wk_at (pu_keeps kp me) (fun x => id x ^^^ nI key) np 16 (lk_L0 np id key me kp) j a.2.1 ∧ (∀ y x, y < 2 → x < np → a.1 86 (16 * y + x) = if (List.range j).any (fun i => decide ((lk_L0 np id key me kp)[i]? = some x) && decide (y = if ways = 2 then i % 2 else 0)) = true then 1 else 0) ∧ ∀ x b, x ≠ 86 → a.1 x b = S1 x b)
      (fun T => (∀ y x, y < 2 → x < np → T 86 (16 * y + x) = if (List.range np).any (fun i => decide ((lk_L0 np id key me kp)[i]? = some x) && decide (y = if ways = 2 then i % 2 else 0)) = true then 1 else 0) ∧ ∀ x b, x ≠ 86 → T x b = S1 x b) np (by omega) ?_ ?_ ?_
    · obtain ⟨T, e2, h86, f2⟩ := loop2
      refine ⟨S1, T, e1, e2, ⟨mp_congr M1 (f2 _ _ (by omega)) (fun a c h1 h2 => f2 a c (by omega)), fun y x hy hx => ?_, fun x hx => ?_, fun x hx => ?_, ?_⟩, fun a b h1 h2 => ?_⟩
      · rw [h86 y x hy hx]
        exact congrArg (fun b : Bool => if b = true then (1 : Int32) else 0) (any_ext (x := x) (j := np) (k := 16) hn (fun i => decide (y = if ways = 2 then i % 2 else 0)) (fun i hi => List.getElem?_eq_none (by omega))).symm
      · rw [f2 _ _ (by omega), (z x (by omega)).2.2.1]; rfl
      · rw [f2 _ _ (by omega), (z x (by omega)).2.2.2]; rfl
      · rw [f2 _ _ (by omega), f1 _ _ (by omega) (by omega) (by omega), pu_up_same]; rfl
      · rw [f2 _ _ (by omega), u1 _ _ (by omega) (by omega) (by omega) (by omega)]
    · refine ⟨rfl, wk_start, fun y x hy hx => ?_, fun _ _ _ => rfl⟩
      dsimp only
      rcases (show y = 0 ∨ y = 1 by omega) with e | e
      · subst e
        rw [show 16 * 0 + x = x by omega, (z x (by omega)).1]; simp
      · subst e
        rw [show 16 * 1 + x = 16 + x by omega, (z x (by omega)).2.1]; simp
    · rintro j ⟨T, v4, v5⟩ hj ⟨h5, hwk, h86, f⟩
      dsimp only at h5 hwk h86 f ⊢
      subst h5
      have MT : pu_MP np id so on kp T := mp_congr M1 (f _ _ (by omega)) (fun a c h1 h2 => f a c (by omega))
      unfold f_X11_looksUp_L62
      rw [MT.1, if_neg (nI_ge hj (by omega)), mn_keeps MT w hm (nI key) v4, pu_sb]
      unfold f_X11_looksUp_J186 f_X11_looksUp_J203
      cases h9 : pu_min (fun k => pu_keeps kp me k && decide (v4 < id k ^^^ nI key)) (fun k => id k ^^^ nI key) np with
      | none =>
        obtain ⟨zz, hw'⟩ := wk_none hwk (show j < 16 by omega) h9
        rw [show pu_enc none = -1 from rfl, if_pos rfl, nI_1]
        refine ⟨_, rfl, rfl, hw', fun y x hy hx => ?_, f⟩
        dsimp only
        rw [h86 y x hy hx, any_ext (j := j) (k := j + 1) (by omega) (fun i => decide (y = if ways = 2 then i % 2 else 0)) zz]
      | some a =>
        obtain ⟨zz, hw'⟩ := wk_some hwk (show j < 16 by omega) h9
        obtain ⟨ha, -, -⟩ := pu_min_some h9
        rw [show pu_enc (some a) = nI a from rfl, if_neg (pu_ne1 (by omega)), (pu_q2' (show j < 16 by omega)).2, nI_1]
        have hy0 : (if ways = 2 then j % 2 else 0) < 2 := by split <;> omega
        have hst : (if nI ways = 2 then (if ps_ib (16 * nI (j % 2) + nI a) 32 = true then if ps_ib (nI a) 16 = true then ps_lts (ps_up T 86 (16 * nI (j % 2) + nI a).toNatClampNeg (vp_nar .boolean 1) 81 (nI a).toNatClampNeg ^^^ nI key) (fun x4_201 => some (Sum.inl (β := ps_S) (ps_up T 86 (16 * nI (j % 2) + nI a).toNatClampNeg (vp_nar .boolean 1), x4_201, nI (j + 1)))) else none else none) else (if ps_ib (16 * 0 + nI a) 32 = true then if ps_ib (nI a) 16 = true then ps_lts (ps_up T 86 (16 * 0 + nI a).toNatClampNeg (vp_nar .boolean 1) 81 (nI a).toNatClampNeg ^^^ nI key) (fun x4_201 => some (Sum.inl (ps_up T 86 (16 * 0 + nI a).toNatClampNeg (vp_nar .boolean 1), x4_201, nI (j + 1)))) else none else none)) = some (.inl (ps_up T 86 (16 * (if ways = 2 then j % 2 else 0) + a) 1, id a ^^^ nI key, nI (j + 1))) := by
          have one : ∀ v, v < 2 → (if ps_ib (16 * nI v + nI a) 32 = true then if ps_ib (nI a) 16 = true then ps_lts (ps_up T 86 (16 * nI v + nI a).toNatClampNeg (vp_nar .boolean 1) 81 (nI a).toNatClampNeg ^^^ nI key) (fun x4_201 => some (Sum.inl (β := ps_S) (ps_up T 86 (16 * nI v + nI a).toNatClampNeg (vp_nar .boolean 1), x4_201, nI (j + 1)))) else none else none) = some (.inl (ps_up T 86 (16 * v + a) 1, id a ^^^ nI key, nI (j + 1))) := by
            intro v hv
            rw [pu_16, nI_add, if_pos (pu_ib (by omega) (by omega)), if_pos (pu_ib (by omega) (by omega)), pu_lts, nI_clamp (n := a) (by omega), nI_clamp (n := 16 * v + a) (by omega), pu_up_k (by decide), (MT.2.1 a ha).1, pu_nb1]
          rcases hw with e | e
          · subst e
            rw [if_neg (by decide)]
            exact one 0 (by omega)
          · subst e
            rw [if_pos (by decide)]
            exact one (j % 2) (by omega)
        refine ⟨_, hst, rfl, hw', fun y x hy hx => ?_, fun x b hx => by rw [← f x b hx]; exact pu_up_k hx⟩
        dsimp only
        generalize hyy : (if ways = 2 then j % 2 else 0) = y0 at hy0
        rw [List.range_succ, List.any_append]
        simp only [List.any_cons, List.any_nil, Bool.or_false]
        rw [hyy, zz]
        by_cases e : y = y0 ∧ x = a
        · obtain ⟨e1, e2⟩ := e
          subst e1; subst e2
          rw [pu_up_same]
          simp
        · rw [pu_up_i (by omega), h86 y x hy hx]
          have : (decide (some a = some x) && decide (y = y0)) = false := by
            by_cases e1 : y = y0
            · have e2 : ¬ a = x := fun q => e ⟨e1, q.symm⟩
              simp [e2]
            · simp [e1]
          rw [this, Bool.or_false]
    · rintro ⟨T, v4, v5⟩ ⟨h5, hwk, h86, f⟩
      dsimp only at h5 hwk h86 f ⊢
      subst h5
      refine ⟨T, ?_, h86, f⟩
      unfold f_X11_looksUp_L62
      rw [f _ _ (by omega), M1.1, if_pos (nI_le (Nat.le_refl _) (by omega))]
  · rintro j ⟨T, v⟩ hj ⟨hv, z, f⟩
    dsimp only at hv z f ⊢
    subst hv
    unfold f_X11_looksUp_L8
    rw [show (16 : Int32) + nI j = nI (16 + j) from nI_add 16 j, if_neg (by rw [pu_i16]; exact nI_ge hj (by omega)), if_pos (pu_ib (by omega) (by omega)), if_pos (pu_ib (by omega) (by omega)), if_pos (pu_ib (by omega) (by omega)), if_pos (pu_ib (by omega) (by omega)), nI_clamp (by omega), nI_clamp (by omega), nI_1, pu_nb0]
    refine ⟨_, rfl, rfl, fun x hx => ?_, fun x b h1 h2 h3 => ?_⟩
    · dsimp only
      refine ⟨?_, ?_, ?_, ?_⟩
      · rw [pu_up_k (by decide), pu_up_k (by decide)]
        by_cases e : x = j
        · rw [pu_up_i (by omega), e, pu_up_same]
        · rw [pu_up_i (by omega), pu_up_i e]; exact (z x (by omega)).1
      · rw [pu_up_k (by decide), pu_up_k (by decide)]
        by_cases e : x = j
        · rw [e, pu_up_same]
        · rw [pu_up_i (by omega), pu_up_i (by omega)]; exact (z x (by omega)).2.1
      · rw [pu_up_k (by decide)]
        by_cases e : x = j
        · rw [e, pu_up_same]
        · rw [pu_up_i e, pu_up_k (by decide), pu_up_k (by decide)]; exact (z x (by omega)).2.2.1
      · by_cases e : x = j
        · rw [e, pu_up_same]
        · rw [pu_up_i e, pu_up_k (by decide), pu_up_k (by decide), pu_up_k (by decide)]; exact (z x (by omega)).2.2.2
    · dsimp only
      rw [pu_up_k h3, pu_up_k h2, pu_up_k h1, pu_up_k h1]
      exact f x b h1 h2 h3
  · rintro ⟨T, v⟩ ⟨hv, z, f⟩
    dsimp only at hv z f ⊢
    subst hv
    refine ⟨T, ?_, z, f⟩
    unfold f_X11_looksUp_L8
    rw [if_pos (by decide)]
theorem begin_w1 : ∀ x, x < np → (lk_begin np id key me kp 1).2.2.2.1 1 x = false := by
  intro x _
  unfold lk_begin
  simp
theorem lm_run (M : pu_MP np id so on kp S) (w : pu_AW np id on kp) (hm : me < np) {ways : Nat} (hw : ways = 1 ∨ ways = 2) : ∃ S', f_X11_looksUp S (nI me) (nI key) (nI ways) = some S' ∧ pu_MP np id so on (lk_run np id so on key me kp ways).1 S' ∧ S' 80 14 = nI (lk_run np id so on key me kp ways).2.2.2.2 ∧ S' 80 13 = nI (lk_res np id key (lk_run np id so on key me kp ways)).length ∧ (∀ i a, (lk_res np id key (lk_run np id so on key me kp ways))[i]? = some a → S' 90 i = nI a) ∧ lk_G S S' := by
  obtain ⟨S1, S2, e1, e2, M2, g2⟩ := lm_begin (key := key) M w hm hw
  obtain ⟨S3, e3, M3, g3⟩ := lm_rounds (key := key) hm (ways := ways) 17 _ S2 (by show 16 - 0 < 17; omega) (hw.imp (fun e => ⟨e, by rw [e]; exact begin_w1⟩) (fun e => e)) M2 (begin_I (key := key) w hm ways) ps_fu (by unfold ps_fu; omega)
  have M3 : lk_M np id so on (lk_run np id so on key me kp ways) S3 := M3
  obtain ⟨S4, e4, h13, h90, f4⟩ := lm_closest (key := key) M3.1.1 w.1 (fun k hk => (M3.1.2.1 k hk).1) M3.2.2.2.1
  refine ⟨S4, ?_, mp_congr M3.1 (f4 _ _ (by omega) (by omega)) (fun a c h1 h2 => f4 a c (by omega) (by omega)), ?_, h13, h90, ?_⟩
  · unfold f_X11_looksUp
    rw [e1, pu_sb, e2, pu_sb, e3, pu_sb, e4]
    rfl
  · rw [f4 _ _ (by omega) (by omega)]; exact M3.2.2.2.2
  · refine lk_Gt (lk_Gt g2 g3) (fun a b h1 h2 => f4 a b (by omega) (by omega))
end
