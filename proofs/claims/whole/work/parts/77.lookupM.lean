/-! the reference's lookup -/
theorem pu_lts {β : Type} (a : Int32) (f : Int32 → Option β) : ps_lts a f = f a := rfl
/-- what of L is left behind n: the next of q behind last -/
def wk_at (q : Nat → Bool) (d : Nat → Int32) (np m : Nat) (L : List Nat) (n : Nat) (last : Int32) : Prop := ∀ i, n ≤ i → L[i]? = (pu_sel q d np last (m - n))[i - n]?
section
variable {np : Nat} {id so on : Nat → Int32} {key me : Nat} {s : pu_L} {S : ps_S} {q : Nat → Bool} {d : Nat → Int32} {m n : Nat} {L : List Nat} {last : Int32}
theorem wk_start : wk_at q d np m (pu_sel q d np last m) 0 last := fun i _ => by simp
theorem wk_none (h : wk_at q d np m L n last) (hn : n < m) (e : pu_min (fun k => q k && decide (last < d k)) d np = none) : (∀ i, n ≤ i → L[i]? = none) ∧ wk_at q d np m L (n + 1) last := by
  have e0 : ∀ t, pu_sel q d np last t = [] := fun t => by
    cases t with
    | zero => rfl
    | succ t => unfold pu_sel; rw [e]
  refine ⟨fun i hi => by rw [h i hi, e0]; simp, fun i hi => by rw [h i (by omega), e0, e0]; simp⟩
theorem wk_some {a : Nat} (h : wk_at q d np m L n last) (hn : n < m) (e : pu_min (fun k => q k && decide (last < d k)) d np = some a) : L[n]? = some a ∧ wk_at q d np m L (n + 1) (d a) := by
  have e0 : pu_sel q d np last (m - n) = a :: pu_sel q d np (d a) (m - (n + 1)) := by
    obtain ⟨t, ht⟩ : ∃ t, m - n = t + 1 := ⟨m - n - 1, by omega⟩
    rw [ht, show m - (n + 1) = t by omega]
    conv => lhs; unfold pu_sel
    rw [e]
  refine ⟨by rw [h n (Nat.le_refl _), e0]; simp, fun i hi => ?_⟩
  rw [h i (by omega), e0, show i - n = (i - (n + 1)) + 1 by omega]
  simp
theorem any_ext {x j k : Nat} (hj : j ≤ k) (P : Nat → Bool) (h : ∀ i, j ≤ i → L[i]? = none) : (List.range k).any (fun i => decide (L[i]? = some x) && P i) = (List.range j).any (fun i => decide (L[i]? = some x) && P i) := by
  rw [Bool.eq_iff_iff]
  simp only [List.any_eq_true, List.mem_range, Bool.and_eq_true, decide_eq_true_eq]
  constructor
  · rintro ⟨i, hi, e, p⟩
    refine ⟨i, ?_, e, p⟩
    by_cases c : i < j
    · exact c
    · rw [h i (by omega)] at e; cases e
  · rintro ⟨i, hi, e, p⟩
    exact ⟨i, by omega, e, p⟩
/-- the reference's lookup under way -/
def lk_M (np : Nat) (id so on : Nat → Int32) (s : pu_L) (S : ps_S) : Prop := pu_MP np id so on s.1 S ∧ (∀ y x, y < 2 → x < np → S 86 (16 * y + x) = if s.2.2.2.1 y x = true then 1 else 0) ∧ (∀ x, x < np → S 87 x = if s.2.1 x = true then 1 else 0) ∧ (∀ x, x < np → S 88 x = if s.2.2.1 x = true then 1 else 0) ∧ S 80 14 = nI s.2.2.2.2
def lk_G (S S' : ps_S) : Prop := ∀ a b, ¬ (84 ≤ a ∧ a ≤ 90) → ¬ (a = 80 ∧ (b = 13 ∨ b = 14)) → S' a b = S a b
theorem lk_Gt {S S' S'' : ps_S} (h : lk_G S S') (h2 : lk_G S' S'') : lk_G S S'' := fun a b h1 h3 => (h2 a b h1 h3).trans (h a b h1 h3)
theorem lm_picks (M : lk_M np id so on s S) (w : pu_AW np id on s.1) {y : Nat} (hy : y < 2) : ∃ S', f_X11_picks S (nI y) (nI key) = some (nI ((lk_open np id key y s).take 2).length, S') ∧ (∀ i a, i < 2 → (lk_open np id key y s)[i]? = some a → S' 89 i = nI a) ∧ ∀ a b, a ≠ 89 → S' a b = S a b := by
  have hn := w.1
  obtain ⟨L, hL⟩ : ∃ L, L = pu_sel (s.2.2.2.1 y) (fun x => id x ^^^ nI key) np (-1) 3 := ⟨_, rfl⟩
  have hlen : L.length ≤ 3 := by rw [hL]; exact sel_len
  have hop : lk_open np id key y s = L.filter (fun x => !s.2.1 x) := by rw [hL]; rfl
  have loop := pu_indx0 (step := fun (a : ps_S × Int32 × Int32 × Int32) => f_X11_picks_L8 (nI y) (nI key) a.1 a.2.1 a.2.2.1 a.2.2.2) (a := (S, 0, 0, (-1)))
    (fun j a => a.2.1 = nI j ∧ wk_at (s.2.2.2.1 y) (fun x => id x ^^^ nI key) np 3 L j a.2.2.2 ∧ a.2.2.1 = nI (((L.take j).filter (fun x => !s.2.1 x)).take 2).length ∧ (∀ i x, i < 2 → ((L.take j).filter (fun x => !s.2.1 x))[i]? = some x → a.1 89 i = nI x) ∧ ∀ x b, x ≠ 89 → a.1 x b = S x b)
    (fun b => ∃ T, (b = .inl (T, nI ((L.filter (fun x => !s.2.1 x)).take 2).length) ∨ b = .inr (nI ((L.filter (fun x => !s.2.1 x)).take 2).length, T)) ∧ (∀ i x, i < 2 → (L.filter (fun x => !s.2.1 x))[i]? = some x → T 89 i = nI x) ∧ ∀ x b, x ≠ 89 → T x b = S x b) 3 (by omega) ?_ ?_ ?_
  · obtain ⟨b, e, T, hb, h1, h2⟩ := loop
    refine ⟨T, ?_, by rw [hop]; exact h1, h2⟩
    unfold f_X11_picks ps_bs
    rw [e, pu_sb, hop]
    rcases hb with hb | hb
    · rw [hb]; rfl
    · rw [hb]; rfl
  · refine ⟨rfl, by rw [hL]; exact wk_start, rfl, fun i x _ h => by simp at h, fun _ _ _ => rfl⟩
  · rintro j ⟨T, v3, v4, v5⟩ hj ⟨h3, hw, h4, h89, f⟩
    dsimp only at h3 hw h4 h89 f ⊢
    subst h3
    have mn := mn_picks (S := T) (key := nI key) (d := fun x => id x ^^^ nI key) (by rw [f _ _ (by omega)]; exact M.1.1) hn (fun k hk => by rw [f _ _ (by omega), (M.1.2.1 k hk).1]) hy (fun k hk => by rw [f _ _ (by omega)]; exact M.2.1 y k hy hk) v5
    unfold f_X11_picks_L8 f_X11_picks_J159
    rw [if_neg (show ¬ (3 : Int32) ≤ nI j from nI_ge (b := 3) hj (by omega)), mn, pu_sb]
    cases h9 : pu_min (fun k => s.2.2.2.1 y k && decide (v5 < id k ^^^ nI key)) (fun x => id x ^^^ nI key) np with
    | none =>
      obtain ⟨z, -⟩ := wk_none hw hj h9
      right
      have hl : L.length ≤ j := by
        have := z j (Nat.le_refl _)
        exact List.getElem?_eq_none_iff.mp this
      rw [List.take_of_length_le hl] at h4 h89
      refine ⟨_, if_pos rfl, T, Or.inr ?_, h89, f⟩
      rw [h4]
    | some a =>
      obtain ⟨z, hw'⟩ := wk_some hw hj h9
      obtain ⟨ha, -, -⟩ := pu_min_some h9
      left
      rw [show pu_enc (some a) = nI a from rfl, if_neg (pu_ne1 (by omega)), if_pos (pu_ib (by omega) (by omega))]
      rw [pu_lts, if_pos (pu_ib (by omega) (by omega)), nI_clamp (by omega), f 81 a (by omega), f 87 a (by omega), (M.1.2.1 a ha).1, M.2.2.1 a ha, nI_1]
      have ext : (L.take (j + 1)).filter (fun x => !s.2.1 x) = (L.take j).filter (fun x => !s.2.1 x) ++ [a].filter (fun x => !s.2.1 x) := by
        rw [List.take_succ, List.filter_append, z]; rfl
      rw [ext]
      cases hq : s.2.1 a with
      | true =>
        rw [if_neg (by simp)]
        have e0 : [a].filter (fun x => !s.2.1 x) = [] := by simp [hq]
        rw [e0, List.append_nil]
        exact ⟨_, rfl, rfl, hw', h4, h89, f⟩
      | false =>
        rw [if_pos (by simp)]
        have e0 : [a].filter (fun x => !s.2.1 x) = [a] := by simp [hq]
        rw [e0]
        generalize hF : (L.take j).filter (fun x => !s.2.1 x) = F at h4 h89
        by_cases c : 2 ≤ F.length
        · have l2 : (F.take 2).length = 2 := by simp; omega
          rw [h4, l2, if_pos (by decide)]
          refine ⟨_, rfl, rfl, hw', ?_, fun i x hi h => h89 i x hi ?_, f⟩
          · have l3 : ((F ++ [a]).take 2).length = 2 := by rw [List.length_take, List.length_append, Nat.min_eq_left (by omega)]
            rw [l3]
          · rw [List.getElem?_append_left (by omega)] at h; exact h
        · have l2 : (F.take 2).length = F.length := by simp; omega
          rw [h4, l2, if_neg (show ¬ (2 : Int32) ≤ nI F.length from nI_ge (b := 2) (by omega) (by omega)), if_pos (pu_ib (by omega) (by omega)), nI_clamp (by omega), nI_1]
          refine ⟨_, rfl, rfl, hw', ?_, fun i x hi h => ?_, fun x b hx => by rw [← f x b hx]; exact pu_up_k hx⟩
          · simp; rw [Nat.min_eq_right (by omega)]
          · dsimp only
            by_cases ei : i = F.length
            · subst ei
              rw [List.getElem?_append_right (Nat.le_refl _)] at h
              simp at h
              rw [pu_up_same, h]
            · rw [pu_up_i ei]
              apply h89 i x hi
              by_cases c3 : i < F.length
              · rw [List.getElem?_append_left c3] at h; exact h
              · rw [List.getElem?_append_right (by omega), List.getElem?_eq_none (by simp; omega)] at h; cases h
  · rintro ⟨T, v3, v4, v5⟩ ⟨h3, hw, h4, h89, f⟩
    dsimp only at h3 hw h4 h89 f ⊢
    subst h3
    rw [List.take_of_length_le hlen] at h4 h89
    refine ⟨.inl (T, v4), ?_, T, Or.inl (by rw [h4]), h89, f⟩
    unfold f_X11_picks_L8
    rw [if_pos (show (3 : Int32) ≤ nI 3 by decide)]
theorem lm_asks (M : lk_M np id so on s S) (w : pu_AW np id on s.1) (hm : me < np) {y o : Nat} (hy : y < 2) (ho : o < np) (hom : o ≠ me) : ∃ S', f_X11_asks S (nI me) (nI o) (nI y) (nI key) = some S' ∧ lk_M np id so on (lk_ask np id so on key me y o s) S' ∧ lk_G S S' := by
  have hn := w.1
  obtain ⟨m1, m2, m3, m4, m5⟩ := M
  unfold f_X11_asks
  rw [if_pos (pu_ib (by omega) (by omega)), if_pos (pu_ib (by omega) (by omega)), nI_clamp (by omega), pu_nb1]
  obtain ⟨S1, hS1⟩ : ∃ S1, S1 = ps_up (ps_up S 87 o 1) 80 14 (ps_up S 87 o 1 80 14 + 1) := ⟨_, rfl⟩
  rw [← hS1]
  have u : ∀ a b, a ≠ 87 → ¬ (a = 80 ∧ b = 14) → S1 a b = S a b := fun a b h1 h2 => by rw [hS1]; unfold ps_up; rw [if_neg h2, if_neg (by omega)]
  have d1 : pu_MP np id so on s.1 S1 := mp_congr m1 (u _ _ (by omega) (by omega)) (fun a c h1 h2 => u a c (by omega) (by omega))
  have d3 : ∀ x, x < np → S1 87 x = if (s.2.1 x || decide (x = o)) = true then 1 else 0 := by
    intro x hx
    rw [hS1, pu_up_k (by decide)]
    by_cases e : x = o
    · subst e; rw [pu_up_same]; simp
    · rw [pu_up_i e, m3 x hx]; simp [e]
  have d5 : S1 80 14 = nI (s.2.2.2.2 + 1) := by rw [hS1, pu_up_same, pu_up_k (by decide), m5, nI_1]
  have dG : lk_G S S1 := fun a b h1 h2 => u a b (by omega) (by omega)
  rw [(d1.2.1 o ho).2.2.1, (d1.2.1 o ho).2.1]
  unfold lk_ask
  have out : (on o = 0 ∨ so o = 1) → ∃ S', some S1 = some S' ∧ lk_M np id so on (if on o = 0 ∨ so o = 1 then (s.1, fun x => s.2.1 x || decide (x = o), s.2.2.1, s.2.2.2.1, s.2.2.2.2 + 1) else (lk_k2 id on me s o, fun x => s.2.1 x || decide (x = o), fun x => s.2.2.1 x || decide (x = o), fun v x => s.2.2.2.1 v x || (decide (v = y) && ((List.range 3).any (fun i => decide ((lk_told np id so on key me s o)[i]? = some x)) && decide (x ≠ me))), s.2.2.2.2 + 1)) S' ∧ lk_G S S' := by
    intro c
    rw [if_pos c]
    exact ⟨S1, rfl, ⟨d1, fun y x hy hx => by rw [u _ _ (by omega) (by omega)]; exact m2 y x hy hx, d3, fun x hx => by rw [u _ _ (by omega) (by omega)]; exact m4 x hx, d5⟩, dG⟩
  by_cases c1 : on o = 0
  · rw [if_pos c1]
    exact out (Or.inl c1)
  · rw [if_neg c1, if_pos (pu_ib (by omega) (by omega))]
    by_cases c2 : so o = 1
    · rw [if_pos c2]
      exact out (Or.inr c2)
    · rw [if_neg c2, if_neg (fun e => e.elim c1 c2)]
      obtain ⟨S2, e2, a1, f2⟩ := mp_hears d1 w ho hm hom
      obtain ⟨S3, e3, b1, f3⟩ := mp_hears a1 (aw_hear w ho hm hom) hm ho (fun e => hom e.symm)
      rw [e2, pu_sb, e3, pu_sb, if_pos (pu_ib (by omega) (by omega))]
      have w2 := k2_aw w hm ho hom
      have b1 : pu_MP np id so on (lk_k2 id on me s o) S3 := b1
      obtain ⟨S4, hS4⟩ : ∃ S4, S4 = ps_up S3 88 o 1 := ⟨_, rfl⟩
      rw [← hS4]
      have u4 : ∀ a b, a ≠ 88 → S4 a b = S3 a b := fun a b h => by rw [hS4]; exact pu_up_k h
      have g1 : pu_MP np id so on (lk_k2 id on me s o) S4 := mp_congr b1 (u4 _ _ (by omega)) (fun a c h1 h2 => u4 a c (by omega))
      have u14 : ∀ a b, a ≠ 88 → a ≠ 84 → a ≠ 85 → S4 a b = S1 a b := fun a b h1 h2 h3 => by rw [u4 a b h1, f3 a b h2 h3, f2 a b h2 h3]
      have loop := pu_indx0 (step := fun (a : ps_S × Int32 × Int32) => f_X11_asks_L62 (nI me) (nI o) (nI y) (nI key) a.1 a.2.1 a.2.2) (a := (S4, (-1), 0))
        (fun j a => a.2.2 = nI j ∧ wk_at (fun k => pu_keeps (lk_k2 id on me s o) o k && (decide (so o ≠ 2) || decide (so k = 2))) (fun x => id x ^^^ nI key) np 3 (lk_told np id so on key me s o) j a.2.1 ∧ (∀ v x, v < 2 → x < np → a.1 86 (16 * v + x) = if (s.2.2.2.1 v x || (decide (v = y) && ((List.range j).any (fun i => decide ((lk_told np id so on key me s o)[i]? = some x)) && decide (x ≠ me)))) = true then 1 else 0) ∧ ∀ x b, x ≠ 86 → a.1 x b = S4 x b)
        (fun b => ∃ T, (b = .inl T ∨ b = .inr T) ∧ (∀ v x, v < 2 → x < np → T 86 (16 * v + x) = if (s.2.2.2.1 v x || (decide (v = y) && ((List.range 3).any (fun i => decide ((lk_told np id so on key me s o)[i]? = some x)) && decide (x ≠ me)))) = true then 1 else 0) ∧ ∀ x b, x ≠ 86 → T x b = S4 x b) 3 (by omega) ?_ ?_ ?_
      · obtain ⟨b, e, T, hb, h1, h2⟩ := loop
        have ht : ps_bs (ps_it (fun (a : ps_S × Int32 × Int32) => f_X11_asks_L62 (nI me) (nI o) (nI y) (nI key) a.1 a.2.1 a.2.2) ps_fu (S4, (-1), 0)) (fun q => (fun S62 => some S62) q) (fun q => some q) = some T := by
          unfold ps_bs
          rw [e, pu_sb]
          rcases hb with hb | hb
          · rw [hb]; rfl
          · rw [hb]; rfl
        refine ⟨T, ht, ⟨mp_congr g1 (h2 _ _ (by omega)) (fun a c q1 q2 => h2 a c (by omega)), h1, fun x hx => ?_, fun x hx => ?_, ?_⟩, fun a b q1 q2 => ?_⟩
        · rw [h2 _ _ (by omega), u14 _ _ (by omega) (by omega) (by omega)]; exact d3 x hx
        · rw [h2 _ _ (by omega), hS4]
          dsimp only
          by_cases e : x = o
          · subst e; rw [pu_up_same]; simp
          · rw [pu_up_i e, f3 _ _ (by omega) (by omega), f2 _ _ (by omega) (by omega), u _ _ (by omega) (by omega), m4 x hx]; simp [e]
        · rw [h2 _ _ (by omega), u14 _ _ (by omega) (by omega) (by omega)]; exact d5
        · rw [h2 _ _ (by omega), u14 _ _ (by omega) (by omega) (by omega)]; exact dG a b q1 q2
      · refine ⟨rfl, wk_start, fun v x hv hx => ?_, fun _ _ _ => rfl⟩
        dsimp only
        rw [u14 _ _ (by omega) (by omega) (by omega), u _ _ (by omega) (by omega), m2 v x hv hx]
        simp
      · rintro j ⟨T, v5, v6⟩ hj ⟨h6, hw, h86, f⟩
        dsimp only at h6 hw h86 f ⊢
        subst h6
        have gT : pu_MP np id so on (lk_k2 id on me s o) T := mp_congr g1 (f _ _ (by omega)) (fun a c q1 q2 => by
          by_cases e : a = 86
          · omega
          · exact f a c e)
        unfold f_X11_asks_L62 f_X11_asks_J237
        rw [if_neg (show ¬ (3 : Int32) ≤ nI j from nI_ge (b := 3) hj (by omega)), mn_asks gT w2 ho (nI key) v5, pu_sb]
        cases h9 : pu_min (fun k => (pu_keeps (lk_k2 id on me s o) o k && (decide (so o ≠ 2) || decide (so k = 2))) && decide (v5 < id k ^^^ nI key)) (fun k => id k ^^^ nI key) np with
        | none =>
          obtain ⟨z, -⟩ := wk_none hw hj h9
          right
          refine ⟨_, if_pos rfl, T, Or.inr rfl, fun v x hv hx => ?_, f⟩
          rw [h86 v x hv hx]
          have := any_ext (x := x) (j := j) (k := 3) (by omega) (fun _ => true) z
          simp only [Bool.and_true] at this
          rw [this]
        | some a =>
          obtain ⟨z, hw'⟩ := wk_some hw hj h9
          obtain ⟨ha, -, -⟩ := pu_min_some h9
          left
          have ext : ∀ x, ((List.range (j + 1)).any (fun i => decide ((lk_told np id so on key me s o)[i]? = some x)) && decide (x ≠ me)) = (((List.range j).any (fun i => decide ((lk_told np id so on key me s o)[i]? = some x)) && decide (x ≠ me)) || (decide (a = x) && decide (x ≠ me))) := fun x => by
            rw [List.range_succ, List.any_append, Bool.and_or_distrib_right]
            simp only [List.any_cons, List.any_nil, Bool.or_false]
            rw [z]
            simp only [Option.some.injEq]
          rw [show pu_enc (some a) = nI a from rfl, if_neg (pu_ne1 (by omega)), if_pos (pu_ib (by omega) (by omega))]
          rw [pu_lts, pu_16, nI_add, if_pos (pu_ib (by omega) (by omega)), nI_clamp (n := a) (by omega), nI_clamp (n := 16 * y + a) (by omega), (gT.2.1 a ha).1, nI_1, h86 y a hy ha]
          have put : ∀ z2 : Int32, z2 = (if (s.2.2.2.1 y a || (decide (y = y) && ((List.range (j + 1)).any (fun i => decide ((lk_told np id so on key me s o)[i]? = some a)) && decide (a ≠ me)))) = true then 1 else 0) → ∀ v x, v < 2 → x < np → ps_up T 86 (16 * y + a) z2 86 (16 * v + x) = if (s.2.2.2.1 v x || (decide (v = y) && ((List.range (j + 1)).any (fun i => decide ((lk_told np id so on key me s o)[i]? = some x)) && decide (x ≠ me)))) = true then 1 else 0 := by
            intro z2 hz v x hv hx
            by_cases e : v = y ∧ x = a
            · obtain ⟨e1, e2⟩ := e
              subst e1; subst e2
              rw [pu_up_same, hz]
            · rw [pu_up_i (by omega), h86 v x hv hx, ext]
              by_cases e1 : v = y
              · have e2 : ¬ a = x := fun q => e ⟨e1, q.symm⟩
                simp [e2]
              · simp [e1]
          have hz : ∀ z2 : Int32, z2 = (if (s.2.2.2.1 y a || (decide (y = y) && ((List.range (j + 1)).any (fun i => decide ((lk_told np id so on key me s o)[i]? = some a)) && decide (a ≠ me)))) = true then 1 else 0) → ∃ a', some (Sum.inl (β := ps_S ⊕ ps_S) (ps_up T 86 (16 * y + a) z2, id a ^^^ nI key, nI (j + 1))) = some (Sum.inl a') ∧ a'.2.2 = nI (j + 1) ∧ wk_at (fun k => pu_keeps (lk_k2 id on me s o) o k && (decide (so o ≠ 2) || decide (so k = 2))) (fun x => id x ^^^ nI key) np 3 (lk_told np id so on key me s o) (j + 1) a'.2.1 ∧ (∀ v x, v < 2 → x < np → a'.1 86 (16 * v + x) = if (s.2.2.2.1 v x || (decide (v = y) && ((List.range (j + 1)).any (fun i => decide ((lk_told np id so on key me s o)[i]? = some x)) && decide (x ≠ me)))) = true then 1 else 0) ∧ ∀ x b, x ≠ 86 → a'.1 x b = S4 x b := fun z2 hz2 => ⟨_, rfl, rfl, hw', put z2 hz2, fun x b hx => by rw [← f x b hx]; exact pu_up_k hx⟩
          rw [pu_nb1, pu_nb0]
          cases hq : (s.2.2.2.1 y a || (decide (y = y) && ((List.range j).any (fun i => decide ((lk_told np id so on key me s o)[i]? = some a)) && decide (a ≠ me)))) with
          | true =>
            rw [if_neg (by simp)]
            rw [if_pos (pu_ib (by omega) (by omega))]
            exact hz 1 (by rw [ext, Bool.and_or_distrib_left, ← Bool.or_assoc, hq]; simp)
          | false =>
            rw [if_pos (by simp)]
            by_cases ce : a = me
            · rw [if_pos (by rw [ce])]
              rw [if_pos (pu_ib (by omega) (by omega))]
              exact hz 0 (by rw [ext, Bool.and_or_distrib_left, ← Bool.or_assoc, hq]; simp [ce])
            · rw [if_neg (fun e => ce (pu_inj (by omega) (by omega) e))]
              rw [if_pos (pu_ib (by omega) (by omega))]
              exact hz 1 (by rw [ext, Bool.and_or_distrib_left, ← Bool.or_assoc, hq]; simp [ce])
      · rintro ⟨T, v5, v6⟩ ⟨h6, hw, h86, f⟩
        dsimp only at h6 hw h86 f ⊢
        subst h6
        refine ⟨.inl T, ?_, T, Or.inl rfl, h86, f⟩
        unfold f_X11_asks_L62
        rw [if_pos (show (3 : Int32) ≤ nI 3 by decide)]
end
