/-! the reference's lookup, whole -/
section
variable {np : Nat} {id so on : Nat → Int32} {key me : Nat} {s : pu_L} {S : ps_S}
theorem lm_closest (h : S 80 2 = nI np) (hn : np ≤ 16) (hd : ∀ k, k < np → S 81 k = id k) {an : Nat → Bool} (ha : ∀ k, k < np → S 88 k = if an k = true then 1 else 0) : ∃ S', f_X11_closestOf S (nI key) = some S' ∧ S' 80 13 = nI (pu_sel an (fun x => id x ^^^ nI key) np (-1) 3).length ∧ (∀ i a, (pu_sel an (fun x => id x ^^^ nI key) np (-1) 3)[i]? = some a → S' 90 i = nI a) ∧ ∀ a b, a ≠ 90 → ¬ (a = 80 ∧ b = 13) → S' a b = S a b := by
  obtain ⟨R, hR⟩ : ∃ R, R = pu_sel an (fun x => id x ^^^ nI key) np (-1) 3 := ⟨_, rfl⟩
  rw [← hR]
  have hlen : R.length ≤ 3 := by rw [hR]; exact sel_len
  have loop := pu_ind0 (step := fun (a : ps_S × Int32 × Int32) => f_X11_closestOf_L9 (nI key) a.1 a.2.1 a.2.2) (a := (ps_up S 80 13 0, (-1), 0))
    (fun j a => a.2.2 = nI j ∧ wk_at an (fun x => id x ^^^ nI key) np 3 R j a.2.1 ∧ a.1 80 13 = nI (R.take j).length ∧ (∀ i x, (R.take j)[i]? = some x → a.1 90 i = nI x) ∧ ∀ a9 b, a9 ≠ 90 → ¬ (a9 = 80 ∧ b = 13) → a.1 a9 b = S a9 b)
    (fun T => T 80 13 = nI R.length ∧ (∀ i x, R[i]? = some x → T 90 i = nI x) ∧ ∀ a9 b, a9 ≠ 90 → ¬ (a9 = 80 ∧ b = 13) → T a9 b = S a9 b) 3 (by omega) ?_ ?_ ?_
  · obtain ⟨T, e, h1⟩ := loop
    refine ⟨T, ?_, h1⟩
    unfold f_X11_closestOf
    rw [e]
    rfl
  · refine ⟨rfl, by rw [hR]; exact wk_start, by simp [pu_up_same, nI_0], fun i x h => by simp at h, fun a9 b h1 h2 => (if_neg h2 : (if a9 = 80 ∧ b = 13 then (0 : Int32) else S a9 b) = S a9 b)⟩
  · rintro j ⟨T, v2, v3⟩ hj ⟨h3, hw, h13, h90, f⟩
    dsimp only at h3 hw h13 h90 f ⊢
    subst h3
    have mn := mn_closest (S := T) (np := np) (key := nI key) (d := fun x => id x ^^^ nI key) (w := an) (by rw [f _ _ (by omega) (by omega)]; exact h) hn (fun k hk => by rw [f _ _ (by omega) (by omega), hd k hk]) (fun k hk => by rw [f _ _ (by omega) (by omega)]; exact ha k hk) v2
    unfold f_X11_closestOf_L9 f_X11_closestOf_J140
    rw [if_neg (show ¬ (3 : Int32) ≤ nI j from nI_ge (b := 3) hj (by omega)), mn, pu_sb, nI_1]
    cases h9 : pu_min (fun k => an k && decide (v2 < id k ^^^ nI key)) (fun x => id x ^^^ nI key) np with
    | none =>
      obtain ⟨z, hw'⟩ := wk_none hw hj h9
      have hl : R.length ≤ j := List.getElem?_eq_none_iff.mp (z j (Nat.le_refl _))
      rw [List.take_of_length_le hl] at h13 h90
      refine ⟨_, if_pos rfl, rfl, hw', ?_, ?_, f⟩
      · rw [List.take_of_length_le (by omega)]; exact h13
      · rw [List.take_of_length_le (by omega)]; exact h90
    | some a =>
      obtain ⟨z, hw'⟩ := wk_some hw hj h9
      obtain ⟨hap, -, -⟩ := pu_min_some h9
      have hl : j < R.length := (List.getElem?_eq_some_iff.mp z).1
      have e13 : (R.take j).length = j := by rw [List.length_take]; omega
      rw [e13] at h13
      rw [show pu_enc (some a) = nI a from rfl, if_neg (pu_ne1 (by omega)), h13, if_pos (pu_ib (by omega) (by omega)), if_pos (pu_ib (by omega) (by omega)), pu_lts, nI_clamp (by omega), nI_clamp (by omega)]
      have ea : ps_up (ps_up T 90 j (nI a)) 80 13 (ps_up T 90 j (nI a) 80 13 + 1) 81 a = id a := by
        rw [pu_up_k (by decide), pu_up_k (by decide), f _ _ (by omega) (by omega), hd a hap]
      rw [ea]
      refine ⟨_, rfl, rfl, hw', ?_, fun i x hi => ?_, fun a9 b h1 h2 => ?_⟩
      · dsimp only
        rw [pu_up_same, pu_up_k (by decide), h13, nI_1, List.length_take, Nat.min_eq_left (by omega)]
      · dsimp only
        rw [pu_up_k (by decide)]
        have hi2 : i < j + 1 := by
          have := (List.getElem?_eq_some_iff.mp hi).1
          rw [List.length_take] at this
          omega
        rw [List.getElem?_take_of_lt hi2] at hi
        by_cases ei : i = j
        · subst ei
          rw [pu_up_same]
          rw [z] at hi
          cases hi
          rfl
        · rw [pu_up_i ei]
          exact h90 i x (by rw [List.getElem?_take_of_lt (by omega)]; exact hi)
      · dsimp only
        rw [← f a9 b h1 h2]
        unfold ps_up
        rw [if_neg h2, if_neg (by omega)]
  · rintro ⟨T, v2, v3⟩ ⟨h3, hw, h13, h90, f⟩
    dsimp only at h3 hw h13 h90 f ⊢
    subst h3
    rw [List.take_of_length_le hlen] at h13 h90
    refine ⟨T, ?_, h13, h90, f⟩
    unfold f_X11_closestOf_L9
    rw [if_pos (show (3 : Int32) ≤ nI 3 by decide)]
/-- one way of a round -/
theorem lm_way (M : lk_M np id so on s S) (hI : lk_I np id on me s) (hm : me < np) {y ways : Nat} (hy : y < 2) (hyw : y < ways) (hw2 : ways ≤ 2) {g : Bool} : ∃ S', f_X11_looksUp_L223 (nI me) (nI key) (nI ways) S (if g = true then 1 else 0) (nI y) = some (.inl (S', if (g || decide ((lk_open np id key y s) ≠ [])) = true then 1 else 0, nI (y + 1))) ∧ lk_M np id so on (lk_along np id so on key me y s) S' ∧ lk_G S S' := by
  have w := hI.1
  have hn := w.1
  obtain ⟨S1, e1, p1, f1⟩ := lm_picks (key := key) M w hy
  have g1 : lk_G S S1 := fun a b h1 h2 => f1 a b (by omega)
  have M1 : lk_M np id so on s S1 := ⟨mp_congr M.1 (f1 _ _ (by omega)) (fun a c h1 h2 => f1 a c (by omega)), fun v x hv hx => by rw [f1 _ _ (by omega)]; exact M.2.1 v x hv hx, fun x hx => by rw [f1 _ _ (by omega)]; exact M.2.2.1 x hx, fun x hx => by rw [f1 _ _ (by omega)]; exact M.2.2.2.1 x hx, by rw [f1 _ _ (by omega)]; exact M.2.2.2.2⟩
  unfold f_X11_looksUp_L223
  rw [if_neg (show ¬ nI ways ≤ nI y from nI_ge hyw (by omega)), pu_b2 e1]
  unfold f_X11_looksUp_J269 f_X11_looksUp_J285 f_X11_looksUp_J300
  rw [nI_1, show (0 : Int32).toNatClampNeg = 0 from rfl, show (1 : Int32).toNatClampNeg = 1 from rfl]
  unfold lk_along
  cases h9 : lk_open np id key y s with
  | nil =>
    rw [show nI (([] : List Nat).take 2).length = nI 0 from rfl, if_pos (show nI 0 ≤ 0 by decide), if_pos (show nI 0 ≤ 1 by decide), if_pos (show nI 0 ≤ 0 by decide)]
    refine ⟨S1, ?_, M1, g1⟩
    cases g
    · rfl
    · rfl
  | cons a t =>
    rw [h9] at p1
    obtain ⟨a1, a2, a3⟩ := open_mem (x := a) (by rw [h9]; simp)
    have ha := hI.2.1 y a a1 a2
    obtain ⟨i1, i2, i3⟩ := ask_I (so := so) (key := key) (y := y) hI hm a1 ha a3
    obtain ⟨S2, e2, M2, g2⟩ := lm_asks (key := key) M1 w hm hy a1 ha
    have pa : S1 89 0 = nI a := p1 0 a (by omega) rfl
    have hg : ∀ r : Int32, ¬ r ≤ 0 → (if (if g = true then (1 : Int32) else 0) = 0 then if r ≤ 0 then some (Sum.inl (β := ps_S × Int32) (S2, (0 : Int32), nI (y + 1))) else some (.inl (S2, 1, nI (y + 1))) else some (.inl (S2, 1, nI (y + 1)))) = some (.inl (S2, 1, nI (y + 1))) := by
      intro r hr
      cases g
      · rw [if_pos (by rfl), if_neg hr]
      · rw [if_neg (by decide)]
    have hone : (if (g || decide ((a :: t) ≠ [])) = true then (1 : Int32) else 0) = 1 := by simp
    rw [hone, pa]
    cases t with
    | nil =>
      rw [show nI (([a] : List Nat).take 2).length = nI 1 from rfl, if_neg (show ¬ nI 1 ≤ 0 by decide), e2, pu_sb, if_pos (show nI 1 ≤ 1 by decide)]
      refine ⟨S2, ?_, M2, lk_Gt g1 g2⟩
      cases g
      · rw [if_pos (by rfl), if_neg (by decide)]
      · rw [if_neg (by decide)]
    | cons b t =>
      obtain ⟨b1, b2, b3⟩ := open_mem (x := b) (by rw [h9]; simp)
      have hb := hI.2.1 y b b1 b2
      obtain ⟨S3, e3, M3, g3⟩ := lm_asks (key := key) M2 i1.1 hm hy b1 hb
      have pb : S1 89 1 = nI b := p1 1 b (by omega) rfl
      rw [show nI ((a :: b :: t).take 2).length = nI 2 from rfl, if_neg (show ¬ nI 2 ≤ 0 by decide), e2, pu_sb, if_neg (show ¬ nI 2 ≤ 1 by decide), pb, e3, pu_sb]
      refine ⟨S3, ?_, M3, lk_Gt (lk_Gt g1 g2) g3⟩
      cases g
      · rw [if_pos (by rfl), if_neg (by decide)]
      · rw [if_neg (by decide)]
theorem along_w1 {y : Nat} (h1 : ∀ x, x < np → s.2.2.2.1 1 x = false) (hy : y ≠ 1) : ∀ x, x < np → (lk_along np id so on key me y s).2.2.2.1 1 x = false := by
  have ask1 : ∀ (s : pu_L) (o : Nat), (∀ x, x < np → s.2.2.2.1 1 x = false) → ∀ x, x < np → (lk_ask np id so on key me y o s).2.2.2.1 1 x = false := by
    intro s o h x hx
    unfold lk_ask
    split
    · exact h x hx
    · have : ¬ 1 = y := fun e => hy e.symm
      simp [h x hx, this]
  unfold lk_along
  split
  · exact h1
  · exact ask1 _ _ h1
  · exact ask1 _ _ (ask1 _ _ h1)
theorem open_w1 (h1 : ∀ x, x < np → s.2.2.2.1 1 x = false) : lk_open np id key 1 s = [] := by
  cases h : lk_open np id key 1 s with
  | nil => rfl
  | cons a t =>
    obtain ⟨a1, a2, -⟩ := open_mem (x := a) (by rw [h]; simp)
    rw [h1 a a1] at a2
    cases a2
theorem along_nil {y : Nat} (h : lk_open np id key y s = []) : lk_along np id so on key me y s = s := by
  unfold lk_along
  rw [h]
theorem lm_round (M : lk_M np id so on s S) (hI : lk_I np id on me s) (hm : me < np) {ways : Nat} (hw : (ways = 1 ∧ ∀ x, x < np → s.2.2.2.1 1 x = false) ∨ ways = 2) : ∃ S', ps_it (fun (a : ps_S × Int32 × Int32) => f_X11_looksUp_L223 (nI me) (nI key) (nI ways) a.1 a.2.1 a.2.2) ps_fu (S, 0, 0) = some (S', if (lk_round np id so on key me s).2.2.2.2 = s.2.2.2.2 then 0 else 1) ∧ lk_M np id so on (lk_round np id so on key me s) S' ∧ lk_G S S' := by
  obtain ⟨I1, n1⟩ := along_I (so := so) (key := key) hI 0 hm
  obtain ⟨I2, n2⟩ := along_I (so := so) (key := key) I1 1 hm
  have hcn : (lk_round np id so on key me s).2.2.2.2 = s.2.2.2.2 ↔ (lk_open np id key 0 s = [] ∧ lk_open np id key 1 (lk_along np id so on key me 0 s) = []) := by
    unfold lk_round
    rw [n2, n1]
    constructor
    · intro e
      refine ⟨?_, ?_⟩
      · cases h : lk_open np id key 0 s with
        | nil => rfl
        | cons a t => rw [h] at e; simp at e; omega
      · cases h : lk_open np id key 1 (lk_along np id so on key me 0 s) with
        | nil => rfl
        | cons a t => rw [h] at e; simp at e; omega
    · rintro ⟨e1, e2⟩
      rw [e1, e2]
      simp
  rcases hw with ⟨rfl, h1⟩ | rfl
  · obtain ⟨S1, e1, M1, g1⟩ := lm_way (key := key) M hI hm (y := 0) (ways := 1) (by omega) (by omega) (by omega) (g := false)
    have ho := open_w1 (id := id) (key := key) (along_w1 (id := id) (so := so) (on := on) (key := key) (me := me) (y := 0) h1 (by omega))
    have hr : lk_round np id so on key me s = lk_along np id so on key me 0 s := by
      exact along_nil ho
    refine ⟨S1, ?_, by rw [hr]; exact M1, g1⟩
    have := pu_it0 (step := fun (a : ps_S × Int32 × Int32) => f_X11_looksUp_L223 (nI me) (nI key) (nI 1) a.1 a.2.1 a.2.2) (b := (S1, if (lk_round np id so on key me s).2.2.2.2 = s.2.2.2.2 then 0 else 1)) (fun t => match t with
      | 0 => (S, 0, 0)
      | _ => (S1, if (lk_round np id so on key me s).2.2.2.2 = s.2.2.2.2 then 0 else 1, 1)) 1 ?_ ?_ (by omega)
    · exact this
    · intro j hj
      obtain rfl : j = 0 := by omega
      show f_X11_looksUp_L223 (nI me) (nI key) (nI 1) S 0 (nI 0) = _
      have e1 : f_X11_looksUp_L223 (nI me) (nI key) (nI 1) S 0 (nI 0) = _ := e1
      rw [e1]
      have e9 : (if (false || decide (lk_open np id key 0 s ≠ [])) = true then (1 : Int32) else 0) = if (lk_round np id so on key me s).2.2.2.2 = s.2.2.2.2 then 0 else 1 := by
        by_cases c : lk_open np id key 0 s = []
        · rw [if_pos (hcn.mpr ⟨c, ho⟩)]; simp [c]
        · rw [if_neg (fun e => c (hcn.mp e).1)]; simp [c]
      rw [e9]
      rfl
    · show f_X11_looksUp_L223 (nI me) (nI key) (nI 1) S1 _ 1 = _
      unfold f_X11_looksUp_L223
      rw [if_pos (by decide)]
      rfl
  · obtain ⟨S1, e1, M1, g1⟩ := lm_way (key := key) M hI hm (y := 0) (ways := 2) (by omega) (by omega) (by omega) (g := false)
    obtain ⟨S2, e2, M2, g2⟩ := lm_way (key := key) M1 I1 hm (y := 1) (ways := 2) (by omega) (by omega) (by omega) (g := (false || decide (lk_open np id key 0 s ≠ [])))
    refine ⟨S2, ?_, M2, lk_Gt g1 g2⟩
    have e9 : (if ((false || decide (lk_open np id key 0 s ≠ [])) || decide (lk_open np id key 1 (lk_along np id so on key me 0 s) ≠ [])) = true then (1 : Int32) else 0) = if (lk_round np id so on key me s).2.2.2.2 = s.2.2.2.2 then 0 else 1 := by
      by_cases c : lk_open np id key 0 s = []
      · by_cases c2 : lk_open np id key 1 (lk_along np id so on key me 0 s) = []
        · rw [if_pos (hcn.mpr ⟨c, c2⟩)]; simp [c, c2]
        · rw [if_neg (fun e => c2 (hcn.mp e).2)]; simp [c2]
      · rw [if_neg (fun e => c (hcn.mp e).1)]; simp [c]
    rw [e9] at e2
    have := pu_it0 (step := fun (a : ps_S × Int32 × Int32) => f_X11_looksUp_L223 (nI me) (nI key) (nI 2) a.1 a.2.1 a.2.2) (b := (S2, if (lk_round np id so on key me s).2.2.2.2 = s.2.2.2.2 then 0 else 1)) (fun t => match t with
      | 0 => (S, 0, 0)
      | 1 => (S1, if (false || decide (lk_open np id key 0 s ≠ [])) = true then 1 else 0, 1)
      | _ => (S2, if (lk_round np id so on key me s).2.2.2.2 = s.2.2.2.2 then 0 else 1, 2)) 2 ?_ ?_ (by omega)
    · exact this
    · intro j hj
      rcases (show j = 0 ∨ j = 1 by omega) with rfl | rfl
      · exact e1
      · exact e2
    · show f_X11_looksUp_L223 (nI me) (nI key) (nI 2) S2 _ 2 = _
      unfold f_X11_looksUp_L223
      rw [if_pos (by decide)]
      rfl
theorem round_w1 (h1 : ∀ x, x < np → s.2.2.2.1 1 x = false) : ∀ x, x < np → (lk_round np id so on key me s).2.2.2.1 1 x = false := by
  have h2 := along_w1 (id := id) (so := so) (on := on) (key := key) (me := me) (y := 0) h1 (by omega)
  unfold lk_round
  rw [along_nil (open_w1 h2)]
  exact h2
theorem lm_rounds (hm : me < np) {ways : Nat} : ∀ (f : Nat) (s : pu_L) (S : ps_S), 16 - s.2.2.2.2 < f → ((ways = 1 ∧ ∀ x, x < np → s.2.2.2.1 1 x = false) ∨ ways = 2) → lk_M np id so on s S → lk_I np id on me s → ∀ fuel, f < fuel → ∃ S', ps_it (fun (a : ps_S × Int32) => f_X11_looksUp_L212 (nI me) (nI key) (nI ways) a.1 a.2) fuel (S, 1) = some S' ∧ lk_M np id so on (lk_rounds np id so on key me f s) S' ∧ lk_G S S'
  | 0, s, S, hj, _, _, _, _, _ => absurd hj (by omega)
  | f + 1, s, S, hj, hw, M, hI, fuel, hf => by
    obtain ⟨g, rfl⟩ : ∃ g, fuel = g + 1 := ⟨fuel - 1, by omega⟩
    obtain ⟨S1, e1, M1, g1⟩ := lm_round (key := key) M hI hm hw
    obtain ⟨I1, n1⟩ := round_I (so := so) (key := key) hI hm
    have hst : f_X11_looksUp_L212 (nI me) (nI key) (nI ways) S 1 = some (.inl (S1, if (lk_round np id so on key me s).2.2.2.2 = s.2.2.2.2 then 0 else 1)) := by
      unfold f_X11_looksUp_L212
      rw [if_neg (by decide), pu_b2 e1]
    show ∃ S', (f_X11_looksUp_L212 (nI me) (nI key) (nI ways) S 1).bind _ = some S' ∧ _
    rw [hst, pu_sb]
    unfold lk_rounds
    by_cases e : (lk_round np id so on key me s).2.2.2.2 = s.2.2.2.2
    · rw [if_pos e, if_pos e]
      refine ⟨S1, ?_, M1, g1⟩
      obtain ⟨g2, rfl⟩ : ∃ g2, g = g2 + 1 := ⟨g - 1, by omega⟩
      show (f_X11_looksUp_L212 (nI me) (nI key) (nI ways) S1 0).bind _ = some S1
      unfold f_X11_looksUp_L212
      rw [if_pos rfl]
      rfl
    · rw [if_neg e, if_neg e]
      have b1 := I_16 I1
      have hw' : (ways = 1 ∧ ∀ x, x < np → (lk_round np id so on key me s).2.2.2.1 1 x = false) ∨ ways = 2 := hw.imp (fun h => ⟨h.1, round_w1 h.2⟩) (fun h => h)
      obtain ⟨S2, e2, M2, g2⟩ := lm_rounds hm f _ S1 (by omega) hw' M1 I1 g (by omega)
      exact ⟨S2, e2, M2, lk_Gt g1 g2⟩
end
