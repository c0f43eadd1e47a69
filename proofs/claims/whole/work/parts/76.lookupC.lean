/-! the class's lookup, whole -/
section
variable {np : Nat} {id so on : Nat → Int32} {key me : Nat} {s : pu_L} {S : ps_S}
theorem lc_along (C : lk_C np id so on key s S) (hI : lk_I np id on me s) (hm : me < np) (hk : key < 256) {y : Nat} (hy : y < 2) : ∃ S', f_X7_askAlong S (23 + 3 * y) (nI me) (nI key) = some S' ∧ lk_C np id so on key (lk_along np id so on key me y s) S' ∧ lk_F S S' := by
  have w := hI.1
  have hn := w.1
  have hrow : pu_rs S (23 + 3 * y) (fun x => id x ^^^ nI key) (s.2.2.2.1 y) np := by
    rcases (show y = 0 ∨ y = 1 by omega) with e | e
    · subst e; exact C.2.1
    · subst e; exact C.2.2.1
  obtain ⟨L, hL⟩ : ∃ L, L = pu_sel (s.2.2.2.1 y) (fun x => id x ^^^ nI key) np (-1) 3 := ⟨_, rfl⟩
  have hat : ∀ i, i < 3 → f_X6_at S (23 + 3 * y) (nI i) = some (pu_enc L[i]?) := fun i hi => by rw [hL]; exact rs_at hrow (aw_dp w hk) hi (by omega)
  have hmem : ∀ a, a ∈ L → a < np := fun a ha => by rw [hL] at ha; exact (sel_mem ha).1
  have hlen : L.length ≤ 3 := by rw [hL]; exact sel_len
  have loop := pu_it0 (step := fun (a : Int32 × Int32 × Int32) => f_X7_askAlong_L9 S (23 + 3 * y) a.1 a.2.1 a.2.2) (b := (pu_enc (L.filter (fun x => !s.2.1 x))[0]?, pu_enc (L.filter (fun x => !s.2.1 x))[1]?)) (fun j => (pu_enc ((L.take j).filter (fun x => !s.2.1 x))[0]?, pu_enc ((L.take j).filter (fun x => !s.2.1 x))[1]?, nI j)) 3 ?_ ?_ (by omega)
  · have loop : ps_it (fun (a : Int32 × Int32 × Int32) => f_X7_askAlong_L9 S (23 + 3 * y) a.1 a.2.1 a.2.2) ps_fu (-1, -1, 0) = some (pu_enc (L.filter (fun x => !s.2.1 x))[0]?, pu_enc (L.filter (fun x => !s.2.1 x))[1]?) := loop
    unfold f_X7_askAlong
    rw [pu_b2 loop]
    have hop : L.filter (fun x => !s.2.1 x) = lk_open np id key y s := by rw [hL]; rfl
    rw [hop]
    unfold lk_along
    cases h9 : lk_open np id key y s with
    | nil =>
      show ∃ S', (f_X7_ask S (-1) _ _ _).bind _ = _ ∧ _
      rw [lc_ask0 hn C.1.1, pu_sb]
      show ∃ S', (f_X7_ask S (-1) _ _ _).bind _ = _ ∧ _
      rw [lc_ask0 hn C.1.1, pu_sb]
      exact ⟨S, rfl, C, fun _ _ _ => rfl⟩
    | cons a t =>
      obtain ⟨a1, a2, a3⟩ := open_mem (x := a) (by rw [h9]; simp)
      have ha := hI.2.1 y a a1 a2
      obtain ⟨i1, i2, i3⟩ := ask_I (so := so) (key := key) (y := y) hI hm a1 ha a3
      obtain ⟨S1, e1, C1, f1⟩ := lc_ask C w hm hk hy a1 ha
      show ∃ S', (f_X7_ask S (nI a) _ _ _).bind _ = _ ∧ _
      rw [e1, pu_sb]
      cases t with
      | nil =>
        show ∃ S', (f_X7_ask S1 (-1) _ _ _).bind _ = _ ∧ _
        rw [lc_ask0 hn C1.1.1, pu_sb]
        exact ⟨S1, rfl, C1, f1⟩
      | cons b t =>
        obtain ⟨b1, b2, b3⟩ := open_mem (x := b) (by rw [h9]; simp)
        have hb := hI.2.1 y b b1 b2
        obtain ⟨S2, e2, C2, f2⟩ := lc_ask C1 i1.1 hm hk hy b1 hb
        show ∃ S', (f_X7_ask S1 (nI b) _ _ _).bind _ = _ ∧ _
        rw [e2, pu_sb]
        exact ⟨S2, rfl, C2, lk_Ft f1 f2⟩
  · intro j hj
    show f_X7_askAlong_L9 S (23 + 3 * y) _ _ (nI j) = _
    unfold f_X7_askAlong_L9 f_X7_askAlong_J50 f_X7_askAlong_J70 f_X7_askAlong_J85
    rw [if_neg (show ¬ (3 : Int32) ≤ nI j from nI_ge (b := 3) hj (by omega)), hat j hj, pu_sb, List.take_succ, List.filter_append, nI_1]
    cases h9 : L[j]? with
    | none =>
      show (f_X5_has S (-1)).bind _ = _
      rw [cp_hasno C.1.1 hn (pu_m1no hn), pu_sb, if_pos rfl, if_pos rfl, if_pos rfl]
      simp
    | some a =>
      have ha := hmem a (List.mem_of_getElem? h9)
      show (f_X5_has S (nI a)).bind _ = _
      rw [cp_has C.1.1 hn ha, pu_sb, if_neg (by decide)]
      show (if ps_ib (nI a) 16 = true then if S 35 (nI a).toNatClampNeg = 0 then _ else _ else none) = _
      rw [if_pos (pu_ib (by omega) (by omega)), nI_clamp (by omega), C.2.2.2.2.1 a ha]
      cases hq : s.2.1 a with
      | true =>
        rw [if_neg (by simp), if_pos rfl, if_pos rfl]
        simp [hq]
      | false =>
        rw [if_pos (by simp), if_neg (by decide)]
        have e1 : List.filter (fun x => !s.2.1 x) (some a).toList = [a] := by simp [hq]
        rw [e1]
        dsimp only
        have hb : ∀ b, b ∈ (L.take j).filter (fun x => !s.2.1 x) → b < np := fun b hb => hmem b (List.mem_of_mem_take (List.mem_filter.mp hb).1)
        match hF : (L.take j).filter (fun x => !s.2.1 x), hb with
        | [], _ =>
          show (if (-1 : Int32) = -1 then _ else _) = _
          rw [if_pos rfl]
          rfl
        | [b], hb =>
          have hb := hb b (by simp)
          show (if nI b = -1 then _ else _) = _
          rw [if_neg (pu_ne1 (by omega)), if_neg (by decide)]
          show (if (-1 : Int32) = -1 then _ else _) = _
          rw [if_pos rfl]
          rfl
        | b :: c :: t, hb =>
          have hb1 := hb b (by simp)
          have hb2 := hb c (by simp)
          show (if nI b = -1 then _ else _) = _
          rw [if_neg (pu_ne1 (by omega)), if_neg (by decide)]
          show (if nI c = -1 then _ else _) = _
          rw [if_neg (pu_ne1 (by omega))]
          rfl
  · show f_X7_askAlong_L9 S (23 + 3 * y) _ _ (nI 3) = _
    unfold f_X7_askAlong_L9
    rw [if_pos (show (3 : Int32) ≤ nI 3 by decide), List.take_of_length_le hlen]
theorem lc_rounds (hm : me < np) (hk : key < 256) : ∀ (f j : Nat) (s : pu_L) (S : ps_S), f + j = 17 → lk_C np id so on key s S → lk_I np id on me s → ∀ fuel, f + 1 < fuel → ∃ S', ps_it (fun (a : ps_S × Int32 × Int32) => f_X7_run_L13 (nI me) (nI key) a.1 a.2.1 a.2.2) fuel (S, 0, nI j) = some S' ∧ lk_C np id so on key (lk_rounds np id so on key me f s) S' ∧ lk_F S S' ∧ lk_I np id on me (lk_rounds np id so on key me f s)
  | 0, j, s, S, hj, C, hI, fuel, hf => by
    obtain ⟨g, rfl⟩ : ∃ g, fuel = g + 1 := ⟨fuel - 1, by omega⟩
    refine ⟨S, ?_, C, fun _ _ _ => rfl, hI⟩
    show (f_X7_run_L13 (nI me) (nI key) S 0 (nI j)).bind _ = some S
    have hj : j = 17 := by omega
    subst hj
    unfold f_X7_run_L13
    rw [if_pos (show (16 : Int32) < nI 17 by decide)]
    rfl
  | f + 1, j, s, S, hj, C, hI, fuel, hf => by
    obtain ⟨g, rfl⟩ : ∃ g, fuel = g + 1 := ⟨fuel - 1, by omega⟩
    obtain ⟨S1, e1, C1, f1⟩ := lc_along C hI hm hk (y := 0) (by omega)
    obtain ⟨I1, n1⟩ := along_I (so := so) (key := key) hI 0 hm
    obtain ⟨S2, e2, C2, f2⟩ := lc_along C1 I1 hm hk (y := 1) (by omega)
    obtain ⟨I2, n2⟩ := along_I (so := so) (key := key) I1 1 hm
    have hst : f_X7_run_L13 (nI me) (nI key) S 0 (nI j) = some (.inl (S2, if (lk_round np id so on key me s).2.2.2.2 = s.2.2.2.2 then 1 else 0, nI (j + 1))) := by
      unfold f_X7_run_L13 f_X7_run_J65
      rw [if_neg (show ¬ (16 : Int32) < nI j by rw [pu_i16, nI_ltI (by omega) (by omega)]; omega), if_pos rfl]
      have e1 : f_X7_askAlong S 23 (nI me) (nI key) = some S1 := e1
      have e2 : f_X7_askAlong S1 26 (nI me) (nI key) = some S2 := e2
      rw [e1, pu_sb, e2, pu_sb, nI_1, C2.2.2.2.2.2, C.2.2.2.2.2]
      have b1 := I_16 I2
      have b2 := I_16 hI
      show (if nI (lk_round np id so on key me s).2.2.2.2 = nI s.2.2.2.2 then _ else _) = _
      have b1 : (lk_round np id so on key me s).2.2.2.2 ≤ 16 := b1
      by_cases e : (lk_round np id so on key me s).2.2.2.2 = s.2.2.2.2
      · rw [if_pos (by rw [e]), if_pos e]
      · rw [if_neg (fun q => e (pu_inj (by omega) (by omega) q)), if_neg e]
    show ∃ S', (f_X7_run_L13 (nI me) (nI key) S 0 (nI j)).bind _ = some S' ∧ _
    rw [hst, pu_sb]
    unfold lk_rounds
    by_cases e : (lk_round np id so on key me s).2.2.2.2 = s.2.2.2.2
    · rw [if_pos e, if_pos e]
      refine ⟨S2, ?_, C2, lk_Ft f1 f2, I2⟩
      obtain ⟨g2, rfl⟩ : ∃ g2, g = g2 + 1 := ⟨g - 1, by omega⟩
      show (f_X7_run_L13 (nI me) (nI key) S2 1 (nI (j + 1))).bind _ = some S2
      unfold f_X7_run_L13
      by_cases c : (16 : Int32) < nI (j + 1)
      · rw [if_pos c]; rfl
      · rw [if_neg c, if_neg (by decide)]; rfl
    · rw [if_neg e, if_neg e]
      obtain ⟨S3, e3, C3, f3, I3⟩ := lc_rounds hm hk f (j + 1) _ S2 (by omega) C2 I2 g (by omega)
      exact ⟨S3, e3, C3, lk_Ft (lk_Ft f1 f2) f3, I3⟩
theorem lc_begin {kp : Nat → Nat → List Nat} (C : pu_CP np id so on kp S) (w : pu_AW np id on kp) (hm : me < np) (hk : key < 256) {ways : Nat} (hw : ways = 1 ∨ ways = 2) : ∃ S', f_X7_begin S (nI me) (nI key) (nI ways) = some S' ∧ lk_C np id so on key (lk_begin np id key me kp ways) S' ∧ lk_F S S' := by
  have hn := w.1
  unfold f_X7_begin f_X6_clear
  rw [pu_sb, pu_sb, pu_sb]
  obtain ⟨S1, hS1⟩ : ∃ S1, S1 = ps_up (ps_up (ps_up (ps_up S 23 2 0) 26 2 0) 29 2 0) 22 6 0 := ⟨_, rfl⟩
  rw [← hS1]
  have u1 : ∀ a b, a ≠ 23 → a ≠ 26 → a ≠ 29 → a ≠ 22 → S1 a b = S a b := fun a b h1 h2 h3 h4 => by rw [hS1, pu_up_k h4, pu_up_k h3, pu_up_k h2, pu_up_k h1]
  have z23 : S1 23 2 = 0 := by rw [hS1, pu_up_k (by decide), pu_up_k (by decide), pu_up_k (by decide), pu_up_same]
  have z26 : S1 26 2 = 0 := by rw [hS1, pu_up_k (by decide), pu_up_k (by decide), pu_up_same]
  have z29 : S1 29 2 = 0 := by rw [hS1, pu_up_k (by decide), pu_up_same]
  have z22 : S1 22 6 = 0 := by rw [hS1, pu_up_same]
  have loop1 := pu_ind0 (step := fun (a : ps_S × Int32) => f_X7_begin_L29 a.1 a.2) (a := (S1, 0))
    (fun j a => a.2 = nI j ∧ (∀ x, x < j → a.1 35 x = 0) ∧ ∀ x b, x ≠ 35 → a.1 x b = S1 x b)
    (fun T => (∀ x, x < 16 → T 35 x = 0) ∧ ∀ x b, x ≠ 35 → T x b = S1 x b) 16 (by omega) ⟨rfl, fun x hx => absurd hx (by omega), fun _ _ _ => rfl⟩ ?_ ?_
  · obtain ⟨S2, e2, z35, u2⟩ := loop1
    rw [e2, pu_sb]
    have c2 : pu_CP np id so on kp S2 := cp_congr C hn (fun a c ha => by rw [u2 a c (by omega), u1 a c (by omega) (by omega) (by omega) (by omega)])
    obtain ⟨S3, e3, r3, f3, -⟩ := cp_gather c2 w (nI key) hm 0 (k4 := 32) (by omega)
    rw [e3, pu_sb]
    have r3 : pu_rs S3 32 (fun x => id x ^^^ nI key) (pu_keeps kp me) np := rs_congr r3 (fun k _ => by simp)
    have c3 : pu_CP np id so on kp S3 := cp_congr c2 hn (fun a c ha => f3 a c (by omega) (by omega) (by omega))
    have zr : ∀ k, k = 23 ∨ k = 26 ∨ k = 29 → pu_rs S3 k (fun x => id x ^^^ nI key) (fun _ => false) np := by
      intro k hk
      apply rs_clear
      rw [f3 _ _ (by omega) (by omega) (by omega), u2 _ _ (by omega)]
      rcases hk with e | e | e
      · rw [e]; exact z23
      · rw [e]; exact z26
      · rw [e]; exact z29
    have loop2 := pu_ind0 (step := fun (a : ps_S × Int32) => f_X7_begin_L67 (nI key) (nI ways) a.1 a.2) (a := (S3, 0))
      (fun j a => a.2 = nI j ∧ (∀ y, y < 2 → pu_rs a.1 (23 + 3 * y) (fun x => id x ^^^ nI key) (fun x => (List.range j).any (fun i => decide ((lk_L0 np id key me kp)[i]? = some x) && decide (y = if ways = 2 then i % 2 else 0))) np) ∧ ∀ x b, x < 23 ∨ 29 ≤ x → a.1 x b = S3 x b)
      (fun T => (∀ y, y < 2 → pu_rs T (23 + 3 * y) (fun x => id x ^^^ nI key) (fun x => (List.range 16).any (fun i => decide ((lk_L0 np id key me kp)[i]? = some x) && decide (y = if ways = 2 then i % 2 else 0))) np) ∧ ∀ x b, x < 23 ∨ 29 ≤ x → T x b = S3 x b) 16 (by omega) ?_ ?_ ?_
    · obtain ⟨S4, e4, r4, f4⟩ := loop2
      rw [e4, pu_sb]
      refine ⟨S4, rfl, ⟨cp_congr c3 hn (fun a c ha => f4 a c (by omega)), r4 0 (by omega), r4 1 (by omega), ?_, fun x hx => ?_, ?_⟩, fun a b hab => ?_⟩
      · exact rs_keep (zr 29 (by omega)) (f4 _ _ (by omega)) (fun b => f4 _ b (by omega)) (fun b => f4 _ b (by omega))
      · rw [f4 _ _ (by omega), f3 _ _ (by omega) (by omega) (by omega)]
        exact z35 x (by omega)
      · rw [f4 _ _ (by omega), f3 _ _ (by omega) (by omega) (by omega), u2 _ _ (by omega), z22]
        rfl
      · rw [f4 _ _ (by omega), f3 _ _ (by omega) (by omega) (by omega), u2 _ _ (by omega), u1 _ _ (by omega) (by omega) (by omega) (by omega)]
    · refine ⟨rfl, fun y hy => ?_, fun _ _ _ => rfl⟩
      exact rs_congr (zr (23 + 3 * y) (by omega)) (fun k _ => by simp)
    · rintro j ⟨T, v⟩ hj ⟨hv, hr, f⟩
      dsimp only at hv hr f ⊢
      subst hv
      have cT : pu_CP np id so on kp T := cp_congr c3 hn (fun a c ha => f a c (by omega))
      have rT : pu_rs T 32 (fun x => id x ^^^ nI key) (pu_keeps kp me) np := rs_keep r3 (f _ _ (by omega)) (fun b => f _ b (by omega)) (fun b => f _ b (by omega))
      have hat : f_X6_at T 32 (nI j) = some (pu_enc (lk_L0 np id key me kp)[j]?) := rs_at rT (aw_dp w hk) hj (by omega)
      have hst : f_X7_begin_L67 (nI key) (nI ways) T (nI j) = (f_X7_include T (23 + 3 * (if ways = 2 then j % 2 else 0)) (pu_enc (lk_L0 np id key me kp)[j]?) (nI key)).bind (fun S125 => some (.inl (S125, nI (j + 1)))) := by
        unfold f_X7_begin_L67 f_X7_begin_J103
        rw [if_neg (by rw [pu_i16]; exact nI_ge hj (by omega)), hat, pu_sb, (pu_q2' hj).2, nI_1]
        rcases hw with e | e
        · subst e
          rw [if_neg (by decide), if_pos rfl, if_neg (by decide)]
        · subst e
          rw [if_pos (by decide), if_pos rfl]
          rcases Nat.mod_two_eq_zero_or_one j with e | e
          · rw [e, if_neg (by decide), if_pos rfl]
          · rw [e, if_pos (by decide), if_neg (by decide)]
            rfl
      rw [hst]
      have hy0 : (if ways = 2 then j % 2 else 0) < 2 := by split <;> omega
      generalize hyy : (if ways = 2 then j % 2 else 0) = y0 at hy0 ⊢
      have ext : ∀ y x, (List.range (j + 1)).any (fun i => decide ((lk_L0 np id key me kp)[i]? = some x) && decide (y = if ways = 2 then i % 2 else 0)) = ((List.range j).any (fun i => decide ((lk_L0 np id key me kp)[i]? = some x) && decide (y = if ways = 2 then i % 2 else 0)) || (decide ((lk_L0 np id key me kp)[j]? = some x) && decide (y = y0))) := fun y x => by
        rw [List.range_succ, List.any_append]
        simp only [List.any_cons, List.any_nil, Bool.or_false]
        rw [hyy]
      cases h9 : (lk_L0 np id key me kp)[j]? with
      | none =>
        show ∃ a', (f_X7_include T _ (-1) (nI key)).bind _ = _ ∧ _
        rw [lc_incl0, pu_sb]
        refine ⟨_, rfl, rfl, fun y hy => rs_congr (hr y hy) (fun x _ => ?_), f⟩
        rw [ext, h9]
        simp
      | some a =>
        have ha := (sel_mem (List.mem_of_getElem? h9)).1
        show ∃ a', (f_X7_include T _ (nI a) (nI key)).bind _ = _ ∧ _
        obtain ⟨T', e', r', f'⟩ := lc_incl cT w (hr y0 hy0) ha
        rw [e', pu_sb]
        refine ⟨_, rfl, rfl, fun y hy => ?_, fun x b hx => by rw [← f x b hx]; exact f' x b (by omega) (by omega) (by omega)⟩
        by_cases ey : y = y0
        · subst ey
          refine rs_congr r' (fun x _ => ?_)
          have e9 : decide (x = a) = (decide (some a = some x) && decide (y = y)) := by
            by_cases e : x = a
            · subst e; simp
            · have : ¬ a = x := fun q => e q.symm
              simp [e, this]
          rw [ext, h9, e9]
        · refine rs_congr (rs_keep (hr y hy) (f' _ _ (by omega) (by omega) (by omega)) (fun b => f' _ b (by omega) (by omega) (by omega)) (fun b => f' _ b (by omega) (by omega) (by omega))) (fun x _ => ?_)
          rw [ext]
          simp [ey]
    · rintro ⟨T, v⟩ ⟨hv, hr, f⟩
      dsimp only at hv hr f ⊢
      subst hv
      refine ⟨T, ?_, hr, f⟩
      unfold f_X7_begin_L67
      rw [if_pos (by decide)]
  · rintro j ⟨T, v⟩ hj ⟨hv, hz, f⟩
    dsimp only at hv hz f ⊢
    subst hv
    unfold f_X7_begin_L29
    rw [if_neg (by rw [pu_i16]; exact nI_ge hj (by omega)), if_pos (pu_ib (by omega) (by omega)), nI_clamp (by omega), nI_1, pu_nb0]
    refine ⟨_, rfl, rfl, fun x hx => ?_, fun x b hx => by rw [← f x b hx]; exact pu_up_k hx⟩
    dsimp only
    by_cases e : x = j
    · subst e; exact pu_up_same _ _ _ _
    · rw [pu_up_i e]; exact hz x (by omega)
  · rintro ⟨T, v⟩ ⟨hv, hz, f⟩
    dsimp only at hv hz f ⊢
    subst hv
    refine ⟨T, ?_, hz, f⟩
    unfold f_X7_begin_L29
    rw [if_pos (by decide)]
theorem lc_run {kp : Nat → Nat → List Nat} (C : pu_CP np id so on kp S) (w : pu_AW np id on kp) (hm : me < np) (hk : key < 256) {ways : Nat} (hw : ways = 1 ∨ ways = 2) : ∃ S', f_X7_run S (nI me) (nI key) (nI ways) = some S' ∧ lk_C np id so on key (lk_run np id so on key me kp ways) S' ∧ lk_F S S' ∧ lk_I np id on me (lk_run np id so on key me kp ways) := by
  obtain ⟨S1, e1, C1, f1⟩ := lc_begin C w hm hk hw
  obtain ⟨S2, e2, C2, f2, I2⟩ := lc_rounds hm hk 17 0 _ S1 (by omega) C1 (begin_I (key := key) w hm ways) ps_fu (by unfold ps_fu; omega)
  refine ⟨S2, ?_, C2, lk_Ft f1 f2, I2⟩
  unfold f_X7_run
  rw [e1, pu_sb]
  have e2 : ps_it (fun (a : ps_S × Int32 × Int32) => f_X7_run_L13 (nI me) (nI key) a.1 a.2.1 a.2.2) ps_fu (S1, 0, 0) = some S2 := e2
  rw [e2]
  rfl
/-- what a lookup found: the three closest of those that answered -/
def lk_res (np : Nat) (id : Nat → Int32) (key : Nat) (s : pu_L) : List Nat := pu_sel s.2.2.1 (fun x => id x ^^^ nI key) np (-1) 3
theorem lc_at (C : lk_C np id so on key s S) (w : pu_AW np id on s.1) (hk : key < 256) {i : Nat} (hi : i < 3) : f_X6_at S 29 (nI i) = some (pu_enc (lk_res np id key s)[i]?) := rs_at C.2.2.2.1 (aw_dp w hk) hi (by omega)
theorem lc_digits (C : lk_C np id so on key s S) (w : pu_AW np id on s.1) (hk : key < 256) : f_X6_digits S 29 = some (pu_dig (lk_res np id key s)) := rs_digits C.2.2.2.1 (aw_dp w hk)
end
