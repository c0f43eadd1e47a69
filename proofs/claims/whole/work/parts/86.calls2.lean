/-! calls on peers: closest, peer -/
section
variable {np nf c B f o : Nat} {id so on : Nat → Int32} {kp : Nat → Nat → List Nat} {C M C' M' S : ps_S} {D : Nat → Nat → Nat} {ow : Nat → Nat}
theorem rq_mk (P : rl_P np id so on kp C M) (O : rl_O c C M) (N : rl_N C M) (DD : rl_D np D (1000 * c) C M) (F : rl_F np nf ow C M) : rl_Q np id so on kp nf ow D c C M := ⟨P, O, N, DD, F⟩
def cl_an (so on : Nat → Int32) (p x : Nat) : Bool := decide (x ≠ p) && decide (¬ (on x = 0 ∨ so x = 1))
theorem cp_ansno (P : pu_CP np id so on kp C) (hn : np ≤ 16) {x : Int32} (hx : ¬ ∃ p, p < np ∧ x = nI p) : f_X5_answers C x = some 0 := by
  unfold f_X5_answers
  rw [cp_hasno P.1 hn hx, pu_sb, if_pos rfl]
theorem pu_noge {j : Nat} (h : np ≤ j) (hj : j < 2 ^ 31) (hn : np ≤ 16) : ¬ ∃ p, p < np ∧ nI j = nI p := by
  rintro ⟨p, hp, e⟩
  have := pu_inj hj (by omega) e
  omega
theorem cc_closest (P : rl_P np id so on kp C M) {p key : Nat} (hp : p < np) (hk : key < 256) : ∃ C', ps_it (fun (a : ps_S × Int32) => f_X10_closest_L21 (nI p) (nI key) a.1 a.2) ps_fu (ps_up C 54 2 0, 0) = some C' ∧ pu_rs C' 54 (fun x => id x ^^^ nI key) (cl_an so on p) np ∧ ∀ a b, a ≠ 54 → a ≠ 55 → a ≠ 56 → C' a b = C a b := by
  have hn := P.1.1
  refine pu_ind0 (step := fun (a : ps_S × Int32) => f_X10_closest_L21 (nI p) (nI key) a.1 a.2) (a := (ps_up C 54 2 0, 0))
    (fun j a => a.2 = nI j ∧ pu_rs a.1 54 (fun x => id x ^^^ nI key) (fun x => decide (x < j) && cl_an so on p x) np ∧ ∀ x b, x ≠ 54 → x ≠ 55 → x ≠ 56 → a.1 x b = C x b)
    (fun C' => pu_rs C' 54 (fun x => id x ^^^ nI key) (cl_an so on p) np ∧ ∀ a b, a ≠ 54 → a ≠ 55 → a ≠ 56 → C' a b = C a b) 16 (by omega) ?_ ?_ ?_
  · exact ⟨rfl, rs_congr (rs_clear _ np (pu_up_same C 54 2 0)) (fun k _ => by simp), fun x b h1 _ _ => pu_up_k h1⟩
  · rintro j ⟨T, v⟩ hj ⟨hv, hr, fr⟩
    dsimp only at hv hr fr ⊢
    subst hv
    have hT : pu_CP np id so on kp T := cp_congr P.2.1 hn (fun a c ha => fr a c (by omega) (by omega) (by omega))
    have stay : (∀ x, x < np → x = j → cl_an so on p x = false) → ∃ a', f_X10_closest_J60 (nI j) T = some (.inl a') ∧ a'.2 = nI (j + 1) ∧ pu_rs a'.1 54 (fun x => id x ^^^ nI key) (fun x => decide (x < j + 1) && cl_an so on p x) np ∧ ∀ x b, x ≠ 54 → x ≠ 55 → x ≠ 56 → a'.1 x b = C x b := by
      intro hs
      refine ⟨(T, nI j + 1), rfl, nI_1 j, rs_congr hr (fun x hx => ?_), fr⟩
      by_cases e : x = j
      · rw [hs x hx e]; simp
      · have : decide (x < j + 1) = decide (x < j) := by
          apply decide_eq_decide.mpr
          omega
        rw [this]
    unfold f_X10_closest_L21
    rw [if_neg (by rw [pu_i16]; exact nI_ge hj (by omega))]
    by_cases e : j = p
    · rw [if_pos (by rw [e])]
      exact stay (fun x hx ex => by unfold cl_an; simp [ex, e])
    · rw [if_neg (fun h => e (pu_inj (by omega) (by omega) h))]
      by_cases hjn : j < np
      · rw [cp_answers hT hn hjn, pu_sb]
        by_cases c1 : on j = 0 ∨ so j = 1
        · rw [if_pos c1, if_pos rfl]
          exact stay (fun x hx ex => by unfold cl_an; rw [ex]; simp [c1])
        · rw [if_neg c1, if_neg (by decide), lc_dist hT hn hjn, pu_sb]
          obtain ⟨T', e', r', f', -⟩ := rs_put hr (aw_di P.1 (nI key)) hn hjn
          have e' : f_X6_add T 54 (nI j) (id j ^^^ nI key) = some T' := e'
          rw [e', pu_sb]
          refine ⟨(T', nI j + 1), rfl, nI_1 j, rs_congr r' (fun x hx => ?_), fun x b h1 h2 h3 => (f' x b h1 h2 h3).trans (fr x b h1 h2 h3)⟩
          by_cases ex : x = j
          · subst ex
            unfold cl_an
            simp [e, c1]
          · have : decide (x < j + 1) = decide (x < j) := by
              apply decide_eq_decide.mpr
              omega
            rw [this]
            simp [ex]
      · rw [cp_ansno hT hn (pu_noge (by omega) (by omega) hn), pu_sb, if_pos rfl]
        exact stay (fun x hx ex => absurd hx (by omega))
  · rintro ⟨T, v⟩ ⟨hv, hr, fr⟩
    dsimp only at hv hr fr ⊢
    subst hv
    refine ⟨T, ?_, rs_congr hr (fun x hx => ?_), fr⟩
    · unfold f_X10_closest_L21
      rw [if_pos (by rw [pu_i16]; exact nI_le (Nat.le_refl _) (by omega))]
    · have : decide (x < 16) = true := decide_eq_true (by omega)
      rw [this, Bool.true_and]
theorem mc_closest (P : rl_P np id so on kp C M) {p : Nat} (hp : p < np) : ∃ M', ps_it (fun (a : ps_S × Int32) => f_X11_closest_L39 (nI p) a.1 a.2) ps_fu (M, 0) = some M' ∧ (∀ x, x < np → M' 88 x = if cl_an so on p x = true then 1 else 0) ∧ ∀ a b, a ≠ 88 → M' a b = M a b := by
  have hn := P.1.1
  refine pu_ind0 (step := fun (a : ps_S × Int32) => f_X11_closest_L39 (nI p) a.1 a.2) (a := (M, 0))
    (fun j a => a.2 = nI j ∧ (∀ x, x < j → x < np → a.1 88 x = if cl_an so on p x = true then 1 else 0) ∧ ∀ x b, x ≠ 88 → a.1 x b = M x b)
    (fun M' => (∀ x, x < np → M' 88 x = if cl_an so on p x = true then 1 else 0) ∧ ∀ a b, a ≠ 88 → M' a b = M a b) 16 (by omega) ⟨rfl, fun x hx => absurd hx (by omega), fun _ _ _ => rfl⟩ ?_ ?_
  · rintro j ⟨T, v⟩ hj ⟨hv, hr, fr⟩
    dsimp only at hv hr fr ⊢
    subst hv
    have MT : pu_MP np id so on kp T := mp_congr P.2.2 (fr _ _ (by omega)) (fun a b h1 h2 => fr a b (by omega))
    have put : ∀ s : Int32, (s = 0 ∨ s = 1) → (j < np → s = if cl_an so on p j = true then 1 else 0) → ∃ a', f_X11_closest_J87 T (nI j) s = some (.inl a') ∧ a'.2 = nI (j + 1) ∧ (∀ x, x < j + 1 → x < np → a'.1 88 x = if cl_an so on p x = true then 1 else 0) ∧ ∀ x b, x ≠ 88 → a'.1 x b = M x b := by
      intro s hs h
      unfold f_X11_closest_J87
      rw [if_pos (pu_ib (by omega) (by omega)), nI_clamp (by omega), nI_1, pu_nbz hs]
      refine ⟨_, rfl, rfl, fun x hx hx2 => ?_, fun x b hx => by rw [← fr x b hx]; exact pu_up_k hx⟩
      dsimp only
      by_cases e : x = j
      · subst e; rw [pu_up_same]; exact h hx2
      · rw [pu_up_i e]; exact hr x (by omega) hx2
    unfold f_X11_closest_L39
    rw [if_neg (by rw [pu_i16]; exact nI_ge hj (by omega)), MT.1]
    by_cases hjn : np ≤ j
    · rw [if_pos (nI_le hjn (by omega))]
      exact put 0 (Or.inl rfl) (fun h => absurd h (by omega))
    · rw [if_neg (nI_ge (by omega) (by omega))]
      by_cases e : j = p
      · rw [if_pos (by rw [e])]
        exact put 0 (Or.inl rfl) (fun _ => by unfold cl_an; simp [e])
      · rw [if_neg (fun h => e (pu_inj (by omega) (by omega) h)), if_pos (pu_ib (by omega) (by omega)), nI_clamp (by omega), (MT.2.1 j (by omega)).2.2.1]
        by_cases c1 : on j = 0
        · rw [if_pos c1]
          exact put 0 (Or.inl rfl) (fun _ => by unfold cl_an; simp [c1])
        · rw [if_neg c1, if_pos (pu_ib (by omega) (by omega)), (MT.2.1 j (by omega)).2.1]
          by_cases c2 : so j = 1
          · rw [if_pos c2]
            exact put 0 (Or.inl rfl) (fun _ => by unfold cl_an; simp [c2])
          · rw [if_neg c2]
            exact put 1 (Or.inr rfl) (fun _ => by unfold cl_an; simp [c1, c2, e])
  · rintro ⟨T, v⟩ ⟨hv, hr, fr⟩
    dsimp only at hv hr fr ⊢
    subst hv
    refine ⟨T, ?_, fun x hx => hr x (by omega) hx, fr⟩
    unfold f_X11_closest_L39
    rw [if_pos (by rw [pu_i16]; exact nI_le (Nat.le_refl _) (by omega))]
theorem op_closest (Q : rl_Q np id so on kp nf ow D c S S) (x y : Int32) : op_K c S (f_cmp (fun r => r) (f_L_closest S x y) (fun S => f_X11_closest S x y)) := by
  unfold f_L_closest
  have hn := Q.1.1.1
  by_cases hx : ∃ p, p < np ∧ x = nI p
  · obtain ⟨p, hp, rfl⟩ := hx
    rcases pu_below (x := y) (n := 256) (by omega) with ⟨key, hk, rfl⟩ | ⟨-, hy⟩
    · have nb : f_X10_needBelow (nI key) 256 = some (.inr ()) := nb_ok (n := 256) hk (by omega)
      have ii : f_X11_isIn (nI key) 0 255 = some 1 := in_ok (m := 255) (by omega) (by omega)
      obtain ⟨C1, e1, r1, f1⟩ := cc_closest Q.1 hp hk
      refine op_yes Q (fun M QM => ?_)
      have Q0 := rq_0 QM (v := 0)
      obtain ⟨M1, e2, a2, f2⟩ := mc_closest Q0.1 hp
      have P1 : rl_P np id so on kp C1 M1 := rp_congr Q0.1 (fun a b h => f1 a b (by omega) (by omega) (by omega)) (f2 _ _ (by omega)) (fun a b h1 h2 => f2 a b (by omega))
      obtain ⟨M2, e3, h13, h90, f3⟩ := lm_closest (id := id) (key := key) P1.2.2.1 hn (fun k hk => (P1.2.2.2.1 k hk).1) a2
      have g : ∀ a b, a ≠ 88 → a ≠ 90 → ¬ (a = 80 ∧ b = 13) → M2 a b = ps_up M 80 0 0 a b := fun a b h1 h2 h3 => (f3 a b h2 h3).trans (f2 a b h1)
      refine ⟨C1, pu_dig (pu_sel (cl_an so on p) (fun x => id x ^^^ nI key) np (-1) 3), M2, ?_, fun a b h1 h2 => f1 a b (by omega) (by omega) (by omega), ?_, by rw [g _ _ (by omega) (by omega) (by omega), pu_up_same], fun a b h => by rw [g a b (by omega) (by omega) (by omega), pu_up_k (by omega)], ?_, f1 _ _ (by omega) (by omega) (by omega)⟩
      · unfold f_X10_closest f_X6_clear
        rw [pu_bxr (np_ok Q.1 hp), pu_bxr nb, pu_sb, e1, pu_sb, rs_digits r1 (aw_dp Q.1.1 hk), pu_sb]
      · unfold f_X11_closest f_X11_closest_J29
        rw [mp_is QM.1.2.2.1 hn hp, pu_sb, if_neg (by decide), ii, pu_sb, if_neg (by decide), pu_b2 (pu_h0 M), if_neg (by decide), e2, pu_sb, e3, pu_sb, mt_told sel_len h13 h90, pu_sb]
      · obtain ⟨-, O, N, DD, F⟩ := Q0
        exact rl_up (rq_R ⟨rp_congr P1 (fun _ _ _ => rfl) (f3 _ _ (by omega) (by omega)) (fun a b h1 h2 => f3 a b (by omega) (by omega)), ro_congr O (f1 _ _ (by omega) (by omega) (by omega)) (f1 _ _ (by omega) (by omega) (by omega)) (f1 _ _ (by omega) (by omega) (by omega)) (g _ _ (by omega) (by omega) (by omega)) (g _ _ (by omega) (by omega) (by omega)) (g _ _ (by omega) (by omega) (by omega)), rn_congr N (fun a b h1 h2 => f1 a b (by omega) (by omega) (by omega)) (fun a b h1 h2 => g a b (by omega) (by omega) (by omega)), rd_congr DD (fun a b h1 h2 => f1 a b (by omega) (by omega) (by omega)) (fun b => g _ b (by omega) (by omega) (by omega)), rf_congr F (f1 _ _ (by omega) (by omega) (by omega)) (fun b => f1 _ b (by omega) (by omega) (by omega)) (fun a b h => f1 a b (by omega) (by omega) (by omega)) (g _ _ (by omega) (by omega) (by omega)) (fun a b h1 h2 => g a b (by omega) (by omega) (by omega))⟩)
    · refine op_no (e := 0) (k := 2) Q ?_ rfl (by decide) ?_
      · unfold f_X10_closest
        have nb : f_X10_needBelow y 256 = some (.inl 0) := nb_no (n := 256) hy
        rw [pu_bxr (np_ok Q.1 hp), pu_bxl nb]
      · show f_X11_closest S (nI p) y = _
        unfold f_X11_closest f_X11_closest_J29
        have ii : f_X11_isIn y 0 255 = some 0 := in_no (m := 255) (n := 256) (by omega) (by omega) hy
        rw [mp_is Q.1.2.2.1 hn hp, pu_sb, if_neg (by decide), ii, pu_sb, if_pos rfl]
        exact pu_no (by decide) _ (if_pos rfl)
  · refine op_no (e := 1) (k := 1) Q ?_ rfl (by decide) ?_
    · unfold f_X10_closest
      rw [pu_bxl (np_no Q.1 hx)]
    · show f_X11_closest S x y = _
      unfold f_X11_closest f_X11_closest_J29
      rw [mp_isno Q.1.2.2.1 Q.1.1.1 hx, pu_sb, if_pos rfl]
      exact pu_no (by decide) _ (if_pos rfl)
/-! peer -/
theorem cp_hasId (P : pu_CP np id so on kp C) (hn : np ≤ 16) (x : Int32) : f_X5_hasId C x = some (if (List.range np).any (fun p => decide (id p = x)) = true then 1 else 0) := by
  unfold f_X5_hasId
  have loop := pu_indx0 (step := fun (a : Int32) => f_X5_hasId_L2 C x a) (a := 0) (fun j a => a = nI j ∧ (List.range j).any (fun p => decide (id p = x)) = false)
    (fun b => (b = .inl () ∧ (List.range np).any (fun p => decide (id p = x)) = false) ∨ (b = .inr 1 ∧ (List.range np).any (fun p => decide (id p = x)) = true)) np (by omega) ⟨rfl, by simp⟩ ?_ ?_
  · obtain ⟨b, e, q⟩ := loop
    rw [e]
    rcases q with ⟨rfl, q⟩ | ⟨rfl, q⟩
    · rw [q]; rfl
    · rw [q]; rfl
  · rintro j a hj ⟨rfl, h⟩
    unfold f_X5_hasId_L2
    rw [P.1, if_neg (nI_ge hj (by omega)), if_neg (by rw [pu_i16]; exact nI_ge (by omega) (by omega)), if_pos (pu_ib (by omega) (by omega)), nI_clamp (by omega), (P.2 j hj).1]
    by_cases e : id j = x
    · rw [if_pos e]
      refine Or.inr ⟨_, rfl, Or.inr ⟨rfl, ?_⟩⟩
      simp only [List.any_eq_true, List.mem_range, decide_eq_true_eq]
      exact ⟨j, hj, e⟩
    · rw [if_neg e]
      refine Or.inl ⟨_, rfl, nI_1 j, ?_⟩
      rw [List.range_succ, List.any_append, h]
      simp [e]
  · rintro a ⟨rfl, h⟩
    unfold f_X5_hasId_L2
    rw [P.1, if_pos (nI_le (Nat.le_refl _) (by omega))]
    exact ⟨_, rfl, Or.inl ⟨rfl, h⟩⟩
theorem mp_isId (P : pu_MP np id so on kp M) (hn : np ≤ 16) (x : Int32) : f_X11_isId M x = some (if (List.range np).any (fun p => decide (id p = x)) = true then 1 else 0) := by
  unfold f_X11_isId
  have loop := pu_it0 (step := fun (a : Int32 × Int32) => f_X11_isId_L4 M x a.1 a.2) (b := if (List.range np).any (fun p => decide (id p = x)) = true then 1 else 0) (fun j => (if (List.range j).any (fun p => decide (id p = x)) = true then 1 else 0, nI j)) np ?_ ?_ (by omega)
  · have e0 : ps_it (fun (a : Int32 × Int32) => f_X11_isId_L4 M x a.1 a.2) ps_fu (0, 0) = some (if (List.range np).any (fun p => decide (id p = x)) = true then 1 else 0) := loop
    rw [e0, pu_sb, if_pos (by split <;> simp)]
  · intro j hj
    show f_X11_isId_L4 M x _ (nI j) = _
    unfold f_X11_isId_L4 f_X11_isId_J31
    rw [P.1, if_neg (nI_ge hj (by omega)), List.range_succ, List.any_append, nI_1]
    simp only [List.any_cons, List.any_nil, Bool.or_false]
    cases hq : (List.range j).any (fun p => decide (id p = x)) with
    | true => rw [if_pos rfl, if_neg (by decide)]; rfl
    | false =>
      rw [show (if (false = true) then (1 : Int32) else 0) = 0 from rfl, if_pos rfl, if_pos (pu_ib (by omega) (by omega)), nI_clamp (by omega), (P.2.1 j hj).1, Bool.false_or]
      by_cases e : id j = x
      · rw [if_pos e]; simp [e]
      · rw [if_neg e]; simp [e]
  · show f_X11_isId_L4 M x _ (nI np) = _
    unfold f_X11_isId_L4
    rw [P.1, if_pos (nI_le (Nat.le_refl _) (by omega))]
theorem hear_comm {p o : Nat} (hpo : p ≠ o) : pu_hear id on (pu_hear id on kp p o) o p = pu_hear id on (pu_hear id on kp o p) p o := by
  funext x b
  unfold pu_hear
  by_cases e1 : x = o
  · subst e1
    have hxp : ¬ x = p := fun e => hpo e.symm
    simp [hpo, hxp]
  · by_cases e2 : x = p
    · subst e2
      simp [e1]
    · simp [e1, e2]
/-- one more peer -/
theorem cp_add (P : pu_CP np id so on kp C) (hn : np < 16) (x y : Int32) : ∃ C', f_X5_add C x y = some (nI np, C') ∧ pu_CP (np + 1) (fun q => if q = np then x else id q) (fun q => if q = np then y else so q) (fun q => if q = np then 1 else on q) (fun q b => if q = np then [] else kp q b) C' ∧ ∀ a b, (a = 0 ∨ 22 ≤ a) → C' a b = C a b := by
  unfold f_X5_add
  rw [pu_lts, P.1, if_neg (nI_pos (by omega)), if_pos (by rw [pu_i16]; exact nI_lt hn (by omega)), if_pos (pu_ib (by omega) (by omega)), if_pos (pu_ib (by omega) (by omega)), if_pos (pu_ib (by omega) (by omega)), if_pos (pu_ib (by omega) (by omega)), nI_clamp (by omega), pu_nb1, nI_1]
  obtain ⟨T, hT⟩ : ∃ T, T = ps_up (ps_up (ps_up (ps_up C 1 4 (nI (np + 1))) 2 np x) 3 np y) 4 np 1 := ⟨_, rfl⟩
  rw [← hT]
  have loop := pu_ind0 (step := fun (a : ps_S × Int32) => f_X5_add_L59 (nI np) a.1 a.2) (a := (T, 0))
    (fun j a => a.2 = nI j ∧ (∀ i, i < j → a.1 (6 + np) i = -1) ∧ ∀ x b, x ≠ 6 + np → a.1 x b = T x b)
    (fun C' => (∀ i, i < 16 → C' (6 + np) i = -1) ∧ ∀ x b, x ≠ 6 + np → C' x b = T x b) 16 (by omega) ⟨rfl, fun i hi => absurd hi (by omega), fun _ _ _ => rfl⟩ ?_ ?_
  · obtain ⟨C', e, h1, h2⟩ := loop
    rw [e, pu_sb]
    have t : ∀ a b, a ≠ 1 → a ≠ 2 → a ≠ 3 → a ≠ 4 → T a b = C a b := fun a b g1 g2 g3 g4 => by rw [hT, pu_up_k g4, pu_up_k g3, pu_up_k g2, pu_up_k g1]
    refine ⟨C', rfl, ⟨?_, fun q hq => ?_⟩, fun a b h => by rw [h2 a b (by omega), t a b (by omega) (by omega) (by omega) (by omega)]⟩
    · rw [h2 _ _ (by omega), hT, pu_up_k (by omega), pu_up_k (by omega), pu_up_k (by omega), pu_up_same]
    · dsimp only
      by_cases e : q = np
      · subst e
        rw [if_pos rfl, if_pos rfl, if_pos rfl, h2 _ _ (by omega), h2 _ _ (by omega), h2 _ _ (by omega), hT]
        refine ⟨by rw [pu_up_k (by omega), pu_up_k (by omega), pu_up_same], by rw [pu_up_k (by omega), pu_up_same], by rw [pu_up_same], fun b hb => ?_⟩
        rw [if_pos rfl, h1 _ (by omega), h1 _ (by omega)]
        exact ⟨rfl, rfl⟩
      · obtain ⟨g1, g2, g3, g4⟩ := P.2 q (by omega)
        rw [if_neg e, if_neg e, if_neg e, h2 _ _ (by omega), h2 _ _ (by omega), h2 _ _ (by omega), hT]
        refine ⟨by rw [pu_up_k (by omega), pu_up_k (by omega), pu_up_i e, pu_up_k (by omega)]; exact g1, by rw [pu_up_k (by omega), pu_up_i e, pu_up_k (by omega), pu_up_k (by omega)]; exact g2, by rw [pu_up_i e, pu_up_k (by omega), pu_up_k (by omega), pu_up_k (by omega)]; exact g3, fun b hb => ?_⟩
        rw [if_neg e, h2 _ _ (by omega), h2 _ _ (by omega), t _ _ (by omega) (by omega) (by omega) (by omega), t _ _ (by omega) (by omega) (by omega) (by omega)]
        exact g4 b hb
  · rintro j ⟨U, v⟩ hj ⟨hv, hr, fr⟩
    dsimp only at hv hr fr ⊢
    subst hv
    unfold f_X5_add_L59
    rw [if_neg (by rw [pu_i16]; exact nI_ge hj (by omega)), if_pos (pu_ib (by omega) (by omega)), nI_clamp (by omega), nI_clamp (by omega), nI_1]
    refine ⟨_, rfl, rfl, fun i hi => ?_, fun a b h => by rw [← fr a b h]; exact pu_up_k h⟩
    dsimp only
    by_cases e : i = j
    · rw [e, pu_up_same]
    · rw [pu_up_i e]; exact hr i (by omega)
  · rintro ⟨U, v⟩ ⟨hv, hr, fr⟩
    dsimp only at hv hr fr ⊢
    subst hv
    refine ⟨U, ?_, hr, fr⟩
    unfold f_X5_add_L59
    rw [if_pos (by rw [pu_i16]; exact nI_le (Nat.le_refl _) (by omega))]
theorem mp_add (P : pu_MP np id so on kp M) (hn : np < 16) (x y : Int32) : pu_MP (np + 1) (fun q => if q = np then x else id q) (fun q => if q = np then y else so q) (fun q => if q = np then 1 else on q) (fun q b => if q = np then [] else kp q b) (ps_up (ps_up (ps_up (ps_up M 81 np x) 82 np y) 83 np 1) 80 2 (nI (np + 1))) := by
  refine ⟨pu_up_same _ _ _ _, fun q hq => ?_, fun q h1 h2 b hb => ?_⟩
  · rw [pu_up_k (a := 81) (by omega), pu_up_k (a := 82) (by omega), pu_up_k (a := 83) (by omega)]
    dsimp only
    by_cases e : q = np
    · subst e
      rw [if_pos rfl, if_pos rfl, if_pos rfl]
      refine ⟨by rw [pu_up_k (by omega), pu_up_k (by omega), pu_up_same], by rw [pu_up_k (by omega), pu_up_same], by rw [pu_up_same], fun b hb => ?_⟩
      rw [if_pos rfl]
      refine ⟨?_, fun j a hj => by simp at hj⟩
      rw [pu_up_k (by omega), pu_up_k (by omega), pu_up_k (by omega), pu_up_k (by omega)]
      exact P.2.2 q (Nat.le_refl _) (by omega) b hb
    · obtain ⟨g1, g2, g3, g4⟩ := P.2.1 q (by omega)
      rw [if_neg e, if_neg e, if_neg e]
      refine ⟨by rw [pu_up_k (by omega), pu_up_k (by omega), pu_up_i e]; exact g1, by rw [pu_up_k (by omega), pu_up_i e, pu_up_k (by omega)]; exact g2, by rw [pu_up_i e, pu_up_k (by omega), pu_up_k (by omega)]; exact g3, fun b hb => ?_⟩
      rw [if_neg e]
      refine ⟨?_, fun j a hj => ?_⟩
      · rw [pu_up_k (by omega), pu_up_k (by omega), pu_up_k (by omega), pu_up_k (by omega)]
        exact (g4 b hb).1
      · rw [pu_up_k (by omega), pu_up_k (by omega), pu_up_k (by omega), pu_up_k (by omega)]
        exact (g4 b hb).2 j a hj
  · rw [pu_up_k (by omega), pu_up_k (by omega), pu_up_k (by omega), pu_up_k (by omega)]
    exact P.2.2 q (by omega) h2 b hb
theorem aw_add (w : pu_AW np id on kp) (hn : np < 16) {i : Nat} (hi : i < 256) (hno : (List.range np).any (fun p => decide (id p = nI i)) = false) : pu_AW (np + 1) (fun q => if q = np then nI i else id q) (fun q => if q = np then 1 else on q) (fun q b => if q = np then [] else kp q b) := by
  obtain ⟨w1, w2, w3, w4, w5⟩ := w
  have hno' : ∀ p, p < np → ¬ id p = nI i := by
    intro p hp e
    have : (List.range np).any (fun p => decide (id p = nI i)) = true := by
      simp only [List.any_eq_true, List.mem_range, decide_eq_true_eq]
      exact ⟨p, hp, e⟩
    rw [hno] at this
    cases this
  refine ⟨by omega, fun p hp => ?_, fun p q hp hq e => ?_, fun p hp => ?_, fun p hp b hb => ?_⟩
  · dsimp only
    by_cases e : p = np
    · rw [if_pos e]; exact ⟨i, hi, rfl⟩
    · rw [if_neg e]; exact w2 p (by omega)
  · dsimp only at e
    by_cases e1 : p = np
    · by_cases e2 : q = np
      · rw [e1, e2]
      · rw [if_pos e1, if_neg e2] at e
        exact absurd e.symm (hno' q (by omega))
    · by_cases e2 : q = np
      · rw [if_neg e1, if_pos e2] at e
        exact absurd e (hno' p (by omega))
      · rw [if_neg e1, if_neg e2] at e
        exact w3 p q (by omega) (by omega) e
  · dsimp only
    by_cases e : p = np
    · rw [if_pos e]; exact Or.inr rfl
    · rw [if_neg e]; exact w4 p (by omega)
  · dsimp only
    by_cases e : p = np
    · rw [if_pos e]; simp
    · rw [if_neg e]
      have := w5 p (by omega) b hb
      exact ⟨this.1, fun q hq => ⟨by have := (this.2 q hq).1; omega, (this.2 q hq).2⟩⟩
theorem rf_np (F : rl_F np nf ow C M) : rl_F (np + 1) nf ow C M := by
  obtain ⟨a, b, v, z⟩ := F
  refine ⟨a, b, fun f hf => ?_, z⟩
  obtain ⟨⟨⟨v1, v2⟩, v3⟩, h⟩ := v f hf
  refine ⟨⟨⟨by omega, v2⟩, v3⟩, fun k hk => ?_⟩
  obtain ⟨h1, h2, h3⟩ := h k hk
  refine ⟨h1, ?_, h3⟩
  rcases h2 with h2 | ⟨x, x1, x2⟩
  · exact Or.inl h2
  · exact Or.inr ⟨x, by omega, x2⟩
theorem mpeer_no (x y z s45 s88 : Int32) : f_X11_peer_J88 S x y z 0 s45 s88 = some (0, ps_up S 80 0 1) := by
  unfold f_X11_peer_J88 f_X11_peer_J119
  rw [if_pos rfl]
  exact pu_no (by decide) _ (if_pos rfl)
theorem mpeer_45 (P : rl_P np id so on kp C S) (x y z s25 : Int32) (hz : z = -1 ∨ ∃ p, p < np ∧ z = nI p) : ∃ s88, f_X11_peer_J45 S x y z s25 1 = f_X11_peer_J88 S x y z s25 1 s88 ∧ (s88 = 0 ∧ (16 ≤ np ∨ (List.range np).any (fun p => decide (id p = x)) = true ∨ ∃ p, p < np ∧ z = nI p ∧ on p = 0) ∨ s88 = 1 ∧ np < 16 ∧ (List.range np).any (fun p => decide (id p = x)) = false ∧ (z = -1 ∨ ∃ p, p < np ∧ z = nI p ∧ on p = 1)) := by
  have hn := P.1.1
  unfold f_X11_peer_J45
  rw [if_neg (by decide), P.2.2.1]
  by_cases h16 : 16 ≤ np
  · rw [if_pos (by rw [pu_i16]; exact nI_le h16 (by omega))]
    exact ⟨0, rfl, Or.inl ⟨rfl, Or.inl h16⟩⟩
  · rw [if_neg (by rw [pu_i16]; exact nI_ge (by omega) (by omega)), mp_isId P.2.2 hn x, pu_sb]
    cases ha : (List.range np).any (fun p => decide (id p = x)) with
    | true => rw [if_pos rfl, if_neg (by decide)]; exact ⟨0, rfl, Or.inl ⟨rfl, Or.inr (Or.inl rfl)⟩⟩
    | false =>
      rw [show (if (false = true) then (1 : Int32) else 0) = 0 from rfl, if_pos rfl]
      by_cases e : z = -1
      · rw [if_pos e]; exact ⟨1, rfl, Or.inr ⟨rfl, by omega, rfl, Or.inl e⟩⟩
      · rcases hz with hz | ⟨p, hp, rfl⟩
        · exact absurd hz e
        · rw [if_neg e, if_pos (pu_ib (by omega) (by omega)), nI_clamp (by omega), mp_on P hp]
          rcases rp_on P hp with eo | eo
          · rw [if_pos eo]; exact ⟨0, rfl, Or.inl ⟨rfl, Or.inr (Or.inr ⟨p, hp, rfl, eo⟩)⟩⟩
          · rw [eo, if_neg (by decide)]; exact ⟨1, rfl, Or.inr ⟨rfl, by omega, rfl, Or.inr ⟨p, hp, rfl, eo⟩⟩⟩
theorem mpeer_25 (P : rl_P np id so on kp C S) (x y z : Int32) : f_X11_peer_J25 S x y z 0 = some (0, ps_up S 80 0 1) := by
  unfold f_X11_peer_J25
  by_cases e : z = -1
  · rw [if_pos e]
    obtain ⟨s, h, -⟩ := mpeer_45 P x y z 0 (Or.inl e)
    rw [h, mpeer_no]
  · rw [if_neg e]
    by_cases hz : ∃ p, p < np ∧ z = nI p
    · obtain ⟨s, h, -⟩ := mpeer_45 P x y z 0 (Or.inr hz)
      obtain ⟨p, hp, rfl⟩ := hz
      rw [mp_is P.2.2.1 P.1.1 hp, pu_sb, if_neg (by decide), h, mpeer_no]
    · rw [mp_isno P.2.2.1 P.1.1 hz, pu_sb, if_pos rfl]
      unfold f_X11_peer_J45
      rw [if_pos rfl, mpeer_no]
theorem mpeer_ok (h : M 80 2 = nI np) (hn : np < 16) (x y z : Int32) : f_X11_peer_J119 M x y z 0 = if z = -1 then some (nI np, ps_up (ps_up (ps_up (ps_up (ps_up M 80 0 0) 81 np x) 82 np y) 83 np 1) 80 2 (nI (np + 1))) else (f_X11_hears (ps_up (ps_up (ps_up (ps_up (ps_up M 80 0 0) 81 np x) 82 np y) 83 np 1) 80 2 (nI (np + 1))) (nI np) z).bind fun S1 => (f_X11_hears S1 z (nI np)).bind fun S2 => (f_X11_looksUp S2 (nI np) x 1).bind fun S3 => some (nI np, S3) := by
  unfold f_X11_peer_J119
  have e : ps_up M 80 0 0 80 2 = nI np := by rw [pu_up_i (by omega)]; exact h
  rw [pu_b2 (pu_h0 M), if_neg (by decide), e, if_pos (pu_ib (by omega) (by omega)), if_pos (pu_ib (by omega) (by omega)), if_pos (pu_ib (by omega) (by omega)), nI_clamp (by omega), pu_nb1, pu_up_k (a := 80) (by omega), pu_up_k (a := 80) (by omega), pu_up_k (a := 80) (by omega), e, nI_1]
theorem op_peer (Q : rl_Q np id so on kp nf ow D c S S) (x y z : Int32) : op_K c S (f_cmp (fun r => r) (f_L_peer S x y z) (fun S => f_X11_peer S x y z)) := by
  unfold f_L_peer
  have hn := Q.1.1.1
  rcases pu_below (x := x) (n := 256) (by omega) with ⟨i, hi, rfl⟩ | ⟨-, hx⟩
  · have nx : f_X10_needBelow (nI i) 256 = some (.inr ()) := nb_ok (n := 256) hi (by omega)
    have ix : f_X11_isIn (nI i) 0 255 = some 1 := in_ok (m := 255) (by omega) (by omega)
    rcases pu_below (x := y) (n := 3) (by omega) with ⟨s, hs, rfl⟩ | ⟨-, hy⟩
    · have ny : f_X10_needBelow (nI s) 3 = some (.inr ()) := nb_ok (n := 3) hs (by omega)
      have iy : f_X11_isIn (nI s) 0 2 = some 1 := in_ok (m := 2) (by omega) (by omega)
      by_cases hz : z = -1 ∨ ∃ p, p < np ∧ z = nI p
      · have m25 : ∀ M, rl_Q np id so on kp nf ow D c S M → f_X11_peer M (nI i) (nI s) z = f_X11_peer_J45 M (nI i) (nI s) z 1 1 := by
          intro M QM
          unfold f_X11_peer f_X11_peer_J25
          rw [ix, pu_sb, if_neg (by decide), iy, pu_sb, if_neg (by decide)]
          by_cases e : z = -1
          · rw [if_pos e]
          · rcases hz with hz | ⟨p, hp, rfl⟩
            · exact absurd hz e
            · rw [if_neg e, mp_is QM.1.2.2.1 hn hp, pu_sb, if_neg (by decide)]
        have c22 : f_X10_peer S (nI i) (nI s) z = f_X10_peer_J22 S (nI i) (nI s) z := by
          unfold f_X10_peer
          rw [pu_bxr nx, pu_bxr ny]
          by_cases e : z = -1
          · rw [if_pos e]
          · rcases hz with hz | ⟨p, hp, rfl⟩
            · exact absurd hz e
            · rw [if_neg e, pu_bxr (np_ok Q.1 hp)]
        obtain ⟨s88, h45, hc⟩ := mpeer_45 (C := S) Q.1 (nI i) (nI s) z 1 hz
        rcases hc with ⟨rfl, hc⟩ | ⟨rfl, h16, hno, hzz⟩
        · refine op_no (e := 2) (k := 3) Q ?_ rfl (by decide) ?_
          · rw [c22]
            unfold f_X10_peer_J22 f_X5_isFull
            rw [Q.1.2.1.1]
            by_cases h16 : np < 16
            · rw [if_pos (by rw [pu_i16]; exact nI_lt h16 (by omega)), pu_sb, if_pos rfl, cp_hasId Q.1.2.1 hn, pu_sb]
              cases ha : (List.range np).any (fun p => decide (id p = nI i)) with
              | true => rw [if_pos rfl, if_neg (by decide)]
              | false =>
                rw [show (if (false = true) then (1 : Int32) else 0) = 0 from rfl, if_pos rfl]
                rcases hc with hc | hc | ⟨p, hp, rfl, eo⟩
                · omega
                · rw [ha] at hc; cases hc
                · rw [if_neg (pu_ne1 (by omega)), pu_bxl (no_no Q.1 hp eo)]
            · rw [if_neg (by rw [pu_i16]; exact nI_nlt (by omega) (by omega)), pu_sb, if_neg (by decide)]
          · show f_X11_peer S (nI i) (nI s) z = _
            rw [m25 S Q, h45]
            unfold f_X11_peer_J88 f_X11_peer_J119
            rw [if_neg (by decide), if_neg (by decide), if_pos rfl]
            exact pu_no (by decide) _ (if_pos rfl)
        · obtain ⟨C1, e1, p1, f1⟩ := cp_add Q.1.2.1 h16 (nI i) (nI s)
          have w1 := aw_add Q.1.1 h16 hi hno
          have c63 : f_X10_peer S (nI i) (nI s) z = f_X10_peer_J63 S (nI i) (nI s) z := by
            rw [c22]
            unfold f_X10_peer_J22 f_X5_isFull
            rw [Q.1.2.1.1, if_pos (by rw [pu_i16]; exact nI_lt h16 (by omega)), pu_sb, if_pos rfl, cp_hasId Q.1.2.1 hn, pu_sb, hno, show (if (false = true) then (1 : Int32) else 0) = 0 from rfl, if_pos rfl]
            rcases hzz with e | ⟨p, hp, rfl, eo⟩
            · rw [if_pos e]
            · rw [if_neg (pu_ne1 (by omega)), pu_bxr (no_ok Q.1 hp eo)]
          refine op_yes Q (fun M QM => ?_)
          have Q0 := rq_0 QM (v := 0)
          have mm : f_X11_peer M (nI i) (nI s) z = f_X11_peer_J119 M (nI i) (nI s) z 0 := by
            obtain ⟨s88, h45, hc⟩ := mpeer_45 (C := S) QM.1 (nI i) (nI s) z 1 hz
            rw [m25 M QM, h45]
            rcases hc with ⟨rfl, hc⟩ | ⟨rfl, -⟩
            · exfalso
              rcases hc with hc | hc | ⟨p, hp, e, eo⟩
              · omega
              · rw [hno] at hc; cases hc
              · rcases hzz with e2 | ⟨p2, hp2, e2, eo2⟩
                · rw [e] at e2; exact pu_ne1 (by omega) e2
                · rw [e] at e2
                  have := pu_inj (by omega) (by omega) e2
                  rw [this, eo2] at eo
                  exact absurd eo (by decide)
            · unfold f_X11_peer_J88
              rw [if_neg (by decide), if_neg (by decide), if_neg (by decide)]
          rw [mm, mpeer_ok QM.1.2.2.1 h16]
          have p2 := mp_add Q0.1.2.2 h16 (nI i) (nI s)
          obtain ⟨M1, hM1⟩ : ∃ M1, M1 = ps_up (ps_up (ps_up (ps_up (ps_up M 80 0 0) 81 np (nI i)) 82 np (nI s)) 83 np 1) 80 2 (nI (np + 1)) := ⟨_, rfl⟩
          rw [← hM1] at p2 ⊢
          have g1 : ∀ a b, a ≠ 81 → a ≠ 82 → a ≠ 83 → ¬ (a = 80 ∧ b = 2) → M1 a b = ps_up M 80 0 0 a b := fun a b h1 h2 h3 h4 => by
            rw [hM1]
            show (if a = 80 ∧ b = 2 then _ else _) = _
            rw [if_neg h4, pu_up_k h3, pu_up_k h2, pu_up_k h1]
          have Q1 : rl_Q (np + 1) (fun q => if q = np then nI i else id q) (fun q => if q = np then nI s else so q) (fun q => if q = np then 1 else on q) (fun q b => if q = np then [] else kp q b) nf ow D c C1 M1 := by
            obtain ⟨-, O, N, DD, F⟩ := Q0
            refine ⟨⟨w1, p1, p2⟩, ro_congr O (f1 _ _ (by omega)) (f1 _ _ (by omega)) (f1 _ _ (by omega)) (g1 _ _ (by omega) (by omega) (by omega) (by omega)) (g1 _ _ (by omega) (by omega) (by omega) (by omega)) (g1 _ _ (by omega) (by omega) (by omega) (by omega)), rn_congr N (fun a b h1 h2 => f1 a b (by omega)) (fun a b h1 h2 => g1 a b (by omega) (by omega) (by omega) (by omega)), ?_, rf_np (rf_congr F (f1 _ _ (by omega)) (fun b => f1 _ b (by omega)) (fun a b h => f1 a b (by omega)) (g1 _ _ (by omega) (by omega) (by omega) (by omega)) (fun a b h1 h2 => g1 a b (by omega) (by omega) (by omega) (by omega)))⟩
            have DD := rd_congr DD (C' := C1) (M' := M1) (fun a b h1 h2 => f1 a b (by omega)) (fun b => g1 _ b (by omega) (by omega) (by omega) (by omega))
            exact ⟨DD.1, fun p q h => DD.2 p q (by omega)⟩
          have fc1 : rl_fc S C1 := fun a b h1 h2 => f1 a b (by omega)
          have fm1 : rl_fm M M1 := fun a b h => by rw [g1 a b (by omega) (by omega) (by omega) (by omega), pu_up_k (by omega)]
          have t1 : M1 80 0 = 0 := by rw [g1 _ _ (by omega) (by omega) (by omega) (by omega), pu_up_same]
          rw [c63]
          unfold f_X10_peer_J63
          rw [pu_b2 e1]
          by_cases e : z = -1
          · rw [if_pos e, if_pos e]
            exact ⟨C1, nI np, M1, rfl, fc1, rfl, t1, fm1, rl_up (rq_R Q1), f1 _ _ (by omega)⟩
          · rw [if_neg e, if_neg e]
            rcases hzz with e2 | ⟨p, hp, rfl, eo⟩
            · exact absurd e2 e
            · have hpn : p ≠ np := by omega
              obtain ⟨C2, e2, q2, f2⟩ := cp_hear p1 w1 (p := p) (o := np) (by omega) (by omega) hpn
              have w2 := aw_hear w1 (p := p) (o := np) (by omega) (by omega) hpn
              obtain ⟨C3, e3, q3, f3⟩ := cp_hear q2 w2 (p := np) (o := p) (by omega) (by omega) (fun h => hpn h.symm)
              have w3 := aw_hear w2 (p := np) (o := p) (by omega) (by omega) (fun h => hpn h.symm)
              obtain ⟨M2, e4, q4, f4⟩ := mp_hears p2 w1 (p := np) (o := p) (by omega) (by omega) (fun h => hpn h.symm)
              have w4 := aw_hear w1 (p := np) (o := p) (by omega) (by omega) (fun h => hpn h.symm)
              obtain ⟨M3, e5, q5, f5⟩ := mp_hears q4 w4 (p := p) (o := np) (by omega) (by omega) hpn
              rw [← hear_comm hpn] at q5
              have fc3 : ∀ a b, (a < 6 ∨ 22 ≤ a) → C3 a b = C1 a b := fun a b h => (f3 a b (by omega)).trans (f2 a b (by omega))
              have fm3 : ∀ a b, a ≠ 84 → a ≠ 85 → M3 a b = M1 a b := fun a b h1 h2 => (f5 a b h1 h2).trans (f4 a b h1 h2)
              obtain ⟨-, O, N, DD, F⟩ := Q1
              have Q3 := rq_mk (nf := nf) (ow := ow) (D := D) (c := c) (⟨w3, q3, q5⟩ : rl_P (np + 1) _ _ _ _ C3 M3) (ro_congr O (fc3 _ _ (by omega)) (fc3 _ _ (by omega)) (fc3 _ _ (by omega)) (fm3 _ _ (by omega) (by omega)) (fm3 _ _ (by omega) (by omega)) (fm3 _ _ (by omega) (by omega))) (rn_congr N (fun a b h1 h2 => fc3 a b (by omega)) (fun a b h1 h2 => fm3 a b (by omega) (by omega))) (rd_congr DD (fun a b h1 h2 => fc3 a b (by omega)) (fun b => fm3 _ b (by omega) (by omega))) (rf_congr F (fc3 _ _ (by omega)) (fun b => fc3 _ b (by omega)) (fun a b h => fc3 a b (by omega)) (fm3 _ _ (by omega) (by omega)) (fun a b h1 h2 => fm3 a b (by omega) (by omega)))
              obtain ⟨C', M', kp', L, x1, x2, P', h6, hL, hat, hdig, h13, h90, f, g⟩ := rl_look Q3.1 (me := np) (key := i) (ways := 1) (by omega) hi (Or.inl rfl)
              have x1 : f_X7_run C3 (nI np) (nI i) 1 = some C' := x1
              have x2 : f_X11_looksUp M3 (nI np) (nI i) 1 = some M' := x2
              rw [e2, pu_sb, e3, pu_sb, x1, pu_sb, e4, pu_sb, e5, pu_sb, x2, pu_sb]
              exact ⟨C', nI np, M', rfl, rl_fct (rl_fct fc1 (fun a b h1 h2 => fc3 a b (by omega))) (fc_look f).1, rfl, by rw [(fm_look g).2, fm3 _ _ (by omega) (by omega), t1], rl_fmt (rl_fmt fm1 (fun a b h => fm3 a b (by omega) (by omega))) (fm_look g).1, rl_up (rq_R (rq_look Q3 P' h6 f g)), by rw [(fc_look f).2, fc3 _ _ (by omega), f1 _ _ (by omega)]⟩
      · have hz1 : ¬ z = -1 := fun e => hz (Or.inl e)
        have hz2 : ¬ ∃ p, p < np ∧ z = nI p := fun e => hz (Or.inr e)
        refine op_no (e := 1) (k := 2) Q ?_ rfl (by decide) ?_
        · unfold f_X10_peer
          rw [pu_bxr nx, pu_bxr ny, if_neg hz1, pu_bxl (np_no Q.1 hz2)]
        · show f_X11_peer S (nI i) (nI s) z = _
          unfold f_X11_peer f_X11_peer_J25 f_X11_peer_J45 f_X11_peer_J88 f_X11_peer_J119
          rw [ix, pu_sb, if_neg (by decide), iy, pu_sb, if_neg (by decide), if_neg hz1, mp_isno Q.1.2.2.1 hn hz2, pu_sb, if_pos rfl, if_pos rfl, if_neg (by decide), if_pos rfl]
          exact pu_no (by decide) _ (if_pos rfl)
    · refine op_no (e := 0) (k := 1) Q ?_ rfl (by decide) ?_
      · unfold f_X10_peer
        have ny : f_X10_needBelow y 3 = some (.inl 0) := nb_no (n := 3) hy
        rw [pu_bxr nx, pu_bxl ny]
      · show f_X11_peer S (nI i) y z = _
        unfold f_X11_peer
        have iy : f_X11_isIn y 0 2 = some 0 := in_no (m := 2) (n := 3) (by omega) (by omega) hy
        rw [ix, pu_sb, if_neg (by decide), iy, pu_sb, if_pos rfl, mpeer_25 Q.1]
  · refine op_no (e := 0) (k := 1) Q ?_ rfl (by decide) ?_
    · unfold f_X10_peer
      have nx : f_X10_needBelow x 256 = some (.inl 0) := nb_no (n := 256) hx
      rw [pu_bxl nx]
    · show f_X11_peer S x y z = _
      unfold f_X11_peer
      have ix : f_X11_isIn x 0 255 = some 0 := in_no (m := 255) (n := 256) (by omega) (by omega) hx
      rw [ix, pu_sb, if_pos rfl, mpeer_25 Q.1]
end
