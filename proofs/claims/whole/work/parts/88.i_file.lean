/-! a file is made -/
theorem pz_k {S : ps_S} {n a b : Nat} (h : a ≠ n) : ps_z S n a b = S a b := by
  unfold ps_z
  rw [if_neg h]
theorem pz_same (S : ps_S) (n b : Nat) : ps_z S n n b = 0 := by
  unfold ps_z
  rw [if_pos rfl]
def pu_xr (g : Nat → Nat) : Nat → Nat
  | 0 => 0
  | n + 1 => pu_xr g n ^^^ g n
theorem xr_4 (g : Nat → Nat) : pu_xr g 4 = g 0 ^^^ g 1 ^^^ g 2 ^^^ g 3 := by
  show (((0 ^^^ g 0) ^^^ g 1) ^^^ g 2) ^^^ g 3 = _
  rw [Nat.zero_xor]
section
variable {np nf c B f o k : Nat} {id so on : Nat → Int32} {kp : Nat → Nat → List Nat} {C M C' M' S T C0 M0 : ps_S} {D : Nat → Nat → Nat} {ow : Nat → Nat}
def fi_d (p : Int32) (k : Nat) : Nat := pu_by (p >>> ((8 * nI k) &&& 31))
theorem fi_e (p : Int32) (k : Nat) : (p >>> ((8 * nI k) &&& 31)) &&& 255 = nI (fi_d p k) := pu_and255 _
theorem fi_lt (p : Int32) (k : Nat) : fi_d p k < 256 := pu_by_lt _
theorem cf_pieces (b0 : Nat) (C : ps_S) (p : Int32) : ∃ C', f_X0_pieces b0 C p = some C' ∧ (∀ i, i < 4 → C' (b0 + 4) i = nI (fi_d p i)) ∧ C' (b0 + 4) 4 = nI (pu_xr (fi_d p) 4) ∧ C' (b0 + 4) 5 = nI (pu_xr (fun i => pu_W i (fi_d p i)) 4) ∧ ∀ a b, a ≠ b0 + 4 → C' a b = C a b := by
  have loop := pu_ind0 (step := fun (a : ps_S × Int32 × Int32 × Int32) => f_X0_pieces_L12 b0 p a.1 a.2.1 a.2.2.1 a.2.2.2) (a := (ps_z C (b0 + 4), 0, 0, 0))
    (fun j a => a.2.2.2 = nI j ∧ a.2.1 = nI (pu_xr (fi_d p) j) ∧ a.2.2.1 = nI (pu_xr (fun i => pu_W i (fi_d p i)) j) ∧ (∀ i, i < j → a.1 (b0 + 4) i = nI (fi_d p i)) ∧ ∀ x y, x ≠ b0 + 4 → a.1 x y = C x y)
    (fun b => b.2.1 = nI (pu_xr (fi_d p) 4) ∧ b.2.2 = nI (pu_xr (fun i => pu_W i (fi_d p i)) 4) ∧ (∀ i, i < 4 → b.1 (b0 + 4) i = nI (fi_d p i)) ∧ ∀ x y, x ≠ b0 + 4 → b.1 x y = C x y) 4 (by omega) ⟨rfl, rfl, rfl, fun i hi => absurd hi (by omega), fun x y h => pz_k h⟩ ?_ ?_
  · obtain ⟨⟨T, u, v⟩, e, h1, h2, h3, h4⟩ := loop
    dsimp only at h1 h2 h3 h4
    refine ⟨ps_up (ps_up T (b0 + 4) 4 u) (b0 + 4) 5 v, ?_, fun i hi => ?_, ?_, ?_, fun a b h => ?_⟩
    · unfold f_X0_pieces
      rw [pu_b3 e]
      rfl
    · rw [pu_up_i (by omega), pu_up_i (by omega)]; exact h3 i hi
    · rw [pu_up_i (by omega), pu_up_same]; exact h1
    · rw [pu_up_same]; exact h2
    · rw [pu_up_k h, pu_up_k h]; exact h4 a b h
  · rintro j ⟨T, u, v, i⟩ hj ⟨hi, hu, hv, hs, fr⟩
    dsimp only at hi hu hv hs fr ⊢
    subst hi; subst hu; subst hv
    unfold f_X0_pieces_L12
    rw [if_neg (lit_ge (x := 4) (n := 4) rfl hj (by omega)), if_pos (pu_ib (by omega) (by omega)), nI_clamp (by omega), fi_e, wt_ok hj (fi_lt p j), pu_sb, pu_xor, pu_xor, nI_1]
    refine ⟨_, rfl, rfl, rfl, rfl, fun i hi => ?_, fun x y h => by rw [← fr x y h]; exact pu_up_k h⟩
    dsimp only
    by_cases e : i = j
    · rw [e, pu_up_same]
    · rw [pu_up_i e]; exact hs i (by omega)
  · rintro ⟨T, u, v, i⟩ ⟨hi, hu, hv, hs, fr⟩
    dsimp only at hi hu hv hs fr ⊢
    subst hi
    refine ⟨(T, u, v), ?_, hu, hv, hs, fr⟩
    unfold f_X0_pieces_L12
    rw [if_pos (by decide)]
theorem cf_tree (b0 : Nat) (C : ps_S) : ∃ C', f_X9_init b0 C = some C' ∧ rl_T (fun k => C (b0 + 4) k) (fun n => C' (b0 + 6) n) ∧ ∀ a b, a ≠ b0 + 6 → C' a b = C a b := by
  have l1 := pu_ind0 (step := fun (a : ps_S × Int32) => f_X9_init_L14 b0 a.1 a.2) (a := (ps_z C (b0 + 6), 0))
    (fun j a => a.2 = nI j ∧ (∀ i, i < j → a.1 (b0 + 6) (8 + i) = pu_h (C (b0 + 4) i) (nI i)) ∧ (∀ i, j ≤ i → a.1 (b0 + 6) (8 + i) = 0) ∧ ∀ x y, x ≠ b0 + 6 → a.1 x y = C x y)
    (fun b => (∀ i, i < 6 → b (b0 + 6) (8 + i) = pu_h (C (b0 + 4) i) (nI i)) ∧ (∀ i, 6 ≤ i → b (b0 + 6) (8 + i) = 0) ∧ ∀ x y, x ≠ b0 + 6 → b x y = C x y) 6 (by omega) ⟨rfl, fun i hi => absurd hi (by omega), fun i _ => pz_same _ _ _, fun x y h => pz_k h⟩ ?_ ?_
  · obtain ⟨M1, e1, z1, z0, f1⟩ := l1
    have l2 := pu_ind0 (step := fun (a : ps_S × Int32) => f_X9_init_L51 b0 a.1 a.2) (a := (M1, 7))
      (fun j a => a.2 = nI (7 - j) ∧ (∀ i, 8 ≤ i → a.1 (b0 + 6) i = M1 (b0 + 6) i) ∧ (∀ n, 7 - j < n → n < 8 → a.1 (b0 + 6) n = pu_h (a.1 (b0 + 6) (2 * n)) (a.1 (b0 + 6) (2 * n + 1))) ∧ ∀ x y, x ≠ b0 + 6 → a.1 x y = M1 x y)
      (fun b => (∀ i, 8 ≤ i → b (b0 + 6) i = M1 (b0 + 6) i) ∧ (∀ n, 0 < n → n < 8 → b (b0 + 6) n = pu_h (b (b0 + 6) (2 * n)) (b (b0 + 6) (2 * n + 1))) ∧ ∀ x y, x ≠ b0 + 6 → b x y = M1 x y) 7 (by omega) ⟨rfl, fun _ _ => rfl, fun n h1 h2 => absurd h1 (by omega), fun _ _ _ => rfl⟩ ?_ ?_
    · obtain ⟨M2, e2, z2, y2, f2⟩ := l2
      refine ⟨M2, ?_, ⟨fun k hk => ?_, ?_, ?_, y2⟩, fun a b h => (f2 a b h).trans (f1 a b h)⟩
      · unfold f_X9_init
        rw [e1, pu_sb, e2, pu_sb]
      · dsimp only
        rw [z2 _ (by omega), z1 k (by omega)]
      · dsimp only
        rw [z2 _ (by omega)]
        exact z0 6 (by omega)
      · dsimp only
        rw [z2 _ (by omega)]
        exact z0 7 (by omega)
    · rintro j ⟨T, v⟩ hj ⟨hv, h8, hn, fr⟩
      dsimp only at hv h8 hn fr ⊢
      subst hv
      obtain ⟨m, hm⟩ : ∃ m, 7 - j = m + 1 := ⟨6 - j, by omega⟩
      have hm7 : 7 - (j + 1) = m := by omega
      rw [hm, hm7]
      unfold f_X9_init_L51 f_X9_hash
      rw [if_neg (nI_nle (by omega) (by omega)), pu_2, nI_1, if_pos (pu_ib (by omega) (by omega)), if_pos (pu_ib (by omega) (by omega)), pu_sb, if_pos (pu_ib (by omega) (by omega)), nI_clamp (by omega), nI_clamp (by omega), nI_clamp (by omega), pu_dec]
      refine ⟨_, rfl, rfl, fun i hi => ?_, fun n h1 h2 => ?_, fun x y h => by rw [← fr x y h]; exact pu_up_k h⟩
      · dsimp only
        rw [pu_up_i (by omega)]; exact h8 i hi
      · dsimp only
        rw [pu_up_i (b := 2 * n) (by omega), pu_up_i (b := 2 * n + 1) (by omega)]
        by_cases e : n = m + 1
        · subst e
          rw [pu_up_same]
          rfl
        · rw [pu_up_i e]
          exact hn n (by omega) h2
    · rintro ⟨T, v⟩ ⟨hv, h8, hn, fr⟩
      dsimp only at hv h8 hn fr ⊢
      subst hv
      refine ⟨T, ?_, h8, fun n h1 h2 => hn n (by omega) h2, fr⟩
      unfold f_X9_init_L51
      rw [if_pos (by decide)]
  · rintro j ⟨T, v⟩ hj ⟨hv, hz, h0, fr⟩
    dsimp only at hv hz h0 fr ⊢
    subst hv
    unfold f_X9_init_L14 f_X9_hash
    rw [if_neg (lit_ge (x := 6) (n := 6) rfl hj (by omega)), if_neg (lit_ge (x := 6) (n := 6) rfl hj (by omega)), if_pos (pu_ib (by omega) (by omega)), pu_sb, show (8 : Int32) + nI j = nI (8 + j) from nI_add 8 j, if_pos (pu_ib (by omega) (by omega)), nI_clamp (by omega), nI_clamp (by omega), nI_1, fr _ _ (by omega)]
    refine ⟨_, rfl, rfl, fun i hi => ?_, fun i hi => ?_, fun x y h => by rw [← fr x y h]; exact pu_up_k h⟩
    · dsimp only
      by_cases e : i = j
      · rw [e, pu_up_same]; rfl
      · rw [pu_up_i (by omega)]; exact hz i (by omega)
    · dsimp only
      rw [pu_up_i (by omega)]; exact h0 i (by omega)
  · rintro ⟨T, v⟩ ⟨hv, hz, h0, fr⟩
    dsimp only at hv hz h0 fr ⊢
    subst hv
    refine ⟨T, ?_, hz, h0, fr⟩
    unfold f_X9_init_L14
    rw [if_pos (by decide)]
theorem cf_init (b0 : Nat) (C : ps_S) (p1 p2 : Int32) : ∃ C', f_X8_init b0 C p1 p2 = some C' ∧ C' b0 0 = p1 ∧ (∀ i, i < 6 → C' (b0 + 1) i = -1 ∧ C' (b0 + 2) i = 0 ∧ C' (b0 + 3) i = 0) ∧ (∀ i, i < 4 → C' (b0 + 4) i = nI (fi_d p2 i)) ∧ C' (b0 + 4) 4 = nI (pu_xr (fi_d p2) 4) ∧ C' (b0 + 4) 5 = nI (pu_xr (fun i => pu_W i (fi_d p2 i)) 4) ∧ rl_T (fun k => C' (b0 + 4) k) (fun n => C' (b0 + 6) n) ∧ ∀ a b, a < b0 → C' a b = C a b := by
  obtain ⟨C1, e1, p1v, p4, p5, f1⟩ := cf_pieces b0 (ps_z (ps_z (ps_z C (b0 + 1)) (b0 + 2)) (b0 + 3)) p2
  obtain ⟨C2, e2, t2, f2⟩ := cf_tree b0 (ps_z (ps_up C1 b0 0 p1) (b0 + 5))
  have g2 : ∀ a b, a ≠ b0 → a ≠ b0 + 5 → a ≠ b0 + 6 → C2 a b = C1 a b := fun a b h1 h2 h3 => by
    rw [f2 a b h3]
    unfold ps_z
    rw [if_neg h2]
    exact pu_up_k h1
  have loop := pu_ind0 (step := fun (a : ps_S × Int32) => f_X8_init_L58 b0 a.1 a.2) (a := (C2, 0))
    (fun j a => a.2 = nI j ∧ (∀ i, i < j → a.1 (b0 + 1) i = -1) ∧ ∀ x y, x ≠ b0 + 1 → a.1 x y = C2 x y)
    (fun b => (∀ i, i < 6 → b (b0 + 1) i = -1) ∧ ∀ x y, x ≠ b0 + 1 → b x y = C2 x y) 6 (by omega) ⟨rfl, fun i hi => absurd hi (by omega), fun _ _ _ => rfl⟩ ?_ ?_
  · obtain ⟨C3, e3, h3, f3⟩ := loop
    have z2 : ∀ i, C3 (b0 + 2) i = 0 := fun i => by
      rw [f3 _ _ (by omega), g2 _ _ (by omega) (by omega) (by omega), f1 _ _ (by omega)]
      unfold ps_z
      rw [if_neg (by omega), if_pos rfl]
    have z3 : ∀ i, C3 (b0 + 3) i = 0 := fun i => by
      rw [f3 _ _ (by omega), g2 _ _ (by omega) (by omega) (by omega), f1 _ _ (by omega)]
      unfold ps_z
      rw [if_pos rfl]
    have v4 : ∀ i, C3 (b0 + 4) i = C1 (b0 + 4) i := fun i => by rw [f3 _ _ (by omega), g2 _ _ (by omega) (by omega) (by omega)]
    refine ⟨C3, ?_, ?_, fun i hi => ⟨h3 i hi, z2 i, z3 i⟩, fun i hi => by rw [v4]; exact p1v i hi, by rw [v4]; exact p4, by rw [v4]; exact p5, ?_, fun a b h => ?_⟩
    · unfold f_X8_init
      rw [e1, pu_sb, e2, pu_sb, e3, pu_sb]
    · rw [f3 _ _ (by omega), f2 _ _ (by omega)]
      unfold ps_z
      rw [if_neg (by omega), pu_up_same]
    · have e4 : (fun k => C3 (b0 + 4) k) = fun k => ps_z (ps_up C1 b0 0 p1) (b0 + 5) (b0 + 4) k := funext fun k => by
        rw [v4]
        unfold ps_z
        rw [if_neg (by omega), pu_up_k (by omega)]
      have e6 : (fun n => C3 (b0 + 6) n) = fun n => C2 (b0 + 6) n := funext fun n => f3 _ _ (by omega)
      rw [e4, e6]
      exact t2
    · rw [f3 _ _ (by omega), g2 _ _ (by omega) (by omega) (by omega), f1 _ _ (by omega)]
      unfold ps_z
      rw [if_neg (by omega), if_neg (by omega), if_neg (by omega)]
  · rintro j ⟨T, v⟩ hj ⟨hv, hz, fr⟩
    dsimp only at hv hz fr ⊢
    subst hv
    unfold f_X8_init_L58
    rw [if_neg (lit_ge (x := 6) (n := 6) rfl hj (by omega)), if_pos (pu_ib (by omega) (by omega)), nI_clamp (by omega), nI_1]
    refine ⟨_, rfl, rfl, fun i hi => ?_, fun x y h => by rw [← fr x y h]; exact pu_up_k h⟩
    dsimp only
    by_cases e : i = j
    · rw [e, pu_up_same]
    · rw [pu_up_i e]; exact hz i (by omega)
  · rintro ⟨T, v⟩ ⟨hv, hz, fr⟩
    dsimp only at hv hz fr ⊢
    subst hv
    refine ⟨T, ?_, hz, fr⟩
    unfold f_X8_init_L58
    rw [if_pos (by decide)]
/-- the reference's file, before it is stored -/
theorem mf_init (M : ps_S) (hf : f < 12) (p1 p2 : Int32) : ∃ M1 M2, ps_it (fun (a : ps_S × Int32) => f_X11_file_L100 p2 (nI (6 * f)) a.1 a.2) ps_fu (ps_up (ps_up (ps_up (ps_up M 80 15 (nI (f + 1))) 91 f p1) 92 (6 * f + 4) 0) 92 (6 * f + 5) 0, 0) = some M1 ∧ ps_it (fun (a : ps_S × Int32) => f_X11_file_L175 (nI (6 * f)) a.1 a.2) ps_fu (M1, 0) = some M2 ∧ M2 80 15 = nI (f + 1) ∧ M2 91 f = p1 ∧ (∀ i, i < 6 → M2 93 (6 * f + i) = -1) ∧ (∀ i, i < 4 → M2 92 (6 * f + i) = nI (fi_d p2 i)) ∧ M2 92 (6 * f + 4) = nI (pu_xr (fi_d p2) 4) ∧ M2 92 (6 * f + 5) = nI (pu_xr (fun i => pu_W i (fi_d p2 i)) 4) ∧ ∀ a b, ¬ (a = 80 ∧ b = 15) → ¬ (a = 91 ∧ b = f) → ¬ ((a = 92 ∨ a = 93) ∧ 6 * f ≤ b ∧ b < 6 * f + 6) → M2 a b = M a b := by
  obtain ⟨M0, hM0⟩ : ∃ M0, M0 = ps_up (ps_up (ps_up (ps_up M 80 15 (nI (f + 1))) 91 f p1) 92 (6 * f + 4) 0) 92 (6 * f + 5) 0 := ⟨_, rfl⟩
  rw [← hM0]
  have l1 := pu_ind0 (step := fun (a : ps_S × Int32) => f_X11_file_L100 p2 (nI (6 * f)) a.1 a.2) (a := (M0, 0))
    (fun j a => a.2 = nI j ∧ (∀ i, i < j → a.1 92 (6 * f + i) = nI (fi_d p2 i)) ∧ a.1 92 (6 * f + 4) = nI (pu_xr (fi_d p2) j) ∧ a.1 92 (6 * f + 5) = nI (pu_xr (fun i => pu_W i (fi_d p2 i)) j) ∧ ∀ x y, ¬ (x = 92 ∧ 6 * f ≤ y ∧ y < 6 * f + 6) → a.1 x y = M0 x y)
    (fun b => (∀ i, i < 4 → b 92 (6 * f + i) = nI (fi_d p2 i)) ∧ b 92 (6 * f + 4) = nI (pu_xr (fi_d p2) 4) ∧ b 92 (6 * f + 5) = nI (pu_xr (fun i => pu_W i (fi_d p2 i)) 4) ∧ ∀ x y, ¬ (x = 92 ∧ 6 * f ≤ y ∧ y < 6 * f + 6) → b x y = M0 x y) 4 (by omega) ⟨rfl, fun i hi => absurd hi (by omega), by dsimp only; rw [hM0, pu_up_i (by omega), pu_up_same]; rfl, by dsimp only; rw [hM0, pu_up_same]; rfl, fun _ _ _ => rfl⟩ ?_ ?_
  · obtain ⟨M1, e1, a1, a4, a5, f1⟩ := l1
    have l2 := pu_ind0 (step := fun (a : ps_S × Int32) => f_X11_file_L175 (nI (6 * f)) a.1 a.2) (a := (M1, 0))
      (fun j a => a.2 = nI j ∧ (∀ i, i < j → a.1 93 (6 * f + i) = -1) ∧ ∀ x y, ¬ (x = 93 ∧ 6 * f ≤ y ∧ y < 6 * f + 6) → a.1 x y = M1 x y)
      (fun b => (∀ i, i < 6 → b 93 (6 * f + i) = -1) ∧ ∀ x y, ¬ (x = 93 ∧ 6 * f ≤ y ∧ y < 6 * f + 6) → b x y = M1 x y) 6 (by omega) ⟨rfl, fun i hi => absurd hi (by omega), fun _ _ _ => rfl⟩ ?_ ?_
    · obtain ⟨M2, e2, b1, f2⟩ := l2
      refine ⟨M1, M2, e1, e2, ?_, ?_, b1, fun i hi => by rw [f2 _ _ (by omega)]; exact a1 i hi, by rw [f2 _ _ (by omega)]; exact a4, by rw [f2 _ _ (by omega)]; exact a5, fun a b h1 h2 h3 => ?_⟩
      · rw [f2 _ _ (by omega), f1 _ _ (by omega), hM0, pu_up_k (by omega), pu_up_k (by omega), pu_up_k (by omega), pu_up_same]
      · rw [f2 _ _ (by omega), f1 _ _ (by omega), hM0, pu_up_k (by omega), pu_up_k (by omega), pu_up_same]
      · rw [f2 _ _ (by omega), f1 _ _ (by omega), hM0]
        unfold ps_up
        rw [if_neg (by omega), if_neg (by omega), if_neg (by omega), if_neg (by omega)]
    · rintro j ⟨T, v⟩ hj ⟨hv, hz, fr⟩
      dsimp only at hv hz fr ⊢
      subst hv
      unfold f_X11_file_L175
      rw [if_neg (lit_ge (x := 6) (n := 6) rfl hj (by omega)), nI_add, if_pos (pu_ib (by omega) (by omega)), nI_clamp (by omega), nI_1]
      refine ⟨_, rfl, rfl, fun i hi => ?_, fun x y h => ?_⟩
      · dsimp only
        by_cases e : i = j
        · rw [e, pu_up_same]
        · rw [pu_up_i (by omega)]; exact hz i (by omega)
      · dsimp only
        rw [← fr x y h]
        exact if_neg (by omega)
    · rintro ⟨T, v⟩ ⟨hv, hz, fr⟩
      dsimp only at hv hz fr ⊢
      subst hv
      refine ⟨T, ?_, hz, fr⟩
      unfold f_X11_file_L175
      rw [if_pos (by decide)]
  · rintro j ⟨T, v⟩ hj ⟨hv, hz, h4, h5, fr⟩
    dsimp only at hv hz h4 h5 fr ⊢
    subst hv
    have pw : (1 : Int32) <<< (nI j &&& 31) = nI (2 ^ j) := pw_C ⟨j, hj⟩
    have tm : f_X11_times (nI (fi_d p2 j)) (nI (2 ^ j)) = some (nI (pu_W j (fi_d p2 j))) := tm_M ⟨j, hj⟩ ⟨fi_d p2 j, fi_lt p2 j⟩
    have n4 : nI (6 * f) + 4 = nI (6 * f + 4) := nI_add _ 4
    have n5 : nI (6 * f) + 5 = nI (6 * f + 5) := nI_add _ 5
    unfold f_X11_file_L100
    rw [if_neg (lit_ge (x := 4) (n := 4) rfl hj (by omega)), nI_add, n4, n5, if_pos (pu_ib (by omega) (by omega)), if_pos (pu_ib (by omega) (by omega)), if_pos (pu_ib (by omega) (by omega)), if_pos (pu_ib (by omega) (by omega)), fi_e, pw, tm, pu_sb, if_pos (pu_ib (by omega) (by omega)), nI_clamp (by omega), nI_clamp (by omega), nI_clamp (by omega), nI_1]
    have g4 : ps_up T 92 (6 * f + j) (nI (fi_d p2 j)) 92 (6 * f + 4) = nI (pu_xr (fi_d p2) j) := by rw [pu_up_i (by omega)]; exact h4
    rw [g4, pu_xor]
    have g5 : ps_up (ps_up T 92 (6 * f + j) (nI (fi_d p2 j))) 92 (6 * f + 4) (nI (pu_xr (fi_d p2) j ^^^ fi_d p2 j)) 92 (6 * f + 5) = nI (pu_xr (fun i => pu_W i (fi_d p2 i)) j) := by rw [pu_up_i (by omega), pu_up_i (by omega)]; exact h5
    rw [g5, pu_xor]
    refine ⟨_, rfl, rfl, fun i hi => ?_, ?_, ?_, fun x y h => ?_⟩
    · dsimp only
      rw [pu_up_i (by omega), pu_up_i (by omega)]
      by_cases e : i = j
      · rw [e, pu_up_same]
      · rw [pu_up_i (by omega)]; exact hz i (by omega)
    · dsimp only
      rw [pu_up_i (by omega), pu_up_same]
      rfl
    · dsimp only
      rw [pu_up_same]
      rfl
    · dsimp only
      rw [← fr x y h]
      unfold ps_up
      rw [if_neg (by omega), if_neg (by omega), if_neg (by omega)]
  · rintro ⟨T, v⟩ ⟨hv, hz, h4, h5, fr⟩
    dsimp only at hv hz h4 h5 fr ⊢
    subst hv
    refine ⟨T, ?_, hz, h4, h5, fr⟩
    unfold f_X11_file_L100
    rw [if_pos (by decide)]
theorem rv_congr2 (h : rl_V np f o C M) (hc : ∀ a b, a = 103 + 7 * f ∨ a = 107 + 7 * f ∨ a = 109 + 7 * f → C' a b = C a b) (h91 : M' 91 f = M 91 f) (hm : ∀ b, 6 * f ≤ b → b < 6 * f + 6 → M' 92 b = M 92 b) : rl_V np f o C' M' := by
  unfold rl_V at h ⊢
  obtain ⟨⟨h1, h2, h3⟩, ⟨d, d1, d2, d3, d4⟩, h4, h5⟩ := h
  refine ⟨⟨h1, by rw [hc _ _ (by omega)]; exact h2, by rw [h91]; exact h3⟩, ⟨d, d1, fun i hi => by rw [hm _ (by omega) (by omega)]; exact d2 i hi, by rw [hm _ (by omega) (by omega)]; exact d3, by rw [hm _ (by omega) (by omega)]; exact d4⟩, fun k hk => by rw [hc _ _ (by omega), hm _ (by omega) (by omega)]; exact h4 k hk, ?_⟩
  have e1 : (fun k => C' (107 + 7 * f) k) = fun k => C (107 + 7 * f) k := funext fun k => hc _ _ (by omega)
  have e2 : (fun k => C' (109 + 7 * f) k) = fun k => C (109 + 7 * f) k := funext fun k => hc _ _ (by omega)
  rw [e1, e2]
  exact h5
end
