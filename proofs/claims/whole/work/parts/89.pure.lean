/-! the start, and every run of calls -/
def in_Z (S : ps_S) : Prop := ∀ a b, S a b = 0
theorem in_z {S : ps_S} {n a b : Nat} (h : S a b = 0) : ps_z S n a b = 0 := by
  unfold ps_z
  by_cases e : a = n
  · rw [if_pos e]
  · rw [if_neg e]; exact h
theorem in_Zz {S : ps_S} (n : Nat) (h : in_Z S) : in_Z (ps_z S n) := fun a b => in_z (h a b)
theorem in_Zzz {S : ps_S} (n m : Nat) (h : in_Z S) : in_Z (ps_zz S n m) := fun a b => by
  unfold ps_zz
  by_cases e : n ≤ a ∧ a < n + m
  · rw [if_pos e]
  · rw [if_neg e]; exact h a b
theorem in_0 : in_Z (fun _ _ => 0) := fun _ _ => rfl
theorem in_names (T : ps_S) (hT : in_Z T) : ∃ S', f_X4_init T = some S' ∧ (∀ k, k < 256 → S' 60 k = -1 ∧ ∀ p, p < 16 → S' (62 + p) k = -1) ∧ ∀ x y, x ≠ 60 → ¬ (62 ≤ x ∧ x < 78) → S' x y = 0 := by
  have hB : in_Z (ps_zz (ps_z T 60) 61 17) := in_Zzz _ _ (in_Zz _ hT)
  have l1 := pu_ind0 (step := fun (a : ps_S × Int32) => f_X4_init_L28 a.1 a.2) (a := (ps_zz (ps_z T 60) 61 17, 0))
    (fun j a => a.2 = nI j ∧ (∀ k, k < j → a.1 60 k = -1 ∧ ∀ p, p < 16 → a.1 (62 + p) k = -1) ∧ ∀ x y, x ≠ 60 → ¬ (62 ≤ x ∧ x < 78) → a.1 x y = 0)
    (fun b => (∀ k, k < 256 → b 60 k = -1 ∧ ∀ p, p < 16 → b (62 + p) k = -1) ∧ ∀ x y, x ≠ 60 → ¬ (62 ≤ x ∧ x < 78) → b x y = 0) 256 (by omega) ⟨rfl, fun k hk => absurd hk (by omega), fun x y _ _ => hB x y⟩ ?_ ?_
  · obtain ⟨S', e, h1, h2⟩ := l1
    refine ⟨S', ?_, h1, h2⟩
    unfold f_X4_init
    rw [e, pu_sb]
  · rintro j ⟨U, v⟩ hj ⟨hv, h1, h2⟩
    dsimp only at hv h1 h2 ⊢
    subst hv
    unfold f_X4_init_L28
    rw [if_neg (lit_ge (x := 256) (n := 256) rfl hj (by omega)), if_pos (pu_ib (by omega) (by omega)), nI_clamp (by omega)]
    have l2 := pu_ind0 (step := fun (a : ps_S × Int32) => f_X4_init_L44 (nI j) a.1 a.2) (a := (ps_up U 60 j (-1), 0))
      (fun i a => a.2 = nI i ∧ (∀ p, p < i → a.1 (62 + p) j = -1) ∧ ∀ x y, ¬ (62 ≤ x ∧ x < 78 ∧ y = j) → a.1 x y = ps_up U 60 j (-1) x y)
      (fun b => (∀ p, p < 16 → b (62 + p) j = -1) ∧ ∀ x y, ¬ (62 ≤ x ∧ x < 78 ∧ y = j) → b x y = ps_up U 60 j (-1) x y) 16 (by omega) ⟨rfl, fun p hp => absurd hp (by omega), fun _ _ _ => rfl⟩ ?_ ?_
    · obtain ⟨V, e, g1, g2⟩ := l2
      rw [e, pu_sb, nI_1]
      refine ⟨_, rfl, rfl, fun k hk => ?_, fun x y hx hy => ?_⟩
      · dsimp only
        by_cases ek : k = j
        · subst ek
          exact ⟨by rw [g2 _ _ (by omega), pu_up_same], g1⟩
        · refine ⟨by rw [g2 _ _ (by omega), pu_up_i ek]; exact (h1 k (by omega)).1, fun p hp => ?_⟩
          rw [g2 _ _ (by omega), pu_up_k (by omega)]
          exact (h1 k (by omega)).2 p hp
      · dsimp only
        rw [g2 _ _ (by omega), pu_up_k hx]
        exact h2 x y hx hy
    · rintro i ⟨V, w⟩ hi ⟨hw, g1, g2⟩
      dsimp only at hw g1 g2 ⊢
      subst hw
      unfold f_X4_init_L44
      rw [if_neg (by rw [pu_i16]; exact nI_ge hi (by omega)), if_pos (pu_ib (by omega) (by omega)), if_pos (pu_ib (by omega) (by omega)), nI_clamp (n := i) (by omega), nI_clamp (n := j) (by omega), nI_1]
      refine ⟨_, rfl, rfl, fun p hp => ?_, fun x y h => ?_⟩
      · dsimp only
        by_cases ep : p = i
        · rw [ep, pu_up_same]
        · rw [pu_up_k (by omega)]; exact g1 p (by omega)
      · dsimp only
        rw [← g2 x y h]
        exact if_neg (by omega)
    · rintro ⟨V, w⟩ ⟨hw, g1, g2⟩
      dsimp only at hw g1 g2 ⊢
      subst hw
      refine ⟨V, ?_, g1, g2⟩
      unfold f_X4_init_L44
      rw [if_pos (by decide)]
  · rintro ⟨U, v⟩ ⟨hv, h1, h2⟩
    dsimp only at hv h1 h2 ⊢
    subst hv
    refine ⟨U, ?_, h1, h2⟩
    unfold f_X4_init_L28
    rw [if_pos (by decide)]
theorem in_C : ∃ S1, f_X10_init (ps_z (fun _ _ => 0) 0) = some S1 ∧ (∀ k, k < 256 → S1 60 k = -1 ∧ ∀ p, p < 16 → S1 (62 + p) k = -1) ∧ ∀ x y, x ≠ 60 → ¬ (62 ≤ x ∧ x < 78) → S1 x y = 0 := by
  have key : ∀ T, in_Z T → ∃ S1, (f_X4_init T).bind (fun S83 => some (ps_z (ps_z S83 78) 79)) = some S1 ∧ (∀ k, k < 256 → S1 60 k = -1 ∧ ∀ p, p < 16 → S1 (62 + p) k = -1) ∧ ∀ x y, x ≠ 60 → ¬ (62 ≤ x ∧ x < 78) → S1 x y = 0 := by
    intro T hT
    obtain ⟨S', e, h1, h2⟩ := in_names T hT
    refine ⟨_, by rw [e]; rfl, fun k hk => ⟨?_, fun p hp => ?_⟩, fun x y hx hy => in_z (in_z (h2 x y hx hy))⟩
    · rw [pz_k (by omega), pz_k (by omega)]; exact (h1 k hk).1
    · rw [pz_k (by omega), pz_k (by omega)]; exact (h1 k hk).2 p hp
  unfold f_X10_init f_X5_init f_X7_init f_X6_init_23 f_X6_init_26 f_X6_init_29 f_X6_init_32 f_X2_init f_X6_init_54 f_X1_init f_X3_init
  simp only [pu_sb]
  exact key _ (by repeat (first | exact in_0 | apply in_Zz | apply in_Zzz))
theorem in_M (S1 : ps_S) : ∃ S2, f_X11_init (ps_z S1 80) = some S2 ∧ (∀ k, k < 256 → S2 97 k = -1) ∧ (∀ k, k < 4096 → S2 98 k = -1) ∧ (∀ x y, x ≠ 97 → x ≠ 98 → S1 x y = 0 → S2 x y = 0) ∧ ∀ x y, x < 80 → S2 x y = S1 x y := by
  unfold f_X11_init
  obtain ⟨T, hT⟩ : ∃ T, T = ps_z (ps_z (ps_z (ps_z (ps_z (ps_z (ps_z (ps_z (ps_z (ps_z (ps_z (ps_z (ps_z (ps_z (ps_z (ps_z (ps_z (ps_z (ps_z (ps_z (ps_z (ps_z S1 80) 81) 82) 83) 84) 85) 86) 87) 88) 89) 90) 91) 92) 93) 94) 95) 96) 97) 98) 99) 100) 101 := ⟨_, rfl⟩
  rw [← hT]
  have z1 : ∀ x y, S1 x y = 0 → T x y = 0 := fun x y h => by
    rw [hT]
    repeat (first | exact h | apply in_z)
  have z2 : ∀ x y, x < 80 → T x y = S1 x y := fun x y h => by
    rw [hT]
    iterate 22 rw [pz_k (by omega)]
  have l1 := pu_ind0 (step := fun (a : ps_S × Int32) => f_X11_init_L178 a.1 a.2) (a := (T, 0))
    (fun j a => a.2 = nI j ∧ (∀ k, k < j → a.1 97 k = -1) ∧ ∀ x y, x ≠ 97 → a.1 x y = T x y)
    (fun b => (∀ k, k < 256 → b 97 k = -1) ∧ ∀ x y, x ≠ 97 → b x y = T x y) 256 (by omega) ⟨rfl, fun k hk => absurd hk (by omega), fun _ _ _ => rfl⟩ ?_ ?_
  · obtain ⟨U, e1, h1, f1⟩ := l1
    have l2 := pu_ind0 (step := fun (a : ps_S × Int32) => f_X11_init_L200 a.1 a.2) (a := (U, 0))
      (fun j a => a.2 = nI j ∧ (∀ k, k < j → a.1 98 k = -1) ∧ ∀ x y, x ≠ 98 → a.1 x y = U x y)
      (fun b => (∀ k, k < 4096 → b 98 k = -1) ∧ ∀ x y, x ≠ 98 → b x y = U x y) 4096 (by omega) ⟨rfl, fun k hk => absurd hk (by omega), fun _ _ _ => rfl⟩ ?_ ?_
    · obtain ⟨V, e2, h2, f2⟩ := l2
      refine ⟨V, ?_, fun k hk => by rw [f2 _ _ (by omega)]; exact h1 k hk, h2, fun x y hx hx2 h => by rw [f2 x y hx2, f1 x y hx]; exact z1 x y h, fun x y h => by rw [f2 x y (by omega), f1 x y (by omega)]; exact z2 x y h⟩
      rw [e1, pu_sb, e2, pu_sb]
    · rintro j ⟨V, v⟩ hj ⟨hv, hz, fr⟩
      dsimp only at hv hz fr ⊢
      subst hv
      unfold f_X11_init_L200
      rw [if_neg (lit_ge (x := 4096) (n := 4096) rfl hj (by omega)), if_pos (pu_ib (by omega) (by omega)), nI_clamp (by omega), nI_1]
      refine ⟨_, rfl, rfl, fun k hk => ?_, fun x y h => by rw [← fr x y h]; exact pu_up_k h⟩
      dsimp only
      by_cases e : k = j
      · rw [e, pu_up_same]
      · rw [pu_up_i e]; exact hz k (by omega)
    · rintro ⟨V, v⟩ ⟨hv, hz, fr⟩
      dsimp only at hv hz fr ⊢
      subst hv
      refine ⟨V, ?_, hz, fr⟩
      unfold f_X11_init_L200
      rw [if_pos (by decide)]
  · rintro j ⟨V, v⟩ hj ⟨hv, hz, fr⟩
    dsimp only at hv hz fr ⊢
    subst hv
    unfold f_X11_init_L178
    rw [if_neg (lit_ge (x := 256) (n := 256) rfl hj (by omega)), if_pos (pu_ib (by omega) (by omega)), nI_clamp (by omega), nI_1]
    refine ⟨_, rfl, rfl, fun k hk => ?_, fun x y h => by rw [← fr x y h]; exact pu_up_k h⟩
    dsimp only
    by_cases e : k = j
    · rw [e, pu_up_same]
    · rw [pu_up_i e]; exact hz k (by omega)
  · rintro ⟨V, v⟩ ⟨hv, hz, fr⟩
    dsimp only at hv hz fr ⊢
    subst hv
    refine ⟨V, ?_, hz, fr⟩
    unfold f_X11_init_L178
    rw [if_pos (by decide)]
/-- the start holds -/
theorem in_R {S1 S2 : ps_S} (a1 : ∀ k, k < 256 → S1 60 k = -1 ∧ ∀ p, p < 16 → S1 (62 + p) k = -1) (a2 : ∀ x y, x ≠ 60 → ¬ (62 ≤ x ∧ x < 78) → S1 x y = 0) (b1 : ∀ k, k < 256 → S2 97 k = -1) (b2 : ∀ k, k < 4096 → S2 98 k = -1) (b3 : ∀ x y, x ≠ 97 → x ≠ 98 → S1 x y = 0 → S2 x y = 0) (b4 : ∀ x y, x < 80 → S2 x y = S1 x y) : rl_R 0 (ps_z S2 102) (ps_z S2 102) ∧ ps_z S2 102 0 8 = 0 := by
  have z : ∀ x y, x ≠ 60 → ¬ (62 ≤ x ∧ x < 78) → x ≠ 97 → x ≠ 98 → ps_z S2 102 x y = 0 := fun x y h1 h2 h3 h4 => in_z (b3 x y h3 h4 (a2 x y h1 h2))
  have n60 : ∀ k, k < 256 → ps_z S2 102 60 k = -1 := fun k hk => by rw [pz_k (by omega), b4 _ _ (by omega)]; exact (a1 k hk).1
  have n62 : ∀ p k, p < 16 → k < 256 → ps_z S2 102 (62 + p) k = -1 := fun p k hp hk => by rw [pz_k (by omega), b4 _ _ (by omega)]; exact (a1 k hk).2 p hp
  have n97 : ∀ k, k < 256 → ps_z S2 102 97 k = -1 := fun k hk => by rw [pz_k (by omega)]; exact b1 k hk
  have n98 : ∀ k, k < 4096 → ps_z S2 102 98 k = -1 := fun k hk => by rw [pz_k (by omega)]; exact b2 k hk
  generalize ps_z S2 102 = W at z n60 n62 n97 n98 ⊢
  have zz : ∀ x y, x ≠ 60 → ¬ (62 ≤ x ∧ x < 78) → x ≠ 97 → x ≠ 98 → W x y = nI 0 := z
  refine ⟨⟨0, fun _ => 0, fun _ => 0, fun _ => 0, fun _ _ => [], 0, fun _ => 0, fun _ _ => 0, ⟨⟨by omega, fun p hp => absurd hp (by omega), fun p q hp => absurd hp (by omega), fun p hp => absurd hp (by omega), fun p hp => absurd hp (by omega)⟩, ⟨zz 1 4 (by omega) (by omega) (by omega) (by omega), fun p hp => absurd hp (by omega)⟩, ⟨zz 80 2 (by omega) (by omega) (by omega) (by omega), fun p hp => absurd hp (by omega), fun p _ _ b _ => z 85 _ (by omega) (by omega) (by omega) (by omega)⟩⟩, ⟨?_, ?_, 0, by omega, zz 0 9 (by omega) (by omega) (by omega) (by omega), Or.inl (zz 80 1 (by omega) (by omega) (by omega) (by omega))⟩, ⟨fun k hk => by rw [n60 k hk, n97 k hk], fun p k hp hk => Or.inl ⟨n62 p k hp hk, n98 _ (by omega)⟩⟩, ⟨fun p q hp hq => ⟨zz _ _ (by omega) (by omega) (by omega) (by omega), zz _ _ (by omega) (by omega) (by omega) (by omega), Nat.le_refl _⟩, fun _ _ _ => rfl⟩, ⟨by omega, zz 0 8 (by omega) (by omega) (by omega) (by omega), zz 80 15 (by omega) (by omega) (by omega) (by omega)⟩, fun i hi => ⟨fun h => absurd h (by omega), fun _ => z 57 i (by omega) (by omega) (by omega) (by omega)⟩, fun f hf => absurd hf (by omega), fun i _ _ => ⟨z 94 i (by omega) (by omega) (by omega) (by omega), z 95 i (by omega) (by omega) (by omega) (by omega)⟩⟩, z 0 8 (by omega) (by omega) (by omega) (by omega)⟩
  · rw [z 22 6 (by omega) (by omega) (by omega) (by omega), z 80 14 (by omega) (by omega) (by omega) (by omega)]
  · rw [z 78 2 (by omega) (by omega) (by omega) (by omega), z 80 26 (by omega) (by omega) (by omega) (by omega)]
theorem op_call {k : Nat} {S : ps_S} (R : rl_R k S S) (hk : k ≤ 511) (a0 a1 a2 a3 a4 a5 a6 : Int32) : ∃ S9, f_call S a0 a1 a2 a3 a4 a5 a6 = some S9 ∧ rl_R (k + 1) S9 S9 := by
  obtain ⟨np, id, so, on, kp, nf, ow, D, Q⟩ := R
  unfold f_call f_op
  generalize a0 &&& 31 = x
  have fin : ∀ z, ¬ x = 6 → op_K k S z → ∃ S9, (z.bind fun S9 => if x = 6 then (f_L_file (ps_n S) S a1 a2).bind fun q => if ps_n S9 = (if q.1 = 0 then ps_n S + 7 else ps_n S) then some S9 else none else if ps_n S9 = ps_n S then some S9 else none) = some S9 ∧ rl_R (k + 1) S9 S9 := by
    rintro z hx ⟨S9, h1, h2, h3⟩
    refine ⟨S9, ?_, h2⟩
    rw [h1, pu_sb, if_neg hx, if_pos (by unfold ps_n; rw [h3])]
  by_cases h0 : x = 0
  · rw [if_pos h0]
    exact fin _ (by rw [h0]; decide) (op_peer Q a1 a2 a3)
  rw [if_neg h0]
  by_cases h1 : x = 1
  · rw [if_pos h1]
    exact fin _ (by rw [h1]; decide) (op_turn Q a1 a2)
  rw [if_neg h1]
  by_cases h2 : x = 2
  · rw [if_pos h2]
    exact fin _ (by rw [h2]; decide) (op_bucket Q a1 a2 a3)
  rw [if_neg h2]
  by_cases h3 : x = 3
  · rw [if_pos h3]
    exact fin _ (by rw [h3]; decide) (op_lookup Q a1 a2 a3)
  rw [if_neg h3]
  by_cases h4 : x = 4
  · rw [if_pos h4]
    exact fin _ (by rw [h4]; decide) (op_asked Q)
  rw [if_neg h4]
  by_cases h5 : x = 5
  · rw [if_pos h5]
    exact fin _ (by rw [h5]; decide) (op_closest Q a1 a2)
  rw [if_neg h5]
  by_cases h6 : x = 6
  · rw [if_pos h6]
    obtain ⟨S9, q, e1, e2, e3, e4⟩ := op_file Q a1 a2
    refine ⟨S9, ?_, e2⟩
    rw [e1, pu_sb, if_pos h6, e3, pu_sb, if_pos e4]
  rw [if_neg h6]
  by_cases h7 : x = 7
  · rw [if_pos h7]
    exact fin _ (by rw [h7]; decide) (op_piece Q a1 a2 a3)
  rw [if_neg h7]
  by_cases h8 : x = 8
  · rw [if_pos h8]
    exact fin _ (by rw [h8]; decide) (op_spoil Q a1 a2)
  rw [if_neg h8]
  by_cases h9 : x = 9
  · rw [if_pos h9]
    exact fin _ (by rw [h9]; decide) (op_root Q a1)
  rw [if_neg h9]
  by_cases h10 : x = 10
  · rw [if_pos h10]
    exact fin _ (by rw [h10]; decide) (op_proof Q a1 a2 a3)
  rw [if_neg h10]
  by_cases h11 : x = 11
  · rw [if_pos h11]
    exact fin _ (by rw [h11]; decide) (op_isProved Q a1 a2 a3 a4 a5 a6)
  rw [if_neg h11]
  by_cases h12 : x = 12
  · rw [if_pos h12]
    exact fin _ (by rw [h12]; decide) (op_mend Q a1 a2)
  rw [if_neg h12]
  by_cases h13 : x = 13
  · rw [if_pos h13]
    exact fin _ (by rw [h13]; decide) (op_fetch Q a1 a2)
  rw [if_neg h13]
  by_cases h14 : x = 14
  · rw [if_pos h14]
    exact fin _ (by rw [h14]; decide) (op_pass Q (by omega))
  rw [if_neg h14]
  by_cases h15 : x = 15
  · rw [if_pos h15]
    exact fin _ (by rw [h15]; decide) (op_tell Q a1 a2 a3 a4)
  rw [if_neg h15]
  by_cases h16 : x = 16
  · rw [if_pos h16]
    exact fin _ (by rw [h16]; decide) (op_name Q a1 a2)
  rw [if_neg h16]
  by_cases h17 : x = 17
  · rw [if_pos h17]
    exact fin _ (by rw [h17]; decide) (op_spread Q a1)
  rw [if_neg h17]
  by_cases h18 : x = 18
  · rw [if_pos h18]
    exact fin _ (by rw [h18]; decide) (op_rounds Q)
  rw [if_neg h18]
  by_cases h19 : x = 19
  · rw [if_pos h19]
    exact fin _ (by rw [h19]; decide) (op_owes Q a1 a2)
  rw [if_neg h19]
  by_cases h20 : x = 20
  · rw [if_pos h20]
    exact fin _ (by rw [h20]; decide) (op_net Q (by omega))
  rw [if_neg h20]
  by_cases h21 : x = 21
  · rw [if_pos h21]
    exact fin _ (by rw [h21]; decide) (op_worth Q a1)
  rw [if_neg h21]
  exact fin _ h6 ⟨S, rfl, rl_up ⟨np, id, so, on, kp, nf, ow, D, Q⟩, rfl⟩
theorem op_runs (xs : Nat → Int32) : ∀ (c i k : Nat) (S : ps_S), rl_R k S S → k + c ≤ 512 → ∃ S9, f_runs xs c i S = some S9
  | 0, _, _, S, _, _ => ⟨S, rfl⟩
  | c + 1, i, k, S, R, hk => by
    obtain ⟨S1, e, R1⟩ := op_call R (by omega) (xs i) (xs (i + 1)) (xs (i + 2)) (xs (i + 3)) (xs (i + 4)) (xs (i + 5)) (xs (i + 6))
    obtain ⟨S9, h⟩ := op_runs xs c (i + 7) (k + 1) S1 R1 (by omega)
    refine ⟨S9, ?_⟩
    unfold f_runs
    rw [e, pu_sb]
    exact h
theorem law_pure : ∃ S1 S2 : ps_S, f_X10_init (ps_z (fun _ _ => 0) 0) = some S1 ∧ f_X11_init (ps_z S1 80) = some S2 ∧ ps_n (ps_z S2 102) = 103 ∧ ∀ (xs : Nat → Int32) (L : Nat), L ≤ 3584 → ∃ S9, f_runs xs (L / 7) 0 (ps_z S2 102) = some S9 := by
  obtain ⟨S1, e1, a1, a2⟩ := in_C
  obtain ⟨S2, e2, b1, b2, b3, b4⟩ := in_M S1
  obtain ⟨R, h8⟩ := in_R a1 a2 b1 b2 b3 b4
  refine ⟨S1, S2, e1, e2, ?_, fun xs L hL => op_runs xs (L / 7) 0 0 _ R (by omega)⟩
  unfold ps_n
  rw [h8]
  rfl
