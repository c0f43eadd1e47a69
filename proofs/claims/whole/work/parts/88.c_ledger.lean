/-! calls on the ledger -/
section
variable {np nf c B f o : Nat} {id so on : Nat → Int32} {kp : Nat → Nat → List Nat} {C M C' M' S : ps_S} {D : Nat → Nat → Nat} {ow : Nat → Nat}
theorem rd_c (h : rl_D np D B C M) : rd_C D C := fun p q hp hq => (h.1 p q hp hq).1
theorem rd_m (h : rl_D np D B C M) : rd_M D M := fun p q hp hq => (h.1 p q hp hq).2.1
theorem rd_b (h : rl_D np D B C M) (hn : np ≤ 16) (p q : Nat) : D p q ≤ B := by
  by_cases e : p < 16 ∧ q < 16
  · exact (h.1 p q e.1 e.2).2.2
  · rw [h.2 p q (by omega)]; exact Nat.zero_le _
theorem op_owes (Q : rl_Q np id so on kp nf ow D c S S) (x y : Int32) : op_K c S (f_cmp (fun r => r) (f_L_owes S x y) (fun S => f_X11_owes S x y)) := by
  unfold f_L_owes
  have hn := Q.1.1.1
  by_cases hx : ∃ p, p < np ∧ x = nI p
  · obtain ⟨p, hp, rfl⟩ := hx
    by_cases hy : ∃ p, p < np ∧ y = nI p
    · obtain ⟨q, hq, rfl⟩ := hy
      refine op_yes Q (fun M QM => ⟨S, nI (D p q), ps_up M 80 0 0, ?_, fc_0, ?_, pu_up_same _ _ _ _, fm_0, rl_up (rq_R (rq_0 QM)), rfl⟩)
      · unfold f_X10_owes
        rw [pu_bxr (np_ok Q.1 hp), pu_bxr (np_ok Q.1 hq), cd_debt (rd_c Q.2.2.2.1) (by omega) (by omega), pu_sb]
      · unfold f_X11_owes f_X11_owes_J22
        rw [mp_is QM.1.2.2.1 hn hp, pu_sb, if_neg (by decide), mp_is QM.1.2.2.1 hn hq, pu_sb, if_neg (by decide), pu_b2 (pu_h0 M), if_neg (by decide), pu_16, nI_add, if_pos (pu_ib (by omega) (by omega)), nI_clamp (by omega), pu_up_k (by omega), rd_m QM.2.2.2.1 p q (by omega) (by omega)]
    · refine op_no (e := 1) (k := 1) Q ?_ rfl (by decide) ?_
      · unfold f_X10_owes
        rw [pu_bxr (np_ok Q.1 hp), pu_bxl (np_no Q.1 hy)]
      · show f_X11_owes S (nI p) y = _
        unfold f_X11_owes f_X11_owes_J22
        rw [mp_is Q.1.2.2.1 hn hp, pu_sb, if_neg (by decide), mp_isno Q.1.2.2.1 Q.1.1.1 hy, pu_sb, if_pos rfl]
        exact pu_no (by decide) _ (if_pos rfl)
  · refine op_no (e := 1) (k := 1) Q ?_ rfl (by decide) ?_
    · unfold f_X10_owes
      rw [pu_bxl (np_no Q.1 hx)]
    · show f_X11_owes S x y = _
      unfold f_X11_owes f_X11_owes_J22
      rw [mp_isno Q.1.2.2.1 Q.1.1.1 hx, pu_sb, if_pos rfl]
      exact pu_no (by decide) _ (if_pos rfl)
theorem sim_worth (h : rl_D np D B C M) (hn : np ≤ 16) (h2 : M 80 2 = nI np) {p : Nat} (hp : p < np) : ∃ (u v : Int32), ps_it (fun (a : Int32 × Int32) => f_X2_balance_L4 C (nI p) a.1 a.2) ps_fu (0, 0) = some u ∧ ps_it (fun (a : Int32 × Int32) => f_X11_worth_L26 (nI p) M a.1 a.2) ps_fu (0, 0) = some v ∧ u = v := by
  refine pu_lead (s1 := fun (a : Int32 × Int32) => f_X2_balance_L4 C (nI p) a.1 a.2) (s2 := fun (a : Int32 × Int32) => f_X11_worth_L26 (nI p) M a.1 a.2) (a := (0, 0)) (b := (0, 0))
    (fun j a b => a.2 = nI j ∧ (j ≤ np → b.2 = nI j) ∧ (np ≤ j → b.2 = nI np) ∧ a.1 = b.1) (fun u v => u = v) np 16 hn (by omega) ⟨rfl, fun _ => rfl, fun h => by
      have : np = 0 := by omega
      rw [this]; rfl, rfl⟩ ?_ ?_ ?_
  · rintro j ⟨u, i⟩ ⟨v, t⟩ hj ⟨hi, ht, -, huv⟩
    have ht := ht (by omega)
    dsimp only at hi ht huv ⊢
    subst hi; subst ht; subst huv
    unfold f_X2_balance_L4 f_X11_worth_L26
    rw [if_neg (by rw [pu_i16]; exact nI_ge (by omega) (by omega)), cd_debt (rd_c h) (by omega) (by omega), pu_sb, cd_debt (rd_c h) (by omega) (by omega), pu_sb, h2, if_neg (nI_ge hj (by omega)), pu_16, nI_add, pu_16, nI_add, if_pos (pu_ib (by omega) (by omega)), if_pos (pu_ib (by omega) (by omega)), nI_clamp (by omega), nI_clamp (by omega), rd_m h j p (by omega) (by omega), rd_m h p j (by omega) (by omega), nI_1]
    refine ⟨_, _, rfl, rfl, rfl, fun _ => rfl, fun h => ?_, rfl⟩
    have : np = j + 1 := by omega
    rw [this]
  · rintro j ⟨u, i⟩ ⟨v, t⟩ hj hj2 ⟨hi, -, ht, huv⟩
    have ht := ht hj
    dsimp only at hi ht huv ⊢
    subst hi; subst ht; subst huv
    unfold f_X2_balance_L4
    rw [if_neg (by rw [pu_i16]; exact nI_ge (by omega) (by omega)), cd_debt (rd_c h) (by omega) (by omega), pu_sb, cd_debt (rd_c h) (by omega) (by omega), pu_sb, h.2 j p (Or.inl hj), h.2 p j (Or.inr hj), Int32.sub_self, Int32.add_zero, nI_1]
    exact ⟨_, rfl, rfl, fun h => by omega, fun _ => rfl, rfl⟩
  · rintro ⟨u, i⟩ ⟨v, t⟩ ⟨hi, -, ht, huv⟩
    have ht := ht hn
    dsimp only at hi ht huv ⊢
    subst hi; subst ht; subst huv
    refine ⟨u, u, ?_, ?_, rfl⟩
    · unfold f_X2_balance_L4
      rw [if_pos (by decide)]
    · unfold f_X11_worth_L26
      rw [h2, if_pos (nI_le (Nat.le_refl _) (by omega))]
theorem op_worth (Q : rl_Q np id so on kp nf ow D c S S) (x : Int32) : op_K c S (f_cmp (fun r => r) (f_L_worth S x) (fun S => f_X11_worth S x)) := by
  unfold f_L_worth
  have hn := Q.1.1.1
  by_cases hx : ∃ p, p < np ∧ x = nI p
  · obtain ⟨p, hp, rfl⟩ := hx
    refine op_yes Q (fun M QM => ?_)
    have Q0 := rq_0 QM (v := 0)
    obtain ⟨u, v, e1, e2, huv⟩ := sim_worth Q0.2.2.2.1 hn Q0.1.2.2.1 hp
    subst huv
    refine ⟨S, u, ps_up M 80 0 0, ?_, fc_0, ?_, pu_up_same _ _ _ _, fm_0, rl_up (rq_R Q0), rfl⟩
    · unfold f_X10_worth f_X2_balance
      rw [pu_bxr (np_ok Q.1 hp), e1, pu_sb, pu_sb]
    · unfold f_X11_worth f_X11_worth_J14
      rw [mp_is QM.1.2.2.1 hn hp, pu_sb, if_neg (by decide), pu_b2 (pu_h0 M), if_neg (by decide), e2, pu_sb]
  · refine op_no (e := 1) (k := 1) Q ?_ rfl (by decide) ?_
    · unfold f_X10_worth
      rw [pu_bxl (np_no Q.1 hx)]
    · show f_X11_worth S x = _
      unfold f_X11_worth f_X11_worth_J14
      rw [mp_isno Q.1.2.2.1 Q.1.1.1 hx, pu_sb, if_pos rfl]
      exact pu_no (by decide) _ (if_pos rfl)
theorem op_net (Q0 : rl_Q np id so on kp nf ow D c S S) (hc : c ≤ 600) : op_K c S (ps_b2 (f_X10_net S) fun r1 S1 => ps_b2 (f_X11_net S1) fun r2 S2 => if r1 = r2 then some S2 else none) := by
  have hn := Q0.1.1.1
  obtain ⟨P, O, N, DD, F⟩ := Q0
  have hD : ∀ x y, D x y < 2 ^ 29 := fun x y => by
    have := rd_b DD hn x y
    omega
  obtain ⟨C1, v1, M1, D1, a1, -, -, -, -, f1, -⟩ := sim_net (rd_c DD) (rd_m DD) hD DD.2 P.2.2.1 hn
  obtain ⟨C2, v2, M2, D2, a2, b2, rc, rm, hle, f2, g2⟩ := sim_net (M := C1) (rd_c DD) (fun p q hp hq => by rw [f1 _ _ (by omega)]; exact rd_m DD p q hp hq) hD DD.2 (by rw [f1 _ _ (by omega)]; exact P.2.2.1) hn
  rw [a1] at a2
  cases a2
  have g3 : ∀ x y, (x < 38 ∨ 54 ≤ x) → x ≠ 101 → ¬ (x = 80 ∧ y = 0) → M2 x y = S x y := fun x y h1 h2 h3 => by
    rw [g2 x y h2]
    show (if x = 80 ∧ y = 0 then _ else _) = _
    rw [if_neg h3]
    exact f1 x y h1
  refine ⟨M2, ?_, ?_, g3 _ _ (by omega) (by omega) (by omega)⟩
  · unfold f_X10_net
    rw [pu_b2 a1, pu_b2 rfl, pu_b2 b2, if_pos rfl]
  · refine rl_up (rq_R (np := np) (id := id) (so := so) (on := on) (kp := kp) (nf := nf) (ow := ow) (D := D2) ⟨rp_congr P (fun a b h => g3 a b (by omega) (by omega) (by omega)) (g3 _ _ (by omega) (by omega) (by omega)) (fun a b h1 h2 => g3 a b (by omega) (by omega) (by omega)), ro_congr O (g3 _ _ (by omega) (by omega) (by omega)) (g3 _ _ (by omega) (by omega) (by omega)) (g3 _ _ (by omega) (by omega) (by omega)) (g3 _ _ (by omega) (by omega) (by omega)) (g3 _ _ (by omega) (by omega) (by omega)) (g3 _ _ (by omega) (by omega) (by omega)), rn_congr N (fun a b h1 h2 => g3 a b (by omega) (by omega) (by omega)) (fun a b h1 h2 => g3 a b (by omega) (by omega) (by omega)), ⟨fun p q hp hq => ⟨?_, rm p q hp hq, Nat.le_trans (hle p q) (rd_b DD hn p q)⟩, fun p q h => ?_⟩, rf_congr F (g3 _ _ (by omega) (by omega) (by omega)) (fun b => g3 _ b (by omega) (by omega) (by omega)) (fun a b h => g3 a b (by omega) (by omega) (by omega)) (g3 _ _ (by omega) (by omega) (by omega)) (fun a b h1 h2 => g3 a b (by omega) (by omega) (by omega))⟩)
    · rw [g2 _ _ (by omega), pu_up_k (by omega)]
      exact rc p q hp hq
    · have h1 := DD.2 p q h
      have h2 := hle p q
      omega
end
