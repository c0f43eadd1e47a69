/-! calls on files that store nothing -/
section
variable {np nf c B f o k : Nat} {id so on : Nat → Int32} {kp : Nat → Nat → List Nat} {C M C' M' S T : ps_S} {D : Nat → Nat → Nat} {ow : Nat → Nat}
theorem cnt_ok {n k : Nat} (hk : k < n) (hn : n < 2 ^ 31) : f_X11_isIn (nI k) 0 (nI n - 1) = some 1 := by
  obtain ⟨m, rfl⟩ : ∃ m, n = m + 1 := ⟨n - 1, by omega⟩
  rw [nI_pred]
  exact in_ok (by omega) (by omega)
theorem cnt_no {n : Nat} {x : Int32} (hn : n < 2 ^ 31) (hx : ¬ ∃ k, k < n ∧ x = nI k) : f_X11_isIn x 0 (nI n - 1) = some 0 := by
  unfold f_X11_isIn
  by_cases h0 : x < 0
  · rw [if_pos h0]
  · rw [if_neg h0, if_pos]
    obtain ⟨j, hj, rfl⟩ := nI_of h0
    have h2 : n ≤ j := by
      apply Nat.le_of_not_lt
      intro h
      exact hx ⟨j, h, rfl⟩
    cases n with
    | zero =>
      rw [pu_ilt, nI_toInt hj, show (nI 0 - 1 : Int32).toInt = -1 from by decide]
      omega
    | succ m => rw [nI_pred]; exact nI_lt (by omega) hj
theorem mf_is (h : M 80 15 = nI nf) (hn : nf ≤ 12) (hf : f < nf) : f_X11_isFile M (nI f) = some 1 := by
  unfold f_X11_isFile
  rw [h, cnt_ok hf (by omega), pu_sb, if_pos (Or.inr rfl)]
theorem mf_no (h : M 80 15 = nI nf) (hn : nf ≤ 12) {x : Int32} (hx : ¬ ∃ f, f < nf ∧ x = nI f) : f_X11_isFile M x = some 0 := by
  unfold f_X11_isFile
  rw [h, cnt_no (by omega) hx, pu_sb, if_pos (Or.inl rfl)]
theorem fa_ok (F : rl_F np nf ow C M) (hf : f < nf) : f_X10_fileAt C (nI f) = some (.inr (103 + 7 * f)) := by
  have hn := F.1.1
  unfold f_X10_fileAt
  rw [if_neg (nI_pos (by omega)), if_neg (lit_ge (x := 12) (n := 12) rfl (by omega) (by omega)), if_pos (pu_ib (by omega) (by omega)), nI_clamp (by omega), if_neg ((F.2.1 f (by omega)).1 hf)]
theorem fa_no (F : rl_F np nf ow C M) {x : Int32} (hx : ¬ ∃ f, f < nf ∧ x = nI f) : f_X10_fileAt C x = some (.inl 1) := by
  have hn := F.1.1
  unfold f_X10_fileAt
  by_cases h0 : x < 0
  · rw [if_pos h0]
  · rw [if_neg h0]
    by_cases h1 : (12 : Int32) ≤ x
    · rw [if_pos h1]
    · obtain ⟨j, hj, rfl⟩ := nI_of h0
      have h2 : j < 12 := by
        apply Nat.lt_of_not_le
        intro h
        exact h1 (lit_le (x := 12) (n := 12) rfl h hj)
      rw [if_neg h1, if_pos (pu_ib h2 (by omega)), nI_clamp hj, if_pos ((F.2.1 j h2).2 (by
        apply Nat.le_of_not_lt
        intro h
        exact hx ⟨j, h, rfl⟩))]
theorem pc_ok (hk : k < 6) : f_X10_needPiece (nI k) = some (.inr ()) := by
  unfold f_X10_needPiece
  rw [if_neg (nI_pos (by omega)), if_pos (lit_lt (x := 6) (n := 6) rfl hk (by omega))]
theorem pc_no {x : Int32} (h : x < 0 ∨ ¬ x < 0 ∧ nI 6 ≤ x) : f_X10_needPiece x = some (.inl 1) := by
  unfold f_X10_needPiece
  rcases h with h | ⟨h0, h⟩
  · rw [if_pos h]
  · rw [if_neg h0, if_neg (show ¬ x < 6 from Int32.not_lt.mpr h)]
theorem ask_ok (h : M 80 15 = nI nf) (hn : nf ≤ 12) (hf : f < nf) (hk : k < 6) : f_X11_isAsked M (nI f) (nI k) = some 1 := by
  unfold f_X11_isAsked
  have ii : f_X11_isIn (nI k) 0 5 = some 1 := in_ok (m := 5) (by omega) (by omega)
  rw [mf_is h hn hf, pu_sb, if_neg (by decide), ii, pu_sb, if_neg (by decide)]
theorem ask_no1 (h : M 80 15 = nI nf) (hn : nf ≤ 12) {x : Int32} (hx : ¬ ∃ f, f < nf ∧ x = nI f) (y : Int32) : f_X11_isAsked M x y = some 0 := by
  unfold f_X11_isAsked
  rw [mf_no h hn hx, pu_sb, if_pos rfl]
theorem ask_no2 (h : M 80 15 = nI nf) (hn : nf ≤ 12) (hf : f < nf) {y : Int32} (hy : y < 0 ∨ ¬ y < 0 ∧ nI 6 ≤ y) : f_X11_isAsked M (nI f) y = some 0 := by
  unfold f_X11_isAsked
  have ii : f_X11_isIn y 0 5 = some 0 := in_no (m := 5) (n := 6) (by omega) (by omega) hy
  rw [mf_is h hn hf, pu_sb, if_neg (by decide), ii, pu_sb, if_pos rfl]
theorem x8_is (hk : k < 6) : f_X8_isPiece (nI k) = some 1 := by
  unfold f_X8_isPiece
  rw [if_neg (nI_pos (by omega)), if_neg (lit_ge (x := 6) (n := 6) rfl hk (by omega))]
theorem fk1 (f : Nat) : 103 + 7 * f + 1 = 104 + 7 * f := by omega
theorem fk2 (f : Nat) : 103 + 7 * f + 2 = 105 + 7 * f := by omega
theorem fk3 (f : Nat) : 103 + 7 * f + 3 = 106 + 7 * f := by omega
theorem fk4 (f : Nat) : 103 + 7 * f + 4 = 107 + 7 * f := by omega
theorem fk5 (f : Nat) : 103 + 7 * f + 5 = 108 + 7 * f := by omega
theorem fk6 (f : Nat) : 108 + 7 * f + 1 = 109 + 7 * f := by omega
theorem x8_value (hk : k < 6) : f_X8_value C (103 + 7 * f) (nI k) = some (C (107 + 7 * f) k) := by
  unfold f_X8_value
  rw [if_neg (nI_pos (by omega)), if_neg (lit_ge (x := 6) (n := 6) rfl hk (by omega)), if_pos (pu_ib (by omega) (by omega)), nI_clamp (by omega), fk4]
theorem x8_holder (hk : k < 6) : f_X8_holder C (103 + 7 * f) (nI k) = some (C (104 + 7 * f) k) := by
  unfold f_X8_holder
  rw [x8_is hk, pu_sb, if_neg (by decide), if_pos (pu_ib (by omega) (by omega)), nI_clamp (by omega), fk1]
theorem x8_held (hk : k < 6) : f_X8_isHeld C (103 + 7 * f) (nI k) = some (if C (104 + 7 * f) k = -1 then 0 else 1) := by
  unfold f_X8_isHeld
  rw [x8_is hk, pu_sb, if_neg (by decide), if_pos (pu_ib (by omega) (by omega)), nI_clamp (by omega), fk1]
  split <;> rfl
theorem x8_kept (hk : k < 6) : f_X8_isKept C (103 + 7 * f) (nI k) = some (if C (105 + 7 * f) k = 0 then 0 else 1) := by
  unfold f_X8_isKept
  rw [x8_is hk, pu_sb, if_neg (by decide), if_pos (pu_ib (by omega) (by omega)), nI_clamp (by omega), fk2]
  split <;> rfl
theorem x8_missed (hk : k < 6) : f_X8_missed C (103 + 7 * f) (nI k) = some (C (106 + 7 * f) k) := by
  unfold f_X8_missed
  rw [x8_is hk, pu_sb, if_neg (by decide), if_pos (pu_ib (by omega) (by omega)), nI_clamp (by omega), fk3]
theorem x8_setMissed (hk : k < 6) (v : Int32) : f_X8_setMissed C (103 + 7 * f) (nI k) v = some (ps_up C (106 + 7 * f) k v) := by
  unfold f_X8_setMissed
  rw [x8_is hk, pu_sb, if_neg (by decide), if_pos (pu_ib (by omega) (by omega)), nI_clamp (by omega), fk3]
theorem x8_throw (hk : k < 6) : f_X8_throwAway C (103 + 7 * f) (nI k) = some (ps_up C (105 + 7 * f) k 0) := by
  unfold f_X8_throwAway
  rw [x8_is hk, pu_sb, if_neg (by decide), if_pos (pu_ib (by omega) (by omega)), nI_clamp (by omega), fk2, pu_nb0]
theorem x8_hand (hk : k < 6) (h : Int32) {v : Int32} (hv : v = 0 ∨ v = 1) : f_X8_hand C (103 + 7 * f) (nI k) h v = some (ps_up (ps_up (ps_up C (104 + 7 * f) k h) (105 + 7 * f) k v) (106 + 7 * f) k 0) := by
  unfold f_X8_hand
  rw [x8_is hk, pu_sb, if_neg (by decide), if_pos (pu_ib (by omega) (by omega)), if_pos (pu_ib (by omega) (by omega)), if_pos (pu_ib (by omega) (by omega)), nI_clamp (by omega), fk1, fk2, fk3, pu_nbz hv]
theorem x8_key (hk : k < 6) : f_X8_key C (103 + 7 * f) (nI k) = some (C (109 + 7 * f) (8 + k) &&& 255) := by
  unfold f_X8_key f_X9_leaf
  rw [if_neg (nI_pos (by omega)), if_neg (lit_ge (x := 6) (n := 6) rfl hk (by omega)), show (8 : Int32) + nI k = nI (8 + k) from nI_add 8 k, if_pos (pu_ib (by omega) (by omega)), nI_clamp (by omega), fk5, fk6, pu_sb]
/-- a file's rows changed -/
theorem rf_mut (F : rl_F np nf ow C M) (hf : f < nf) (hc : ∀ a b, a ≠ 104 + 7 * f → a ≠ 105 + 7 * f → a ≠ 106 + 7 * f → (a < 1 ∨ a = 57 ∨ 103 ≤ a) → C' a b = C a b) (h15 : M' 80 15 = M 80 15) (hm : ∀ a b, 91 ≤ a → a ≤ 95 → ¬ (93 ≤ a ∧ a ≤ 95 ∧ 6 * f ≤ b ∧ b < 6 * f + 6) → M' a b = M a b) (h : rl_H np f (ow f) C' M') : rl_F np nf ow C' M' := by
  obtain ⟨⟨a1, a2, a3⟩, b, v, z⟩ := F
  refine ⟨⟨a1, by rw [hc _ _ (by omega) (by omega) (by omega) (by omega)]; exact a2, by rw [h15]; exact a3⟩, fun i hi => by rw [hc _ _ (by omega) (by omega) (by omega) (by omega)]; exact b i hi, fun g hg => ⟨rv_congr (v g hg).1 (fun a b h => hc a b (by omega) (by omega) (by omega) (by omega)) (fun a b h1 h2 => hm a b (by omega) (by omega) (by omega)), ?_⟩, fun i hi hi2 => ?_⟩
  · by_cases e : g = f
    · rw [e]; exact h
    · exact rh_congr (v g hg).2 (fun a b _ h => hc a b (by omega) (by omega) (by omega) (by omega)) (fun a b h1 h2 h3 h4 => hm a b (by omega) (by omega) (by omega))
  · rw [hm _ _ (by omega) (by omega) (by omega), hm _ _ (by omega) (by omega) (by omega)]
    exact z i hi hi2
theorem pu_x6 (f k : Nat) : (6 : Int32) * nI f + nI k = nI (6 * f + k) := by
  rw [show (6 : Int32) = nI 6 from rfl, pu_mul, nI_add]
theorem op_piece (Q : rl_Q np id so on kp nf ow D c S S) (x y z : Int32) : op_K c S (f_cmp (fun r => r) (f_L_piece S x y z) (fun S => f_X11_piece S x y z)) := by
  unfold f_L_piece
  have hn := Q.2.2.2.2.1.1
  by_cases hx : ∃ f, f < nf ∧ x = nI f
  · obtain ⟨f, hf, rfl⟩ := hx
    rcases pu_below (x := y) (n := 6) (by omega) with ⟨k, hk, rfl⟩ | ⟨-, hy⟩
    · rcases pu_below (x := z) (n := 4) (by omega) with ⟨w, hw, rfl⟩ | ⟨-, hz⟩
      · have iz : f_X11_isIn (nI w) 0 3 = some 1 := in_ok (m := 3) (by omega) (by omega)
        have H0 := (Q.2.2.2.2.2.2.1 f hf).2 k hk
        have V0 := (Q.2.2.2.2.2.2.1 f hf).1.2.2.1 k hk
        have ib := pu_ib (i := 6 * f + k) (n := 72) (by omega) (by omega)
        have cl := nI_clamp (n := 6 * f + k) (by omega)
        have u : ∀ M : ps_S, ∀ a, a ≠ 80 → ps_up M 80 0 0 a (6 * f + k) = M a (6 * f + k) := fun M a h => pu_up_k h
        rcases (show w = 0 ∨ w = 1 ∨ w = 2 ∨ w = 3 by omega) with rfl | rfl | rfl | rfl
        · refine op_yes Q (fun M QM => ⟨S, M 92 (6 * f + k), ps_up M 80 0 0, ?_, fc_0, ?_, pu_up_same _ _ _ _, fm_0, rl_up (rq_R (rq_0 QM)), rfl⟩)
          · unfold f_X10_piece
            rw [pu_bxr (fa_ok Q.2.2.2.2 hf), pu_bxr (pc_ok hk), if_pos (show nI 0 = 0 from rfl), x8_value hk, pu_sb, (QM.2.2.2.2.2.2.1 f hf).1.2.2.1 k hk]
          · unfold f_X11_piece f_X11_piece_J28
            rw [ask_ok QM.2.2.2.2.1.2.2 hn hf hk, pu_sb, if_neg (by decide), iz, pu_sb, if_neg (by decide), pu_b2 (pu_h0 M), if_neg (by decide), if_pos (show nI 0 = 0 from rfl), pu_x6, if_pos ib, cl, u M 92 (by omega)]
        · refine op_yes Q (fun M QM => ⟨S, M 93 (6 * f + k), ps_up M 80 0 0, ?_, fc_0, ?_, pu_up_same _ _ _ _, fm_0, rl_up (rq_R (rq_0 QM)), rfl⟩)
          · unfold f_X10_piece
            rw [pu_bxr (fa_ok Q.2.2.2.2 hf), pu_bxr (pc_ok hk), if_neg (by decide), if_pos (show nI 1 = 1 from rfl), x8_holder hk, pu_sb, ((QM.2.2.2.2.2.2.1 f hf).2 k hk).1.1]
          · unfold f_X11_piece f_X11_piece_J28
            rw [ask_ok QM.2.2.2.2.1.2.2 hn hf hk, pu_sb, if_neg (by decide), iz, pu_sb, if_neg (by decide), pu_b2 (pu_h0 M), if_neg (by decide), if_neg (by decide), if_pos (show nI 1 = 1 from rfl), pu_x6, if_pos ib, cl, u M 93 (by omega)]
        · refine op_yes Q (fun M QM => ⟨S, if M 94 (6 * f + k) = 0 then 0 else 1, ps_up M 80 0 0, ?_, fc_0, ?_, pu_up_same _ _ _ _, fm_0, rl_up (rq_R (rq_0 QM)), rfl⟩)
          · unfold f_X10_piece
            rw [pu_bxr (fa_ok Q.2.2.2.2 hf), pu_bxr (pc_ok hk), if_neg (by decide), if_neg (by decide), if_pos (show nI 2 = 2 from rfl), x8_kept hk, pu_sb, ((QM.2.2.2.2.2.2.1 f hf).2 k hk).1.2.1]
            by_cases e : M 94 (6 * f + k) = 0
            · rw [if_pos e, if_pos rfl]
            · rw [if_neg e, if_neg (by decide)]
          · unfold f_X11_piece f_X11_piece_J28
            rw [ask_ok QM.2.2.2.2.1.2.2 hn hf hk, pu_sb, if_neg (by decide), iz, pu_sb, if_neg (by decide), pu_b2 (pu_h0 M), if_neg (by decide), if_neg (by decide), if_neg (by decide), if_pos (show nI 2 = 2 from rfl), pu_x6, if_pos ib, cl, u M 94 (by omega)]
            split <;> rfl
        · refine op_yes Q (fun M QM => ⟨S, M 95 (6 * f + k), ps_up M 80 0 0, ?_, fc_0, ?_, pu_up_same _ _ _ _, fm_0, rl_up (rq_R (rq_0 QM)), rfl⟩)
          · unfold f_X10_piece
            rw [pu_bxr (fa_ok Q.2.2.2.2 hf), pu_bxr (pc_ok hk), if_neg (by decide), if_neg (by decide), if_neg (by decide), if_pos (show nI 3 = 3 from rfl), x8_missed hk, pu_sb, ((QM.2.2.2.2.2.2.1 f hf).2 k hk).1.2.2]
          · unfold f_X11_piece f_X11_piece_J28
            rw [ask_ok QM.2.2.2.2.1.2.2 hn hf hk, pu_sb, if_neg (by decide), iz, pu_sb, if_neg (by decide), pu_b2 (pu_h0 M), if_neg (by decide), if_neg (by decide), if_neg (by decide), if_neg (by decide), pu_x6, if_pos ib, cl, u M 95 (by omega)]
      · have hzz : ∀ w, w < 4 → ¬ z = nI w := by
          rintro w hw rfl
          rcases hz with hz | ⟨-, hz⟩
          · exact nI_pos (by omega) hz
          · exact nI_ge hw (by omega) hz
        refine op_no (e := 0) (k := 2) Q ?_ rfl (by decide) ?_
        · unfold f_X10_piece
          rw [pu_bxr (fa_ok Q.2.2.2.2 hf), pu_bxr (pc_ok hk), if_neg (show ¬ z = 0 from hzz 0 (by omega)), if_neg (show ¬ z = 1 from hzz 1 (by omega)), if_neg (show ¬ z = 2 from hzz 2 (by omega)), if_neg (show ¬ z = 3 from hzz 3 (by omega))]
        · show f_X11_piece S (nI f) (nI k) z = _
          unfold f_X11_piece f_X11_piece_J28
          have iz : f_X11_isIn z 0 3 = some 0 := in_no (m := 3) (n := 4) (by omega) (by omega) hz
          rw [ask_ok Q.2.2.2.2.1.2.2 hn hf hk, pu_sb, if_neg (by decide), iz, pu_sb, if_pos rfl]
          exact pu_no (by decide) _ (if_pos rfl)
    · refine op_no (e := 1) (k := 1) Q ?_ rfl (by decide) ?_
      · unfold f_X10_piece
        rw [pu_bxr (fa_ok Q.2.2.2.2 hf), pu_bxl (pc_no hy)]
      · show f_X11_piece S (nI f) y z = _
        unfold f_X11_piece f_X11_piece_J28
        rw [ask_no2 Q.2.2.2.2.1.2.2 hn hf hy, pu_sb, if_pos rfl]
        exact pu_no (by decide) _ (if_pos rfl)
  · refine op_no (e := 1) (k := 1) Q ?_ rfl (by decide) ?_
    · unfold f_X10_piece
      rw [pu_bxl (fa_no Q.2.2.2.2 hx)]
    · show f_X11_piece S x y z = _
      unfold f_X11_piece f_X11_piece_J28
      rw [ask_no1 Q.2.2.2.2.1.2.2 hn hx, pu_sb, if_pos rfl]
      exact pu_no (by decide) _ (if_pos rfl)
theorem op_spoil (Q : rl_Q np id so on kp nf ow D c S S) (x y : Int32) : op_K c S (f_cmp ps_nz (f_L_spoil S x y) (fun S => f_X11_spoil S x y)) := by
  unfold f_L_spoil
  have hn := Q.2.2.2.2.1.1
  by_cases hx : ∃ f, f < nf ∧ x = nI f
  · obtain ⟨f, hf, rfl⟩ := hx
    rcases pu_below (x := y) (n := 6) (by omega) with ⟨k, hk, rfl⟩ | ⟨-, hy⟩
    · have ib := pu_ib (i := 6 * f + k) (n := 72) (by omega) (by omega)
      have cl := nI_clamp (n := 6 * f + k) (by omega)
      have H0 := (Q.2.2.2.2.2.2.1 f hf).2 k hk
      by_cases hh : S 93 (6 * f + k) = -1
      · refine op_no (e := 2) (k := 2) Q ?_ rfl (by decide) ?_
        · unfold f_X10_spoil
          rw [pu_bxr (fa_ok Q.2.2.2.2 hf), pu_bxr (pc_ok hk), x8_held hk, pu_sb, H0.1.1, if_pos hh, if_pos rfl]
        · show f_X11_spoil S (nI f) (nI k) = _
          unfold f_X11_spoil f_X11_spoil_J36
          rw [ask_ok Q.2.2.2.2.1.2.2 hn hf hk, pu_sb, if_neg (by decide), pu_x6, if_pos ib, cl, if_pos hh]
          exact pu_no (by decide) _ (if_pos rfl)
      · refine op_yes Q (fun M QM => ?_)
        have HM := (QM.2.2.2.2.2.2.1 f hf).2
        have hM := HM k hk
        have hh' : ¬ M 93 (6 * f + k) = -1 := by rw [← hM.1.1, H0.1.1]; exact hh
        refine ⟨ps_up S (105 + 7 * f) k 0, M 94 (6 * f + k), ps_up (ps_up M 80 0 0) 94 (6 * f + k) 0, ?_, fun a b h1 h2 => pu_up_k (by omega), ?_, by rw [pu_up_k (by omega), pu_up_same], fun a b h => by rw [pu_up_k (by omega), pu_up_k (by omega)], ?_, pu_up_k (by omega)⟩
        · unfold f_X10_spoil
          rw [pu_bxr (fa_ok Q.2.2.2.2 hf), pu_bxr (pc_ok hk), x8_held hk, pu_sb, H0.1.1, if_neg hh, if_neg (by decide), x8_kept hk, pu_sb, x8_throw hk, pu_sb, hM.1.2.1, on_id hM.2.2.1, if_pos hM.2.2.1]
        · unfold f_X11_spoil f_X11_spoil_J36
          rw [ask_ok QM.2.2.2.2.1.2.2 hn hf hk, pu_sb, if_neg (by decide), pu_x6, if_pos ib, cl, if_neg hh', pu_b2 (pu_h0 M), if_neg (by decide), if_pos ib, if_pos ib, pu_up_k (a := 94) (by omega), if_pos hM.2.2.1, pu_nb0]
        · obtain ⟨P, O, N, DD, F⟩ := rq_0 QM (v := 0)
          refine rl_up (rq_R ⟨rp_congr P (fun a b h => pu_up_k (by omega)) (pu_up_k (by omega)) (fun a b h1 h2 => pu_up_k (by omega)), ro_congr O (pu_up_k (by omega)) (pu_up_k (by omega)) (pu_up_k (by omega)) (pu_up_k (by omega)) (pu_up_k (by omega)) (pu_up_k (by omega)), rn_congr N (fun a b h1 h2 => pu_up_k (by omega)) (fun a b h1 h2 => pu_up_k (by omega)), rd_congr DD (fun a b h1 h2 => pu_up_k (by omega)) (fun b => pu_up_k (by omega)), rf_mut F hf (fun a b h1 h2 h3 h4 => pu_up_k h2) (pu_up_k (by omega)) (fun a b h1 h2 h3 => ?_) ?_⟩)
          · show (if a = 94 ∧ b = 6 * f + k then _ else _) = _
            rw [if_neg (by omega)]
          · intro j hj
            obtain ⟨⟨g1, g2, g3⟩, g4, g5, g6⟩ := HM j hj
            rw [pu_up_k (a := 104 + 7 * f) (by omega), pu_up_k (a := 106 + 7 * f) (by omega), pu_up_k (a := 93) (by omega), pu_up_k (a := 93) (by omega), pu_up_k (a := 95) (by omega), pu_up_k (a := 95) (by omega)]
            by_cases e : j = k
            · subst e
              rw [pu_up_same, pu_up_same]
              exact ⟨⟨g1, rfl, g3⟩, g4, Or.inl rfl, g6⟩
            · rw [pu_up_i e, pu_up_i (a := 94) (by omega), pu_up_k (a := 94) (by omega)]
              exact ⟨⟨g1, g2, g3⟩, g4, g5, g6⟩
    · refine op_no (e := 1) (k := 1) Q ?_ rfl (by decide) ?_
      · unfold f_X10_spoil
        rw [pu_bxr (fa_ok Q.2.2.2.2 hf), pu_bxl (pc_no hy)]
      · show f_X11_spoil S (nI f) y = _
        unfold f_X11_spoil f_X11_spoil_J36
        rw [ask_no2 Q.2.2.2.2.1.2.2 hn hf hy, pu_sb, if_pos rfl]
        exact pu_no (by decide) _ (if_pos rfl)
  · refine op_no (e := 1) (k := 1) Q ?_ rfl (by decide) ?_
    · unfold f_X10_spoil
      rw [pu_bxl (fa_no Q.2.2.2.2 hx)]
    · show f_X11_spoil S x y = _
      unfold f_X11_spoil f_X11_spoil_J36
      rw [ask_no1 Q.2.2.2.2.1.2.2 hn hx, pu_sb, if_pos rfl]
      exact pu_no (by decide) _ (if_pos rfl)
/-- the reference lays a file's tree -/
theorem mt_lays (M : ps_S) (hf : f < 12) : ∃ M', f_X11_laysTree M (nI f) = some M' ∧ rl_T (fun k => M 92 (6 * f + k)) (fun n => M' 96 n) ∧ ∀ a b, a ≠ 96 → M' a b = M a b := by
  have l1 := pu_ind0 (step := fun (a : ps_S × Int32) => f_X11_laysTree_L2 (nI f) a.1 a.2) (a := (M, 0))
    (fun j a => a.2 = nI j ∧ (∀ i, i < j → a.1 96 (8 + i) = if i < 6 then pu_h (M 92 (6 * f + i)) (nI i) else 0) ∧ ∀ x y, x ≠ 96 → a.1 x y = M x y)
    (fun b => (∀ i, i < 8 → b 96 (8 + i) = if i < 6 then pu_h (M 92 (6 * f + i)) (nI i) else 0) ∧ ∀ x y, x ≠ 96 → b x y = M x y) 8 (by omega) ⟨rfl, fun i hi => absurd hi (by omega), fun _ _ _ => rfl⟩ ?_ ?_
  · obtain ⟨M1, e1, z1, f1⟩ := l1
    have l2 := pu_ind0 (step := fun (a : ps_S × Int32) => f_X11_laysTree_L51 a.1 a.2) (a := (M1, 7))
      (fun j a => a.2 = nI (7 - j) ∧ (∀ i, 8 ≤ i → a.1 96 i = M1 96 i) ∧ (∀ n, 7 - j < n → n < 8 → a.1 96 n = pu_h (a.1 96 (2 * n)) (a.1 96 (2 * n + 1))) ∧ ∀ x y, x ≠ 96 → a.1 x y = M1 x y)
      (fun b => (∀ i, 8 ≤ i → b 96 i = M1 96 i) ∧ (∀ n, 0 < n → n < 8 → b 96 n = pu_h (b 96 (2 * n)) (b 96 (2 * n + 1))) ∧ ∀ x y, x ≠ 96 → b x y = M1 x y) 7 (by omega) ⟨rfl, fun _ _ => rfl, fun n h1 h2 => absurd h1 (by omega), fun _ _ _ => rfl⟩ ?_ ?_
    · obtain ⟨M2, e2, z2, y2, f2⟩ := l2
      refine ⟨M2, ?_, ⟨fun k hk => ?_, ?_, ?_, y2⟩, fun a b h => (f2 a b h).trans (f1 a b h)⟩
      · unfold f_X11_laysTree
        rw [e1, pu_sb, e2, pu_sb]
      · dsimp only
        rw [z2 _ (by omega), z1 k (by omega), if_pos hk]
      · dsimp only
        rw [z2 _ (by omega)]
        exact (z1 6 (by omega)).trans (if_neg (by omega))
      · dsimp only
        rw [z2 _ (by omega)]
        exact (z1 7 (by omega)).trans (if_neg (by omega))
    · rintro j ⟨T, v⟩ hj ⟨hv, h8, hn, fr⟩
      dsimp only at hv h8 hn fr ⊢
      subst hv
      obtain ⟨m, hm⟩ : ∃ m, 7 - j = m + 1 := ⟨6 - j, by omega⟩
      have hm7 : 7 - (j + 1) = m := by omega
      rw [hm, hm7]
      unfold f_X11_laysTree_L51 f_X11_hash
      rw [if_neg (nI_nle (by omega) (by omega)), pu_2, nI_1, if_pos (pu_ib (by omega) (by omega)), if_pos (pu_ib (by omega) (by omega)), pu_sb, if_pos (pu_ib (by omega) (by omega)), nI_clamp (by omega), nI_clamp (by omega), nI_clamp (by omega), pu_dec]
      refine ⟨_, rfl, rfl, fun i hi => ?_, fun n h1 h2 => ?_, fun x y h => by rw [← fr x y h]; exact pu_up_k h⟩
      · dsimp only
        rw [pu_up_i (by omega)]; exact h8 i hi
      · dsimp only
        rw [pu_up_i (b := 2 * n) (by omega), pu_up_i (b := 2 * n + 1) (by omega)]
        by_cases e : n = m + 1
        · subst e
          rw [pu_up_same]
          rfl
        · rw [pu_up_i e]
          exact hn n (by omega) h2
    · rintro ⟨T, v⟩ ⟨hv, h8, hn, fr⟩
      dsimp only at hv h8 hn fr ⊢
      subst hv
      refine ⟨T, ?_, h8, fun n h1 h2 => hn n (by omega) h2, fr⟩
      unfold f_X11_laysTree_L51
      rw [if_pos (by decide)]
  · rintro j ⟨T, v⟩ hj ⟨hv, hz, fr⟩
    dsimp only at hv hz fr ⊢
    subst hv
    have put : ∀ s : Int32, (s = if j < 6 then pu_h (M 92 (6 * f + j)) (nI j) else 0) → ∃ a', f_X11_laysTree_J41 T (nI j) s = some (.inl a') ∧ a'.2 = nI (j + 1) ∧ (∀ i, i < j + 1 → a'.1 96 (8 + i) = if i < 6 then pu_h (M 92 (6 * f + i)) (nI i) else 0) ∧ ∀ x y, x ≠ 96 → a'.1 x y = M x y := by
      intro s hs
      unfold f_X11_laysTree_J41
      rw [show (8 : Int32) + nI j = nI (8 + j) from nI_add 8 j, if_pos (pu_ib (by omega) (by omega)), nI_clamp (by omega), nI_1]
      refine ⟨_, rfl, rfl, fun i hi => ?_, fun x y h => by rw [← fr x y h]; exact pu_up_k h⟩
      dsimp only
      by_cases e : i = j
      · subst e; rw [pu_up_same, hs]
      · rw [pu_up_i (by omega)]; exact hz i (by omega)
    unfold f_X11_laysTree_L2
    rw [if_neg (lit_ge (x := 8) (n := 8) rfl hj (by omega))]
    by_cases e : 6 ≤ j
    · rw [if_pos (lit_le (x := 6) (n := 6) rfl e (by omega))]
      exact put 0 (by rw [if_neg (by omega)])
    · rw [if_neg (lit_ge (x := 6) (n := 6) rfl (by omega) (by omega)), pu_x6, if_pos (pu_ib (by omega) (by omega)), nI_clamp (by omega)]
      unfold f_X11_hash
      rw [pu_sb, fr 92 _ (by omega)]
      exact put _ (by rw [if_pos (by omega)]; rfl)
  · rintro ⟨T, v⟩ ⟨hv, hz, fr⟩
    dsimp only at hv hz fr ⊢
    subst hv
    refine ⟨T, ?_, hz, fr⟩
    unfold f_X11_laysTree_L2
    rw [if_pos (by decide)]
theorem rq_tree (Q : rl_Q np id so on kp nf ow D c C M) (h : ∀ a b, a ≠ 96 → M' a b = M a b) : rl_Q np id so on kp nf ow D c C M' := by
  obtain ⟨P, O, N, DD, F⟩ := Q
  exact ⟨rp_congr P (fun _ _ _ => rfl) (h _ _ (by omega)) (fun a b h1 h2 => h a b (by omega)), ro_congr O rfl rfl rfl (h _ _ (by omega)) (h _ _ (by omega)) (h _ _ (by omega)), rn_congr N (fun _ _ _ _ => rfl) (fun a b h1 h2 => h a b (by omega)), rd_congr DD (fun _ _ _ _ => rfl) (fun b => h _ b (by omega)), rf_congr F rfl (fun _ => rfl) (fun _ _ _ => rfl) (h _ _ (by omega)) (fun a b h1 h2 => h a b (by omega))⟩
/-- class and reference have one tree -/
theorem tree_eq (Q : rl_Q np id so on kp nf ow D c C M) (hf : f < nf) : ∃ M', f_X11_laysTree (ps_up M 80 0 0) (nI f) = some M' ∧ (∀ n, 0 < n → n < 16 → M' 96 n = C (109 + 7 * f) n) ∧ M' 80 0 = 0 ∧ rl_fm M M' ∧ rl_Q np id so on kp nf ow D c C M' := by
  have hn := Q.2.2.2.2.1.1
  have Q0 := rq_0 Q (v := 0)
  obtain ⟨M', e, t, fr⟩ := mt_lays (ps_up M 80 0 0) (f := f) (by omega)
  have V := (Q0.2.2.2.2.2.2.1 f hf).1
  have tc : rl_T (fun k => C (107 + 7 * f) k) (fun n => M' 96 n) := by
    refine ⟨fun k hk => ?_, t.2⟩
    have := t.1 k hk
    dsimp only at this ⊢
    rw [V.2.2.1 k hk]
    exact this
  exact ⟨M', e, rl_Tu tc V.2.2.2, by rw [fr _ _ (by omega), pu_up_same], fun a b h => by rw [fr a b (by omega), pu_up_k (by omega)], rq_tree Q0 fr⟩
theorem op_root (Q : rl_Q np id so on kp nf ow D c S S) (x : Int32) : op_K c S (f_cmp (fun r => r) (f_L_root S x) (fun S => f_X11_root S x)) := by
  unfold f_L_root
  have hn := Q.2.2.2.2.1.1
  by_cases hx : ∃ f, f < nf ∧ x = nI f
  · obtain ⟨f, hf, rfl⟩ := hx
    refine op_yes Q (fun M QM => ?_)
    obtain ⟨M', e, t, h0, hm, Q'⟩ := tree_eq QM hf
    refine ⟨S, S (109 + 7 * f) 1, M', ?_, fc_0, ?_, h0, hm, rl_up (rq_R Q'), rfl⟩
    · unfold f_X10_root f_X9_top
      rw [pu_bxr (fa_ok Q.2.2.2.2 hf), pu_sb, fk5, fk6]
      rfl
    · unfold f_X11_root f_X11_root_J14
      rw [mf_is QM.2.2.2.2.1.2.2 hn hf, pu_sb, if_neg (by decide), pu_b2 (pu_h0 M), if_neg (by decide), e, pu_sb]
      rw [show (1 : Int32).toNatClampNeg = 1 from rfl, t 1 (by omega) (by omega)]
  · refine op_no (e := 1) (k := 1) Q ?_ rfl (by decide) ?_
    · unfold f_X10_root
      rw [pu_bxl (fa_no Q.2.2.2.2 hx)]
    · show f_X11_root S x = _
      unfold f_X11_root f_X11_root_J14
      rw [mf_no Q.2.2.2.2.1.2.2 hn hx, pu_sb, if_pos rfl]
      exact pu_no (by decide) _ (if_pos rfl)
def pr_at (k r : Nat) : Nat := ((8 + k) >>> r) ^^^ 1
theorem pr_C : ∀ (k : Fin 6) (r : Fin 3), (((8 + nI k.val) >>> (nI r.val &&& 31)) ^^^ 1 = nI (pr_at k.val r.val)) ∧ 0 < pr_at k.val r.val ∧ pr_at k.val r.val < 16 := by decide +kernel
theorem op_proof (Q : rl_Q np id so on kp nf ow D c S S) (x y z : Int32) : op_K c S (f_cmp (fun r => r) (f_L_proof S x y z) (fun S => f_X11_proof S x y z)) := by
  unfold f_L_proof
  have hn := Q.2.2.2.2.1.1
  by_cases hx : ∃ f, f < nf ∧ x = nI f
  · obtain ⟨f, hf, rfl⟩ := hx
    rcases pu_below (x := y) (n := 6) (by omega) with ⟨k, hk, rfl⟩ | ⟨-, hy⟩
    · rcases pu_below (x := z) (n := 3) (by omega) with ⟨r, hr, rfl⟩ | ⟨-, hz⟩
      · have iz : f_X11_isIn (nI r) 0 2 = some 1 := in_ok (m := 2) (by omega) (by omega)
        have nz : f_X10_needBelow (nI r) 3 = some (.inr ()) := nb_ok (n := 3) hr (by omega)
        obtain ⟨p1, p2, p3⟩ := pr_C ⟨k, hk⟩ ⟨r, hr⟩
        dsimp only at p1 p2 p3
        refine op_yes Q (fun M QM => ?_)
        obtain ⟨M', e, t, h0, hm, Q'⟩ := tree_eq QM hf
        refine ⟨S, S (109 + 7 * f) (pr_at k r), M', ?_, fc_0, ?_, h0, hm, rl_up (rq_R Q'), rfl⟩
        · unfold f_X10_proof f_X9_neighbour
          rw [pu_bxr (fa_ok Q.2.2.2.2 hf), pu_bxr (pc_ok hk), pu_bxr nz, if_neg (nI_pos (by omega)), if_neg (lit_ge (x := 6) (n := 6) rfl hk (by omega)), if_neg (nI_pos (by omega)), if_pos (lit_lt (x := 3) (n := 3) rfl hr (by omega)), p1, if_pos (pu_ib p3 (by omega)), nI_clamp (by omega), fk5, fk6, pu_sb]
        · unfold f_X11_proof f_X11_proof_J28
          rw [ask_ok QM.2.2.2.2.1.2.2 hn hf hk, pu_sb, if_neg (by decide), iz, pu_sb, if_neg (by decide), pu_b2 (pu_h0 M), if_neg (by decide), e, pu_sb, p1, if_pos (pu_ib p3 (by omega)), nI_clamp (by omega), t _ p2 p3]
      · refine op_no (e := 0) (k := 2) Q ?_ rfl (by decide) ?_
        · unfold f_X10_proof
          have nz : f_X10_needBelow z 3 = some (.inl 0) := nb_no (n := 3) hz
          rw [pu_bxr (fa_ok Q.2.2.2.2 hf), pu_bxr (pc_ok hk), pu_bxl nz]
        · show f_X11_proof S (nI f) (nI k) z = _
          unfold f_X11_proof f_X11_proof_J28
          have iz : f_X11_isIn z 0 2 = some 0 := in_no (m := 2) (n := 3) (by omega) (by omega) hz
          rw [ask_ok Q.2.2.2.2.1.2.2 hn hf hk, pu_sb, if_neg (by decide), iz, pu_sb, if_pos rfl]
          exact pu_no (by decide) _ (if_pos rfl)
    · refine op_no (e := 1) (k := 1) Q ?_ rfl (by decide) ?_
      · unfold f_X10_proof
        rw [pu_bxr (fa_ok Q.2.2.2.2 hf), pu_bxl (pc_no hy)]
      · show f_X11_proof S (nI f) y z = _
        unfold f_X11_proof f_X11_proof_J28
        rw [ask_no2 Q.2.2.2.2.1.2.2 hn hf hy, pu_sb, if_pos rfl]
        exact pu_no (by decide) _ (if_pos rfl)
  · refine op_no (e := 1) (k := 1) Q ?_ rfl (by decide) ?_
    · unfold f_X10_proof
      rw [pu_bxl (fa_no Q.2.2.2.2 hx)]
    · show f_X11_proof S x y z = _
      unfold f_X11_proof f_X11_proof_J28
      rw [ask_no1 Q.2.2.2.2.1.2.2 hn hx, pu_sb, if_pos rfl]
      exact pu_no (by decide) _ (if_pos rfl)
theorem cl_C0 : ∀ k : Fin 6, ((8 + nI k.val) - (8 + nI k.val) / 2 * 2 = 0) ↔ ((nI k.val >>> (0 &&& 31)) &&& 1 = 0) := by decide +kernel
theorem cl_C1 : ∀ k : Fin 6, (((8 + nI k.val) >>> (1 &&& 31)) - ((8 + nI k.val) >>> (1 &&& 31)) / 2 * 2 = 0) ↔ ((nI k.val >>> (1 &&& 31)) &&& 1 = 0) := by decide +kernel
theorem cl_C2 : ∀ k : Fin 6, (((8 + nI k.val) >>> (2 &&& 31)) - ((8 + nI k.val) >>> (2 &&& 31)) / 2 * 2 = 0) ↔ ((nI k.val >>> (2 &&& 31)) &&& 1 = 0) := by decide +kernel
def pu_ab (b : Prop) [Decidable b] (own nb : Int32) : Int32 := if b then pu_h own nb else pu_h nb own
theorem ab_C (n own nb : Int32) : f_X9_above n own nb = some (pu_ab (n - n / 2 * 2 = 0) own nb) := by
  unfold f_X9_above f_X9_hash pu_ab
  rw [pu_sb, pu_sb]
  split <;> rfl
theorem ab_iff {p q : Prop} [Decidable p] [Decidable q] (h : p ↔ q) (own nb : Int32) : pu_ab p own nb = pu_ab q own nb := by
  unfold pu_ab
  by_cases hp : p
  · rw [if_pos hp, if_pos (h.mp hp)]
  · rw [if_neg hp, if_neg (fun hq => hp (h.mpr hq))]
def pu_climb (k : Nat) (v a b c : Int32) : Int32 := pu_ab ((nI k >>> (2 &&& 31)) &&& 1 = 0) (pu_ab ((nI k >>> (1 &&& 31)) &&& 1 = 0) (pu_ab ((nI k >>> (0 &&& 31)) &&& 1 = 0) (pu_h v (nI k)) a) b) c
theorem climb_C (hk : k < 6) (v a b c : Int32) : f_X9_climb (nI k) v a b c = some (pu_climb k v a b c) := by
  unfold f_X9_climb f_X9_hash pu_climb
  rw [pu_sb, ab_C, pu_sb, ab_C, pu_sb, ab_C, pu_sb, ab_iff (cl_C0 ⟨k, hk⟩), ab_iff (cl_C1 ⟨k, hk⟩), ab_iff (cl_C2 ⟨k, hk⟩)]
  rfl
theorem climb_M (v0 a b c : Int32) : ps_it (fun (x : Int32 × Int32) => f_X11_isProved_L53 (nI k) a b c x.1 x.2) ps_fu (v0, 0) = some (pu_ab ((nI k >>> (2 &&& 31)) &&& 1 = 0) (pu_ab ((nI k >>> (1 &&& 31)) &&& 1 = 0) (pu_ab ((nI k >>> (0 &&& 31)) &&& 1 = 0) v0 a) b) c) := by
  have j : ∀ (v i s : Int32), f_X11_isProved_J82 (nI k) v i s = some (.inl (pu_ab ((nI k >>> (i &&& 31)) &&& 1 = 0) v s, i + 1)) := by
    intro v i s
    unfold f_X11_isProved_J82 f_X11_isProved_J110 f_X11_hash pu_ab
    rw [pu_sb, pu_sb]
    split <;> rfl
  have s0 : ∀ v, f_X11_isProved_L53 (nI k) a b c v 0 = some (.inl (pu_ab ((nI k >>> (0 &&& 31)) &&& 1 = 0) v a, 1)) := by
    intro v
    unfold f_X11_isProved_L53
    rw [if_neg (by decide), if_pos rfl, j]
    rfl
  have s1 : ∀ v, f_X11_isProved_L53 (nI k) a b c v 1 = some (.inl (pu_ab ((nI k >>> (1 &&& 31)) &&& 1 = 0) v b, 2)) := by
    intro v
    unfold f_X11_isProved_L53
    rw [if_neg (by decide), if_neg (by decide), if_pos rfl, j]
    rfl
  have s2 : ∀ v, f_X11_isProved_L53 (nI k) a b c v 2 = some (.inl (pu_ab ((nI k >>> (2 &&& 31)) &&& 1 = 0) v c, 3)) := by
    intro v
    unfold f_X11_isProved_L53
    rw [if_neg (by decide), if_neg (by decide), if_neg (by decide), j]
    rfl
  have s3 : ∀ v, f_X11_isProved_L53 (nI k) a b c v 3 = some (.inr v) := by
    intro v
    unfold f_X11_isProved_L53
    rw [if_pos (by decide)]
  exact it_l (step := fun (x : Int32 × Int32) => f_X11_isProved_L53 (nI k) a b c x.1 x.2) (n := 19999) (s0 v0) (it_l (n := 19998) (s1 _) (it_l (n := 19997) (s2 _) (it_r (n := 19996) (s3 _))))
theorem op_isProved (Q : rl_Q np id so on kp nf ow D c S S) (x y z u v w : Int32) : op_K c S (f_cmp ps_nz (f_L_isProved S x y z u v w) (fun S => f_X11_isProved S x y z u v w)) := by
  unfold f_L_isProved
  have hn := Q.2.2.2.2.1.1
  by_cases hx : ∃ f, f < nf ∧ x = nI f
  · obtain ⟨f, hf, rfl⟩ := hx
    rcases pu_below (x := y) (n := 6) (by omega) with ⟨k, hk, rfl⟩ | ⟨-, hy⟩
    · rcases pu_below (x := z) (n := 256) (by omega) with ⟨r, hr, rfl⟩ | ⟨-, hz⟩
      · have iz : f_X11_isIn (nI r) 0 255 = some 1 := in_ok (m := 255) (by omega) (by omega)
        have nz : f_X10_needBelow (nI r) 256 = some (.inr ()) := nb_ok (n := 256) hr (by omega)
        refine op_yes Q (fun M QM => ?_)
        obtain ⟨M', e, t, h0, hm, Q'⟩ := tree_eq QM hf
        refine ⟨S, if S (109 + 7 * f) 1 = pu_climb k (nI r) u v w then 1 else 0, M', ?_, fc_0, ?_, h0, hm, rl_up (rq_R Q'), rfl⟩
        · unfold f_X10_isProved f_X9_top
          rw [pu_bxr (fa_ok Q.2.2.2.2 hf), pu_bxr (pc_ok hk), pu_bxr nz, pu_sb, climb_C hk, pu_sb, fk5, fk6, show (1 : Int32).toNatClampNeg = 1 from rfl]
          split <;> rfl
        · unfold f_X11_isProved f_X11_isProved_J30 f_X11_hash
          rw [ask_ok QM.2.2.2.2.1.2.2 hn hf hk, pu_sb, if_neg (by decide), iz, pu_sb, if_neg (by decide), pu_b2 (pu_h0 M), if_neg (by decide), e, pu_sb, pu_sb, climb_M, pu_sb, show (1 : Int32).toNatClampNeg = 1 from rfl, t 1 (by omega) (by omega)]
          show (if pu_climb k (nI r) u v w = S (109 + 7 * f) 1 then _ else _) = _
          by_cases ee : S (109 + 7 * f) 1 = pu_climb k (nI r) u v w
          · rw [if_pos ee.symm, if_pos ee]
          · rw [if_neg (fun q => ee q.symm), if_neg ee]
      · refine op_no (e := 0) (k := 2) Q ?_ rfl (by decide) ?_
        · unfold f_X10_isProved
          have nz : f_X10_needBelow z 256 = some (.inl 0) := nb_no (n := 256) hz
          rw [pu_bxr (fa_ok Q.2.2.2.2 hf), pu_bxr (pc_ok hk), pu_bxl nz]
        · show f_X11_isProved S (nI f) (nI k) z u v w = _
          unfold f_X11_isProved f_X11_isProved_J30
          have iz : f_X11_isIn z 0 255 = some 0 := in_no (m := 255) (n := 256) (by omega) (by omega) hz
          rw [ask_ok Q.2.2.2.2.1.2.2 hn hf hk, pu_sb, if_neg (by decide), iz, pu_sb, if_pos rfl]
          exact pu_no (by decide) _ (if_pos rfl)
    · refine op_no (e := 1) (k := 1) Q ?_ rfl (by decide) ?_
      · unfold f_X10_isProved
        rw [pu_bxr (fa_ok Q.2.2.2.2 hf), pu_bxl (pc_no hy)]
      · show f_X11_isProved S (nI f) y z u v w = _
        unfold f_X11_isProved f_X11_isProved_J30
        rw [ask_no2 Q.2.2.2.2.1.2.2 hn hf hy, pu_sb, if_pos rfl]
        exact pu_no (by decide) _ (if_pos rfl)
  · refine op_no (e := 1) (k := 1) Q ?_ rfl (by decide) ?_
    · unfold f_X10_isProved
      rw [pu_bxl (fa_no Q.2.2.2.2 hx)]
    · show f_X11_isProved S x y z u v w = _
      unfold f_X11_isProved f_X11_isProved_J30
      rw [ask_no1 Q.2.2.2.2.1.2.2 hn hx, pu_sb, if_pos rfl]
      exact pu_no (by decide) _ (if_pos rfl)
theorem op_mend (Q : rl_Q np id so on kp nf ow D c S S) (x y : Int32) : op_K c S (f_cmp (fun r => r) (f_L_mend S x y) (fun S => f_X11_mend S x y)) := by
  unfold f_L_mend
  have hn := Q.2.2.2.2.1.1
  by_cases hx : ∃ f, f < nf ∧ x = nI f
  · obtain ⟨f, hf, rfl⟩ := hx
    rcases pu_below (x := y) (n := 64) (by omega) with ⟨s, hs, rfl⟩ | ⟨-, hy⟩
    · have iy : f_X11_isIn (nI s) 0 63 = some 1 := in_ok (m := 63) (by omega) (by omega)
      have ny : f_X10_needBelow (nI s) 64 = some (.inr ()) := nb_ok (n := 64) hs (by omega)
      have b1 := bc_J ⟨s, hs⟩
      have b2 := bc_M ⟨s, hs⟩
      have b6 := bc_le s
      dsimp only at b1 b2
      by_cases h4 : 4 ≤ pu_bc s
      · refine op_yes Q (fun M QM => ?_)
        obtain ⟨-, ⟨d, d1, d2, d3, d4⟩, hv, -⟩ := (QM.2.2.2.2.2.2.1 f hf).1
        refine ⟨S, sv_T d, ps_up M 80 0 0, ?_, fc_0, ?_, pu_up_same _ _ _ _, fm_0, rl_up (rq_R (rq_0 QM)), rfl⟩
        · unfold f_X10_mend f_X8_mended
          rw [pu_bxr (fa_ok Q.2.2.2.2 hf), pu_bxr ny, b1, pu_sb, if_pos (lit_le (x := 4) (n := 4) rfl h4 (by omega)), fk4, solve_ok d1 hs h4 (fun i hi => by rw [hv i (by omega)]; exact d2 i hi) (by rw [hv 4 (by omega)]; exact d3) (by rw [hv 5 (by omega)]; exact d4), pu_sb, pu_sb]
        · unfold f_X11_mend f_X11_mend_J36
          have e0 : (6 : Int32) * nI f = nI (6 * f) := by rw [show (6 : Int32) = nI 6 from rfl, pu_mul]
          have e1 : nI (6 * f) + 1 = nI (6 * f + 1) := nI_add _ 1
          have e2 : nI (6 * f) + 2 = nI (6 * f + 2) := nI_add _ 2
          have e3 : nI (6 * f) + 3 = nI (6 * f + 3) := nI_add _ 3
          rw [mf_is QM.2.2.2.2.1.2.2 hn hf, pu_sb, if_neg (by decide), iy, pu_sb, if_neg (by decide), b2, pu_sb, if_neg (lit_ge2 (x := 3) (n := 3) rfl (by omega) (by omega)), pu_b2 (pu_h0 M), if_neg (by decide), e0, e1, e2, e3, if_pos (pu_ib (by omega) (by omega)), if_pos (pu_ib (by omega) (by omega)), if_pos (pu_ib (by omega) (by omega)), if_pos (pu_ib (by omega) (by omega)), nI_clamp (by omega), nI_clamp (by omega), nI_clamp (by omega), nI_clamp (by omega), pu_up_k (a := 92) (by omega), pu_up_k (a := 92) (by omega), pu_up_k (a := 92) (by omega), pu_up_k (a := 92) (by omega)]
          have g0 : M 92 (6 * f) = nI (d 0) := d2 0 (by omega)
          rw [g0, d2 1 (by omega), d2 2 (by omega), d2 3 (by omega)]
          rfl
      · refine op_no (e := 0) (k := 2) Q ?_ rfl (by decide) ?_
        · unfold f_X10_mend
          rw [pu_bxr (fa_ok Q.2.2.2.2 hf), pu_bxr ny, b1, pu_sb, if_neg (lit_ge (x := 4) (n := 4) rfl (by omega) (by omega))]
        · show f_X11_mend S (nI f) (nI s) = _
          unfold f_X11_mend f_X11_mend_J36
          rw [mf_is Q.2.2.2.2.1.2.2 hn hf, pu_sb, if_neg (by decide), iy, pu_sb, if_neg (by decide), b2, pu_sb, if_pos (lit_le2 (x := 3) (n := 3) rfl (by omega) (by omega))]
          exact pu_no (by decide) _ (if_pos rfl)
    · refine op_no (e := 0) (k := 2) Q ?_ rfl (by decide) ?_
      · unfold f_X10_mend
        have ny : f_X10_needBelow y 64 = some (.inl 0) := nb_no (n := 64) hy
        rw [pu_bxr (fa_ok Q.2.2.2.2 hf), pu_bxl ny]
      · show f_X11_mend S (nI f) y = _
        unfold f_X11_mend f_X11_mend_J36
        have iy : f_X11_isIn y 0 63 = some 0 := in_no (m := 63) (n := 64) (by omega) (by omega) hy
        rw [mf_is Q.2.2.2.2.1.2.2 hn hf, pu_sb, if_neg (by decide), iy, pu_sb, if_pos rfl]
        exact pu_no (by decide) _ (if_pos rfl)
  · refine op_no (e := 1) (k := 1) Q ?_ rfl (by decide) ?_
    · unfold f_X10_mend
      rw [pu_bxl (fa_no Q.2.2.2.2 hx)]
    · show f_X11_mend S x y = _
      unfold f_X11_mend f_X11_mend_J36
      rw [mf_no Q.2.2.2.2.1.2.2 hn hx, pu_sb, if_pos rfl]
      exact pu_no (by decide) _ (if_pos rfl)
end
