/-! calls on peers: turn, bucket, lookup, asked, closest -/
section
variable {np nf c B f o : Nat} {id so on : Nat → Int32} {kp : Nat → Nat → List Nat} {C M C' M' S : ps_S} {D : Nat → Nat → Nat} {ow : Nat → Nat}
theorem rl_look (P : rl_P np id so on kp C M) {me key ways : Nat} (hm : me < np) (hk : key < 256) (hw : ways = 1 ∨ ways = 2) : ∃ (C' M' : ps_S) (kp' : Nat → Nat → List Nat) (L : List Nat), f_X7_run C (nI me) (nI key) (nI ways) = some C' ∧ f_X11_looksUp M (nI me) (nI key) (nI ways) = some M' ∧ rl_P np id so on kp' C' M' ∧ C' 22 6 = M' 80 14 ∧ (L.length ≤ 3 ∧ ∀ a ∈ L, a < np) ∧ (∀ i, i < 3 → f_X6_at C' 29 (nI i) = some (pu_enc L[i]?)) ∧ f_X6_digits C' 29 = some (pu_dig L) ∧ M' 80 13 = nI L.length ∧ (∀ i a, L[i]? = some a → M' 90 i = nI a) ∧ lk_F C C' ∧ lk_G M M' := by
  obtain ⟨C', e1, c, f, I⟩ := lc_run P.2.1 P.1 hm hk hw
  obtain ⟨M', e2, m, h14, h13, h90, g⟩ := lm_run (key := key) P.2.2 P.1 hm hw
  exact ⟨C', M', (lk_run np id so on key me kp ways).1, lk_res np id key (lk_run np id so on key me kp ways), e1, e2, ⟨I.1, c.1, m⟩, by rw [c.2.2.2.2.2, h14], ⟨sel_len, fun a ha => (sel_mem ha).1⟩, fun i hi => lc_at c I.1 hk hi, lc_digits c I.1 hk, h13, h90, f, g⟩
theorem mt_step {L : List Nat} (h90 : ∀ i a, L[i]? = some a → M 90 i = nI a) {i a : Nat} (hi : i < 3) (h : L[i]? = some a) (v : Int32) : f_X11_told_L9 M v (nI i) = some (.inl (32 * v + nI a + 1, nI i + (-1))) := by
  unfold f_X11_told_L9
  rw [if_neg (nI_pos (by omega)), if_pos (pu_ib (by omega) (by omega)), nI_clamp (by omega), h90 i a h]
theorem mt_told {L : List Nat} (hl : L.length ≤ 3) (h13 : M 80 13 = nI L.length) (h90 : ∀ i a, L[i]? = some a → M 90 i = nI a) : f_X11_told M = some (pu_dig L) := by
  unfold f_X11_told
  rw [h13]
  have fin : ∀ v, f_X11_told_L9 M v (-1) = some (.inr v) := fun v => by
    unfold f_X11_told_L9
    rw [if_pos (by decide)]
  have it1 : ∀ (n : Nat) (v : Int32) (i : Int32) (r : Int32) (w : Int32) (j : Int32), f_X11_told_L9 M v i = some (.inl (w, j)) → ps_it (fun (a : Int32 × Int32) => f_X11_told_L9 M a.1 a.2) n (w, j) = some r → ps_it (fun (a : Int32 × Int32) => f_X11_told_L9 M a.1 a.2) (n + 1) (v, i) = some r := by
    intro n v i r w j h1 h2
    show (f_X11_told_L9 M v i).bind _ = _
    rw [h1]
    exact h2
  have it0 : ∀ (n : Nat) (v : Int32), ps_it (fun (a : Int32 × Int32) => f_X11_told_L9 M a.1 a.2) (n + 1) (v, -1) = some v := by
    intro n v
    show (f_X11_told_L9 M v (-1)).bind _ = _
    rw [fin]
    rfl
  have m32 : ∀ x : Int32, 32 * x = x * 32 := fun x => Int32.mul_comm 32 x
  have fu : ps_fu = 19996 + 1 + 1 + 1 + 1 := rfl
  have z : ((0 : Int32) * 32 + (-1)) + 1 = 0 := by decide
  match L, hl with
  | [], _ =>
    rw [show nI ([] : List Nat).length - 1 = -1 from by decide, fu, it0]
    show some (0 : Int32) = some (pu_dig [])
    decide
  | [a], _ =>
    have hl0 : nI ([a] : List Nat).length - 1 = nI 0 := (show nI 1 - 1 = nI 0 by decide)
    have s0 := mt_step h90 (i := 0) (a := a) (by omega) rfl 0
    have r : ps_it (fun (a : Int32 × Int32) => f_X11_told_L9 M a.1 a.2) ps_fu (0, nI 0) = some (32 * 0 + nI a + 1) := it1 _ _ _ _ _ _ s0 (by rw [show nI 0 + (-1) = -1 from by decide]; exact it0 _ _)
    rw [hl0, r, pu_sb]
    show some (32 * 0 + nI a + 1) = some (((((((0 * 32 + (-1)) + 1) * 32 + (-1)) + 1) * 32) + nI a) + 1)
    rw [z, z, m32]
  | [a, b], _ =>
    have hl0 : nI ([a, b] : List Nat).length - 1 = nI 1 := (show nI 2 - 1 = nI 1 by decide)
    have s1 := mt_step h90 (i := 1) (a := b) (by omega) rfl 0
    have s0 := mt_step h90 (i := 0) (a := a) (by omega) rfl (32 * 0 + nI b + 1)
    have r : ps_it (fun (a : Int32 × Int32) => f_X11_told_L9 M a.1 a.2) ps_fu (0, nI 1) = some (32 * (32 * 0 + nI b + 1) + nI a + 1) := it1 _ _ _ _ _ _ s1 (by rw [show nI 1 + (-1) = nI 0 from by decide]; exact it1 _ _ _ _ _ _ s0 (by rw [show nI 0 + (-1) = -1 from by decide]; exact it0 _ _))
    rw [hl0, r, pu_sb]
    show some (32 * (32 * 0 + nI b + 1) + nI a + 1) = some (((((((0 * 32 + (-1)) + 1) * 32 + nI b) + 1) * 32) + nI a) + 1)
    rw [z, m32, m32]
  | [a, b, d], _ =>
    have hl0 : nI ([a, b, d] : List Nat).length - 1 = nI 2 := (show nI 3 - 1 = nI 2 by decide)
    have s2 := mt_step h90 (i := 2) (a := d) (by omega) rfl 0
    have s1 := mt_step h90 (i := 1) (a := b) (by omega) rfl (32 * 0 + nI d + 1)
    have s0 := mt_step h90 (i := 0) (a := a) (by omega) rfl (32 * (32 * 0 + nI d + 1) + nI b + 1)
    have r : ps_it (fun (a : Int32 × Int32) => f_X11_told_L9 M a.1 a.2) ps_fu (0, nI 2) = some (32 * (32 * (32 * 0 + nI d + 1) + nI b + 1) + nI a + 1) := it1 _ _ _ _ _ _ s2 (by rw [show nI 2 + (-1) = nI 1 from by decide]; exact it1 _ _ _ _ _ _ s1 (by rw [show nI 1 + (-1) = nI 0 from by decide]; exact it1 _ _ _ _ _ _ s0 (by rw [show nI 0 + (-1) = -1 from by decide]; exact it0 _ _)))
    rw [hl0, r, pu_sb]
    show some (32 * (32 * (32 * 0 + nI d + 1) + nI b + 1) + nI a + 1) = some (((((((0 * 32 + nI d) + 1) * 32 + nI b) + 1) * 32) + nI a) + 1)
    rw [m32, m32, m32]
  | a :: b :: d :: e :: t, hl => exact absurd hl (by simp)
theorem aw_on {v : Int32} {p : Nat} (hv : v = 0 ∨ v = 1) (w : pu_AW np id on kp) : pu_AW np id (fun q => if q = p then v else on q) kp := ⟨w.1, w.2.1, w.2.2.1, fun q hq => by
  dsimp only
  by_cases e : q = p
  · rw [if_pos e]; exact hv
  · rw [if_neg e]; exact w.2.2.2.1 q hq, w.2.2.2.2⟩
theorem rp_turn (P : rl_P np id so on kp C M) {p : Nat} (hp : p < np) {v : Int32} (hv : v = 0 ∨ v = 1) : rl_P np id so (fun q => if q = p then v else on q) kp (ps_up C 4 p v) (ps_up M 83 p v) := by
  obtain ⟨w, ⟨c1, c2⟩, m1, m2, m3⟩ := P
  refine ⟨aw_on hv w, ⟨by rw [pu_up_k (by omega)]; exact c1, fun q hq => ?_⟩, by rw [pu_up_k (by omega)]; exact m1, fun q hq => ?_, fun q hq hq2 b hb => by rw [pu_up_k (by omega)]; exact m3 q hq hq2 b hb⟩
  · obtain ⟨g1, g2, g3, g4⟩ := c2 q hq
    refine ⟨by rw [pu_up_k (by omega)]; exact g1, by rw [pu_up_k (by omega)]; exact g2, ?_, fun b hb => by rw [pu_up_k (by omega), pu_up_k (by omega)]; exact g4 b hb⟩
    dsimp only
    by_cases e : q = p
    · rw [if_pos e, e, pu_up_same]
    · rw [if_neg e, pu_up_i e]; exact g3
  · obtain ⟨g1, g2, g3, g4⟩ := m2 q hq
    refine ⟨by rw [pu_up_k (by omega)]; exact g1, by rw [pu_up_k (by omega)]; exact g2, ?_, fun b hb => ⟨by rw [pu_up_k (by omega)]; exact (g4 b hb).1, fun j a hj => by rw [pu_up_k (by omega)]; exact (g4 b hb).2 j a hj⟩⟩
    dsimp only
    by_cases e : q = p
    · rw [if_pos e, e, pu_up_same]
    · rw [if_neg e, pu_up_i e]; exact g3
theorem on_id {x : Int32} (h : x = 0 ∨ x = 1) : (if x = 0 then (0 : Int32) else 1) = x := by
  rcases h with rfl | rfl <;> rfl
theorem pu_nz01 (y : Int32) : (ps_nz y = 0 ∨ ps_nz y = 1) := by
  unfold ps_nz
  split
  · exact Or.inl rfl
  · exact Or.inr rfl
theorem pu_nbz {v : Int32} (h : v = 0 ∨ v = 1) : vp_nar .boolean v = v := by
  rcases h with rfl | rfl <;> rfl
theorem op_turn (Q : rl_Q np id so on kp nf ow D c S S) (x y : Int32) : op_K c S (f_cmp ps_nz (f_L_turn S x (ps_nz y)) (fun S => f_X11_turn S x (ps_nz y))) := by
  have hv := pu_nz01 y
  generalize ps_nz y = v at hv ⊢
  unfold f_L_turn
  by_cases hx : ∃ p, p < np ∧ x = nI p
  · obtain ⟨p, hp, rfl⟩ := hx
    have hn := Q.1.1.1
    refine op_yes Q (fun M QM => ⟨ps_up S 4 p v, on p, ps_up (ps_up M 80 0 0) 83 p v, ?_, fun a b h1 h2 => by rw [pu_up_k (by omega)], ?_, by rw [pu_up_k (by omega), pu_up_same], fun a b h => by rw [pu_up_k (by omega), pu_up_k (by omega)], ?_, by rw [pu_up_k (by omega)]⟩)
    · unfold f_X10_turn f_X5_setOnline
      rw [pu_bxr (np_ok Q.1 hp), cp_on Q.1.2.1 hn hp, pu_sb, cp_has Q.1.2.1.1 hn hp, pu_sb, if_neg (by decide), if_pos (pu_ib (by omega) (by omega)), pu_sb, nI_clamp (by omega), pu_nbz hv, on_id (rp_on Q.1 hp), if_pos (rp_on Q.1 hp)]
    · unfold f_X11_turn f_X11_turn_J14
      rw [mp_is QM.1.2.2.1 hn hp, pu_sb, if_neg (by decide), pu_b2 (pu_h0 M), if_neg (by decide), if_pos (pu_ib (by omega) (by omega)), if_pos (pu_ib (by omega) (by omega)), nI_clamp (by omega), pu_up_k (by omega), mp_on QM.1 hp, if_pos (rp_on QM.1 hp), pu_nbz hv]
    · obtain ⟨P, O, N, DD, F⟩ := rq_0 QM (v := 0)
      exact rl_up (rq_R ⟨rp_turn P hp hv, ro_congr O (by rw [pu_up_k (by omega)]) (by rw [pu_up_k (by omega)]) (by rw [pu_up_k (by omega)]) (by rw [pu_up_k (by omega)]) (by rw [pu_up_k (by omega)]) (by rw [pu_up_k (by omega)]), rn_congr N (fun a b h1 h2 => by rw [pu_up_k (by omega)]) (fun a b h1 h2 => by rw [pu_up_k (by omega)]), rd_congr DD (fun a b h1 h2 => by rw [pu_up_k (by omega)]) (fun b => by rw [pu_up_k (by omega)]), rf_congr F (by rw [pu_up_k (by omega)]) (fun b => by rw [pu_up_k (by omega)]) (fun a b h => by rw [pu_up_k (by omega)]) (by rw [pu_up_k (by omega)]) (fun a b h1 h2 => by rw [pu_up_k (by omega)])⟩)
  · refine op_no (e := 1) (k := 1) Q ?_ rfl (by decide) ?_
    · unfold f_X10_turn
      rw [pu_bxl (np_no Q.1 hx)]
    · show f_X11_turn S x v = _
      unfold f_X11_turn f_X11_turn_J14
      rw [mp_isno Q.1.2.2.1 Q.1.1.1 hx, pu_sb, if_pos rfl]
      exact pu_no (by decide) _ (if_pos rfl)
theorem op_bucket (Q : rl_Q np id so on kp nf ow D c S S) (x y z : Int32) : op_K c S (f_cmp (fun r => r) (f_L_bucket S x y z) (fun S => f_X11_bucket S x y z)) := by
  unfold f_L_bucket
  have hn := Q.1.1.1
  by_cases hx : ∃ p, p < np ∧ x = nI p
  · obtain ⟨p, hp, rfl⟩ := hx
    by_cases hz : (0 : Int32) ≤ z
    · rcases pu_below (x := y) (n := 8) (by omega) with ⟨b, hb, rfl⟩ | ⟨-, hy⟩
      · obtain ⟨i, hi, rfl⟩ := nI_of (Int32.not_lt.mpr hz)
        refine op_yes Q (fun M QM => ⟨S, pu_enc (kp p b)[i]?, ps_up M 80 0 0, ?_, fc_0, ?_, pu_up_same _ _ _ _, fm_0, rl_up (rq_R (rq_0 QM)), rfl⟩)
        · unfold f_X10_bucket
          have nb : f_X10_needBelow (nI b) 8 = some (.inr ()) := nb_ok (n := 8) hb (by omega)
          rw [pu_bxr (np_ok Q.1 hp), if_pos hz, pu_bxr nb]
          have hl := (Q.1.1.2.2.2.2 p hp b hb).1
          by_cases e : 2 ≤ i
          · rw [if_pos (lit_le (x := 2) (n := 2) rfl e hi), List.getElem?_eq_none (by omega)]
            rfl
          · rw [if_neg (lit_ge (x := 2) (n := 2) rfl (by omega) (by omega))]
            unfold f_X5_keptAt
            have hbi : nI b * 2 + nI i = nI (2 * b + i) := by
              rw [show (2 : Int32) = nI 2 from rfl, pu_mul, nI_add, Nat.mul_comm]
            rw [cp_has Q.1.2.1.1 hn hp, pu_sb, if_neg (by decide), hbi, if_neg (nI_pos (by omega)), if_pos (pu_ib (by omega) (by omega)), if_neg (by rw [pu_i16]; exact nI_ge (by omega) (by omega)), if_pos (pu_ib (by omega) (by omega)), if_pos (pu_ib (by omega) (by omega)), nI_clamp (by omega), nI_clamp (by omega), cp_cell Q.1.2.1 hp (by omega), pu_sb, show (2 * b + i) / 2 = b by omega, show (2 * b + i) % 2 = i by omega]
        · unfold f_X11_bucket f_X11_bucket_J32
          have ii : f_X11_isIn (nI b) 0 7 = some 1 := in_ok (m := 7) (by omega) (by omega)
          rw [mp_is QM.1.2.2.1 hn hp, pu_sb, if_neg (by decide), if_pos hz, ii, pu_sb, if_neg (by decide), pu_b2 (pu_h0 M), if_neg (by decide), pu_8, nI_add, if_pos (pu_ib (by omega) (by omega)), nI_clamp (by omega), pu_up_k (by omega)]
          obtain ⟨g1, g2⟩ := (QM.1.2.2.2.1 p hp).2.2.2 b hb
          have hl := (Q.1.1.2.2.2.2 p hp b hb).1
          rw [g1]
          by_cases e : (kp p b).length ≤ i
          · rw [if_pos (nI_le e hi), List.getElem?_eq_none e]
            rfl
          · rw [if_neg (nI_ge (by omega) (by omega)), pu_2, nI_add, if_pos (pu_ib (by omega) (by omega)), nI_clamp (by omega), pu_up_k (by omega), g2 i _ (List.getElem?_eq_getElem (by omega)), List.getElem?_eq_getElem (by omega)]
            rfl
      · refine op_no (e := 0) (k := 2) Q ?_ rfl (by decide) ?_
        · unfold f_X10_bucket
          have nb : f_X10_needBelow y 8 = some (.inl 0) := nb_no (n := 8) hy
          rw [pu_bxr (np_ok Q.1 hp), if_pos hz, pu_bxl nb]
        · show f_X11_bucket S (nI p) y z = _
          unfold f_X11_bucket f_X11_bucket_J32
          have ii : f_X11_isIn y 0 7 = some 0 := in_no (m := 7) (n := 8) (by omega) (by omega) hy
          rw [mp_is Q.1.2.2.1 hn hp, pu_sb, if_neg (by decide), if_pos hz, ii, pu_sb, if_pos rfl]
          exact pu_no (by decide) _ (if_pos rfl)
    · refine op_no (e := 1) (k := 1) Q ?_ rfl (by decide) ?_
      · unfold f_X10_bucket
        rw [pu_bxr (np_ok Q.1 hp), if_neg hz]
      · show f_X11_bucket S (nI p) y z = _
        unfold f_X11_bucket f_X11_bucket_J32
        rw [mp_is Q.1.2.2.1 hn hp, pu_sb, if_neg (by decide), if_neg hz]
        exact pu_no (by decide) _ (if_pos rfl)
  · refine op_no (e := 1) (k := 1) Q ?_ rfl (by decide) ?_
    · unfold f_X10_bucket
      rw [pu_bxl (np_no Q.1 hx)]
    · show f_X11_bucket S x y z = _
      unfold f_X11_bucket f_X11_bucket_J32
      rw [mp_isno Q.1.2.2.1 Q.1.1.1 hx, pu_sb, if_pos rfl]
      exact pu_no (by decide) _ (if_pos rfl)
/-- a lookup leaves the rest as it is -/
theorem rq_look {kp' : Nat → Nat → List Nat} (Q : rl_Q np id so on kp nf ow D c C M) (P : rl_P np id so on kp' C' M') (h : C' 22 6 = M' 80 14) (f : lk_F C C') (g : lk_G M M') : rl_Q np id so on kp' nf ow D c C' M' := by
  obtain ⟨-, O, N, DD, F⟩ := Q
  refine ⟨P, ⟨h, ?_⟩, rn_congr N (fun a b h1 h2 => f a b (by omega)) (fun a b h1 h2 => g a b (by omega) (by omega)), rd_congr DD (fun a b h1 h2 => f a b (by omega)) (fun b => g _ b (by omega) (by omega)), rf_congr F (f _ _ (by omega)) (fun b => f _ b (by omega)) (fun a b h => f a b (by omega)) (g _ _ (by omega) (by omega)) (fun a b h1 h2 => g a b (by omega) (by omega))⟩
  rw [f 78 2 (by omega), f 0 9 (by omega), g 80 26 (by omega) (by omega), g 80 1 (by omega) (by omega)]
  exact O.2
theorem fc_look (f : lk_F C C') : (∀ a b, 80 ≤ a → a ≤ 102 → C' a b = C a b) ∧ C' 0 8 = C 0 8 := ⟨fun a b h1 h2 => f a b (by omega), f _ _ (by omega)⟩
theorem fm_look (g : lk_G M M') : (∀ a b, (a < 80 ∨ 102 ≤ a) → M' a b = M a b) ∧ M' 80 0 = M 80 0 := ⟨fun a b h => g a b (by omega) (by omega), g _ _ (by omega) (by omega)⟩
theorem pu_way {z : Int32} (h1 : ¬ z < 1) (h2 : z ≤ 2) : ∃ w, (w = 1 ∨ w = 2) ∧ z = nI w := by
  have h0 : ¬ z < 0 := fun h => h1 (pu_tr h (by decide))
  obtain ⟨w, hw, rfl⟩ := nI_of h0
  have a1 : ¬ w < 1 := fun h => h1 (lit_lt (x := 1) (n := 1) rfl h (by omega))
  have a2 : w ≤ 2 := (nI_leI (b := 2) hw (by omega)).mp h2
  exact ⟨w, by omega, rfl⟩
theorem op_lookup (Q : rl_Q np id so on kp nf ow D c S S) (x y z : Int32) : op_K c S (f_cmp (fun r => r) (f_L_lookup S x y z) (fun S => f_X11_lookup S x y z)) := by
  unfold f_L_lookup
  have hn := Q.1.1.1
  by_cases hx : ∃ p, p < np ∧ x = nI p
  · obtain ⟨p, hp, rfl⟩ := hx
    rcases pu_below (x := y) (n := 256) (by omega) with ⟨key, hk, rfl⟩ | ⟨-, hy⟩
    · have nb : f_X10_needBelow (nI key) 256 = some (.inr ()) := nb_ok (n := 256) hk (by omega)
      have ii : f_X11_isIn (nI key) 0 255 = some 1 := in_ok (m := 255) (by omega) (by omega)
      by_cases z1 : z < 1
      · refine op_no (e := 0) (k := 2) Q ?_ rfl (by decide) ?_
        · unfold f_X10_lookup
          rw [pu_bxr (np_ok Q.1 hp), pu_bxr nb, if_pos z1]
        · show f_X11_lookup S (nI p) (nI key) z = _
          unfold f_X11_lookup f_X11_lookup_J32 f_X11_lookup_J67
          have iz : f_X11_isIn z 1 2 = some 0 := by unfold f_X11_isIn; rw [if_pos z1]
          rw [mp_is Q.1.2.2.1 hn hp, pu_sb, ii, pu_sb, if_neg (by decide), iz, pu_sb, if_pos rfl, if_neg (by decide), if_pos rfl]
          exact pu_no (by decide) _ (if_pos rfl)
      · by_cases z2 : z ≤ 2
        · obtain ⟨ways, hw, rfl⟩ := pu_way z1 z2
          have iz : f_X11_isIn (nI ways) 1 2 = some 1 := by
            unfold f_X11_isIn
            rw [if_neg z1, if_neg (Int32.not_lt.mpr z2)]
          rcases rp_on Q.1 hp with e | e
          · refine op_no (e := 2) (k := 3) Q ?_ rfl (by decide) ?_
            · unfold f_X10_lookup
              rw [pu_bxr (np_ok Q.1 hp), pu_bxr nb, if_neg z1, if_pos z2, pu_bxl (no_no Q.1 hp e)]
            · show f_X11_lookup S (nI p) (nI key) (nI ways) = _
              unfold f_X11_lookup f_X11_lookup_J32 f_X11_lookup_J67
              rw [mp_is Q.1.2.2.1 hn hp, pu_sb, ii, pu_sb, if_neg (by decide), iz, pu_sb, if_neg (by decide), if_neg (by decide), if_neg (by decide), if_pos (pu_ib (by omega) (by omega)), nI_clamp (by omega), mp_on Q.1 hp, if_pos e]
              exact pu_no (by decide) _ (if_pos rfl)
          · refine op_yes Q (fun M QM => ?_)
            have Q0 := rq_0 QM (v := 0)
            obtain ⟨C', M', kp', L, e1, e2, P', h6, hL, hat, hdig, h13, h90, f, g⟩ := rl_look Q0.1 hp hk hw
            refine ⟨C', pu_dig L, M', ?_, (fc_look f).1, ?_, by rw [(fm_look g).2, pu_up_same], rl_fmt fm_0 (fm_look g).1, rl_up (rq_R (rq_look Q0 P' h6 f g)), (fc_look f).2⟩
            · unfold f_X10_lookup
              rw [pu_bxr (np_ok Q.1 hp), pu_bxr nb, if_neg z1, if_pos z2, pu_bxr (no_ok Q.1 hp e), e1, pu_sb, hdig, pu_sb]
            · unfold f_X11_lookup f_X11_lookup_J32 f_X11_lookup_J67
              rw [mp_is QM.1.2.2.1 hn hp, pu_sb, ii, pu_sb, if_neg (by decide), iz, pu_sb, if_neg (by decide), if_neg (by decide), if_neg (by decide), if_pos (pu_ib (by omega) (by omega)), nI_clamp (by omega), mp_on QM.1 hp, e, if_neg (by decide), pu_b2 (pu_h0 M), if_neg (by decide), e2, pu_sb, mt_told hL.1 h13 h90, pu_sb]
        · refine op_no (e := 0) (k := 2) Q ?_ rfl (by decide) ?_
          · unfold f_X10_lookup
            rw [pu_bxr (np_ok Q.1 hp), pu_bxr nb, if_neg z1, if_neg z2]
          · show f_X11_lookup S (nI p) (nI key) z = _
            unfold f_X11_lookup f_X11_lookup_J32 f_X11_lookup_J67
            have iz : f_X11_isIn z 1 2 = some 0 := by unfold f_X11_isIn; rw [if_neg z1, if_pos (Int32.not_le.mp z2)]
            rw [mp_is Q.1.2.2.1 hn hp, pu_sb, ii, pu_sb, if_neg (by decide), iz, pu_sb, if_pos rfl, if_neg (by decide), if_pos rfl]
            exact pu_no (by decide) _ (if_pos rfl)
    · refine op_no (e := 0) (k := 2) Q ?_ rfl (by decide) ?_
      · unfold f_X10_lookup
        have nb : f_X10_needBelow y 256 = some (.inl 0) := nb_no (n := 256) hy
        rw [pu_bxr (np_ok Q.1 hp), pu_bxl nb]
      · show f_X11_lookup S (nI p) y z = _
        unfold f_X11_lookup f_X11_lookup_J32 f_X11_lookup_J67
        have ii : f_X11_isIn y 0 255 = some 0 := in_no (m := 255) (n := 256) (by omega) (by omega) hy
        rw [mp_is Q.1.2.2.1 hn hp, pu_sb, ii, pu_sb, if_pos rfl, if_neg (by decide), if_pos rfl]
        exact pu_no (by decide) _ (if_pos rfl)
  · refine op_no (e := 1) (k := 1) Q ?_ rfl (by decide) ?_
    · unfold f_X10_lookup
      rw [pu_bxl (np_no Q.1 hx)]
    · show f_X11_lookup S x y z = _
      have j : ∀ v, f_X11_lookup_J32 S x y z 0 v = some (0, ps_up S 80 0 1) := fun v => by
        unfold f_X11_lookup_J32 f_X11_lookup_J67
        rw [if_pos rfl]
        exact pu_no (by decide) _ (if_pos rfl)
      have iy : ∃ v, f_X11_isIn y 0 255 = some v := by
        unfold f_X11_isIn
        split
        · exact ⟨_, rfl⟩
        · split <;> exact ⟨_, rfl⟩
      have iz : ∃ v, f_X11_isIn z 1 2 = some v := by
        unfold f_X11_isIn
        split
        · exact ⟨_, rfl⟩
        · split <;> exact ⟨_, rfl⟩
      obtain ⟨vy, iy⟩ := iy
      obtain ⟨vz, iz⟩ := iz
      unfold f_X11_lookup
      rw [mp_isno Q.1.2.2.1 Q.1.1.1 hx, pu_sb, iy, pu_sb, iz, pu_sb, j, j]
      split
      · rfl
      · split <;> rfl
theorem op_asked (Q : rl_Q np id so on kp nf ow D c S S) : op_K c S ((f_X10_asked S).bind fun r1 => ps_b2 (f_X11_asked S) fun r2 S2 => if r1 = r2 then some S2 else none) := by
  refine ⟨ps_up S 80 0 0, ?_, rl_up (rl_C (rq_R (rq_0 Q)) (fun a b h => by rw [pu_up_k (by omega)])), by rw [pu_up_k (by omega)]⟩
  unfold f_X10_asked f_X7_askedCount f_X11_asked
  rw [pu_sb, pu_sb, pu_b2 rfl, if_pos (by rw [pu_up_i (by omega)]; exact Q.2.1.1)]
theorem op_rounds (Q : rl_Q np id so on kp nf ow D c S S) : op_K c S ((f_X10_rounds S).bind fun r1 => ps_b2 (f_X11_rounds S) fun r2 S2 => if r1 = r2 then some S2 else none) := by
  refine ⟨ps_up S 80 0 0, ?_, rl_up (rl_C (rq_R (rq_0 Q)) (fun a b h => by rw [pu_up_k (by omega)])), by rw [pu_up_k (by omega)]⟩
  unfold f_X10_rounds f_X3_roundCount f_X11_rounds
  rw [pu_sb, pu_sb, pu_b2 rfl, if_pos (by rw [pu_up_i (by omega)]; exact Q.2.1.2.1)]
end
