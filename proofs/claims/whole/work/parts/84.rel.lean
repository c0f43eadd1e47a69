/-! THE TWO SIDES: what binds the class (read in C) to the reference (read in M) -/
theorem lit_ge {x : Int32} {n a : Nat} (hx : x = nI n) (h : a < n) (hn : n < 2 ^ 31) : ¬ x ≤ nI a := by rw [hx]; exact nI_ge h hn
theorem lit_ge2 {x : Int32} {n a : Nat} (hx : x = nI n) (h : n < a) (ha : a < 2 ^ 31) : ¬ nI a ≤ x := by rw [hx]; exact nI_ge h ha
theorem lit_le {x : Int32} {n a : Nat} (hx : x = nI n) (h : n ≤ a) (ha : a < 2 ^ 31) : x ≤ nI a := by rw [hx]; exact nI_le h ha
theorem lit_le2 {x : Int32} {n a : Nat} (hx : x = nI n) (h : a ≤ n) (hn : n < 2 ^ 31) : nI a ≤ x := by rw [hx]; exact nI_le h hn
theorem lit_lt {x : Int32} {n a : Nat} (hx : x = nI n) (h : a < n) (hn : n < 2 ^ 31) : nI a < x := by rw [hx]; exact nI_lt h hn
def rl_fc (C C' : ps_S) : Prop := ∀ a b, 80 ≤ a → a ≤ 102 → C' a b = C a b
def rl_fm (M M' : ps_S) : Prop := ∀ a b, (a < 80 ∨ 102 ≤ a) → M' a b = M a b
theorem rl_fct {C C' C'' : ps_S} (h : rl_fc C C') (h2 : rl_fc C' C'') : rl_fc C C'' := fun a b x y => (h2 a b x y).trans (h a b x y)
theorem rl_fmt {C C' C'' : ps_S} (h : rl_fm C C') (h2 : rl_fm C' C'') : rl_fm C C'' := fun a b x => (h2 a b x).trans (h a b x)
def rl_P (np : Nat) (id so on : Nat → Int32) (kp : Nat → Nat → List Nat) (C M : ps_S) : Prop := pu_AW np id on kp ∧ pu_CP np id so on kp C ∧ pu_MP np id so on kp M
/-- from c = 600 on the class's day may be one ahead (amid pass) -/
def rl_O (c : Nat) (C M : ps_S) : Prop := C 22 6 = M 80 14 ∧ C 78 2 = M 80 26 ∧ ∃ d, d ≤ 500 ∧ C 0 9 = nI d ∧ (M 80 1 = nI d ∨ 600 ≤ c ∧ M 80 1 + 1 = nI d)
def rl_N (C M : ps_S) : Prop := (∀ k, k < 256 → C 60 k = M 97 k) ∧ ∀ p k, p < 16 → k < 256 → (C (62 + p) k = -1 ∧ M 98 (256 * p + k) = -1) ∨ ∃ n v, n < 1000 ∧ v < 1000 ∧ C (62 + p) k = nI (1000 * n + v) ∧ M 98 (256 * p + k) = nI n ∧ M 99 (256 * p + k) = nI v
def rl_D (np : Nat) (D : Nat → Nat → Nat) (B : Nat) (C M : ps_S) : Prop := (∀ p q, p < 16 → q < 16 → C (38 + p) q = nI (D p q) ∧ M 101 (16 * p + q) = nI (D p q) ∧ D p q ≤ B) ∧ ∀ p q, (np ≤ p ∨ np ≤ q) → D p q = 0
def pu_h (x y : Int32) : Int32 := ((((x * 31) + y) * 1103515245) + 12345) ^^^ (ps_ushr ((((x * 31) + y) * 1103515245) + 12345) 16)
/-- N is the tree of the values v -/
def rl_T (v N : Nat → Int32) : Prop := (∀ k, k < 6 → N (8 + k) = pu_h (v k) (nI k)) ∧ N 14 = 0 ∧ N 15 = 0 ∧ ∀ n, 0 < n → n < 8 → N n = pu_h (N (2 * n)) (N (2 * n + 1))
theorem rl_Tu {v N N' : Nat → Int32} (h : rl_T v N) (h' : rl_T v N') : ∀ n, 0 < n → n < 16 → N n = N' n := by
  obtain ⟨a1, a2, a3, a4⟩ := h
  obtain ⟨b1, b2, b3, b4⟩ := h'
  have hi : ∀ n, 8 ≤ n → n < 16 → N n = N' n := by
    intro n h8 h16
    by_cases e : n < 14
    · have x1 := a1 (n - 8) (by omega)
      have x2 := b1 (n - 8) (by omega)
      rw [show 8 + (n - 8) = n by omega] at x1 x2
      rw [x1, x2]
    · rcases (show n = 14 ∨ n = 15 by omega) with e | e
      · rw [e, a2, b2]
      · rw [e, a3, b3]
  have mid : ∀ n, 4 ≤ n → n < 16 → N n = N' n := by
    intro n h4 h16
    by_cases e : n < 8
    · rw [a4 n (by omega) e, b4 n (by omega) e, hi _ (by omega) (by omega), hi _ (by omega) (by omega)]
    · exact hi n (by omega) h16
  have lo : ∀ n, 2 ≤ n → n < 16 → N n = N' n := by
    intro n h4 h16
    by_cases e : n < 4
    · rw [a4 n (by omega) (by omega), b4 n (by omega) (by omega), mid _ (by omega) (by omega), mid _ (by omega) (by omega)]
    · exact mid n (by omega) h16
  intro n h4 h16
  by_cases e : n < 2
  · rw [a4 n (by omega) (by omega), b4 n (by omega) (by omega), lo _ (by omega) (by omega), lo _ (by omega) (by omega)]
  · exact lo n (by omega) h16
/-- a byte as a polynomial times 2^i -/
def pu_tb (i b : Nat) : Nat := ([1, 2, 4, 8, 16, 32, 64, 128, 29, 58, 116] : List Nat).getD (i + b) 0
def pu_W (i v : Nat) : Nat := (List.range 8).foldl (fun a b => a ^^^ (if v.testBit b then pu_tb i b else 0)) 0
def rl_V (np f o : Nat) (C M : ps_S) : Prop := (o < np ∧ C (103 + 7 * f) 0 = nI o ∧ M 91 f = nI o) ∧ (∃ d : Nat → Nat, (∀ i, d i < 256) ∧ (∀ i, i < 4 → M 92 (6 * f + i) = nI (d i)) ∧ M 92 (6 * f + 4) = nI (d 0 ^^^ d 1 ^^^ d 2 ^^^ d 3) ∧ M 92 (6 * f + 5) = nI (pu_W 0 (d 0) ^^^ pu_W 1 (d 1) ^^^ pu_W 2 (d 2) ^^^ pu_W 3 (d 3))) ∧ (∀ k, k < 6 → C (107 + 7 * f) k = M 92 (6 * f + k)) ∧ rl_T (fun k => C (107 + 7 * f) k) (fun n => C (109 + 7 * f) n)
def rl_H1 (np o : Nat) (h k m : Int32) : Prop := (h = -1 ∨ ∃ x, x < np ∧ x ≠ o ∧ h = nI x) ∧ (k = 0 ∨ k = 1) ∧ ∃ n, n ≤ 2 ∧ m = nI n
def rl_H (np f o : Nat) (C M : ps_S) : Prop := ∀ k, k < 6 → (C (104 + 7 * f) k = M 93 (6 * f + k) ∧ C (105 + 7 * f) k = M 94 (6 * f + k) ∧ C (106 + 7 * f) k = M 95 (6 * f + k)) ∧ rl_H1 np o (M 93 (6 * f + k)) (M 94 (6 * f + k)) (M 95 (6 * f + k))
def rl_F (np nf : Nat) (ow : Nat → Nat) (C M : ps_S) : Prop := (nf ≤ 12 ∧ C 0 8 = nI nf ∧ M 80 15 = nI nf) ∧ (∀ i, i < 12 → (i < nf → C 57 i ≠ 0) ∧ (nf ≤ i → C 57 i = 0)) ∧ (∀ f, f < nf → rl_V np f (ow f) C M ∧ rl_H np f (ow f) C M) ∧ ∀ i, 6 * nf ≤ i → i < 72 → M 94 i = 0 ∧ M 95 i = 0
section
variable {np nf c B f o : Nat} {id so on : Nat → Int32} {kp : Nat → Nat → List Nat} {C M C' M' : ps_S} {D : Nat → Nat → Nat} {ow : Nat → Nat}
theorem rp_congr (h : rl_P np id so on kp C M) (hc : ∀ a b, a < 22 → C' a b = C a b) (h2 : M' 80 2 = M 80 2) (hm : ∀ a b, 81 ≤ a → a < 86 → M' a b = M a b) : rl_P np id so on kp C' M' := ⟨h.1, cp_congr h.2.1 h.1.1 hc, mp_congr h.2.2 h2 hm⟩
theorem ro_congr (h : rl_O c C M) (h1 : C' 22 6 = C 22 6) (h2 : C' 78 2 = C 78 2) (h3 : C' 0 9 = C 0 9) (h4 : M' 80 14 = M 80 14) (h5 : M' 80 26 = M 80 26) (h6 : M' 80 1 = M 80 1) : rl_O c C' M' := by
  unfold rl_O at h ⊢
  rw [h1, h2, h3, h4, h5, h6]
  exact h
theorem rn_congr (h : rl_N C M) (hc : ∀ a b, 60 ≤ a → a < 78 → C' a b = C a b) (hm : ∀ a b, 97 ≤ a → a ≤ 99 → M' a b = M a b) : rl_N C' M' := by
  refine ⟨fun k hk => by rw [hc _ _ (by omega) (by omega), hm _ _ (by omega) (by omega)]; exact h.1 k hk, fun p k hp hk => ?_⟩
  rw [hc _ _ (by omega) (by omega), hm _ _ (by omega) (by omega), hm _ _ (by omega) (by omega)]
  exact h.2 p k hp hk
theorem rd_congr (h : rl_D np D B C M) (hc : ∀ a b, 38 ≤ a → a < 54 → C' a b = C a b) (hm : ∀ b, M' 101 b = M 101 b) : rl_D np D B C' M' := by
  refine ⟨fun p q hp hq => ?_, h.2⟩
  rw [hc _ _ (by omega) (by omega), hm]
  exact h.1 p q hp hq
theorem rv_congr (h : rl_V np f o C M) (hc : ∀ a b, a = 103 + 7 * f ∨ a = 107 + 7 * f ∨ a = 109 + 7 * f → C' a b = C a b) (hm : ∀ a b, 91 ≤ a → a ≤ 92 → M' a b = M a b) : rl_V np f o C' M' := by
  unfold rl_V at h ⊢
  obtain ⟨⟨h1, h2, h3⟩, ⟨d, d1, d2, d3, d4⟩, h4, h5⟩ := h
  refine ⟨⟨h1, by rw [hc _ _ (by omega)]; exact h2, by rw [hm _ _ (by omega) (by omega)]; exact h3⟩, ⟨d, d1, fun i hi => by rw [hm _ _ (by omega) (by omega)]; exact d2 i hi, by rw [hm _ _ (by omega) (by omega)]; exact d3, by rw [hm _ _ (by omega) (by omega)]; exact d4⟩, fun k hk => by rw [hc _ _ (by omega), hm _ _ (by omega) (by omega)]; exact h4 k hk, ?_⟩
  have e1 : (fun k => C' (107 + 7 * f) k) = fun k => C (107 + 7 * f) k := funext fun k => hc _ _ (by omega)
  have e2 : (fun k => C' (109 + 7 * f) k) = fun k => C (109 + 7 * f) k := funext fun k => hc _ _ (by omega)
  rw [e1, e2]
  exact h5
theorem rh_congr (h : rl_H np f o C M) (hc : ∀ a b, b < 6 → a = 104 + 7 * f ∨ a = 105 + 7 * f ∨ a = 106 + 7 * f → C' a b = C a b) (hm : ∀ a b, 6 * f ≤ b → b < 6 * f + 6 → 93 ≤ a → a ≤ 95 → M' a b = M a b) : rl_H np f o C' M' := by
  intro k hk
  rw [hc _ _ hk (by omega), hc _ _ hk (by omega), hc _ _ hk (by omega), hm 93 _ (by omega) (by omega) (by omega) (by omega), hm 94 _ (by omega) (by omega) (by omega) (by omega), hm 95 _ (by omega) (by omega) (by omega) (by omega)]
  exact h k hk
theorem rf_congr (h : rl_F np nf ow C M) (h8 : C' 0 8 = C 0 8) (h57 : ∀ b, C' 57 b = C 57 b) (hc : ∀ a b, 103 ≤ a → C' a b = C a b) (h15 : M' 80 15 = M 80 15) (hm : ∀ a b, 91 ≤ a → a ≤ 95 → M' a b = M a b) : rl_F np nf ow C' M' := by
  obtain ⟨⟨a1, a2, a3⟩, b, v, z⟩ := h
  refine ⟨⟨a1, by rw [h8]; exact a2, by rw [h15]; exact a3⟩, fun i hi => by rw [h57]; exact b i hi, fun f hf => ⟨rv_congr (v f hf).1 (fun a b h => hc a b (by omega)) (fun a b h1 h2 => hm a b (by omega) (by omega)), rh_congr (v f hf).2 (fun a b _ h => hc a b (by omega)) (fun a b _ _ h1 h2 => hm a b (by omega) (by omega))⟩, fun i hi hi2 => ?_⟩
  rw [hm _ _ (by omega) (by omega), hm _ _ (by omega) (by omega)]
  exact z i hi hi2
end
def rl_Q (np : Nat) (id so on : Nat → Int32) (kp : Nat → Nat → List Nat) (nf : Nat) (ow : Nat → Nat) (D : Nat → Nat → Nat) (c : Nat) (C M : ps_S) : Prop := rl_P np id so on kp C M ∧ rl_O c C M ∧ rl_N C M ∧ rl_D np D (1000 * c) C M ∧ rl_F np nf ow C M
def rl_R (c : Nat) (C M : ps_S) : Prop := ∃ (np : Nat) (id so on : Nat → Int32) (kp : Nat → Nat → List Nat) (nf : Nat) (ow : Nat → Nat) (D : Nat → Nat → Nat), rl_Q np id so on kp nf ow D c C M
section
variable {np nf c B f o : Nat} {id so on : Nat → Int32} {kp : Nat → Nat → List Nat} {C M C' M' : ps_S} {D : Nat → Nat → Nat} {ow : Nat → Nat}
theorem rq_M (h : rl_Q np id so on kp nf ow D c C M) (e : ∀ a b, 80 ≤ a → a ≤ 101 → ¬ (a = 80 ∧ b = 0) → M' a b = M a b) : rl_Q np id so on kp nf ow D c C M' := by
  obtain ⟨P, O, N, DD, F⟩ := h
  exact ⟨rp_congr P (fun _ _ _ => rfl) (e _ _ (by omega) (by omega) (by omega)) (fun a b h1 h2 => e a b (by omega) (by omega) (by omega)), ro_congr O rfl rfl rfl (e _ _ (by omega) (by omega) (by omega)) (e _ _ (by omega) (by omega) (by omega)) (e _ _ (by omega) (by omega) (by omega)), rn_congr N (fun _ _ _ _ => rfl) (fun a b h1 h2 => e a b (by omega) (by omega) (by omega)), rd_congr DD (fun _ _ _ _ => rfl) (fun b => e _ b (by omega) (by omega) (by omega)), rf_congr F rfl (fun _ => rfl) (fun _ _ _ => rfl) (e _ _ (by omega) (by omega) (by omega)) (fun a b h1 h2 => e a b (by omega) (by omega) (by omega))⟩
theorem rl_C (h : rl_R c C M) (e : ∀ a b, (a < 80 ∨ 103 ≤ a) → C' a b = C a b) : rl_R c C' M := by
  obtain ⟨np, id, so, on, kp, nf, ow, D, P, O, N, DD, F⟩ := h
  exact ⟨np, id, so, on, kp, nf, ow, D, rp_congr P (fun a b h1 => e a b (by omega)) rfl (fun _ _ _ _ => rfl), ro_congr O (e _ _ (by omega)) (e _ _ (by omega)) (e _ _ (by omega)) rfl rfl rfl, rn_congr N (fun a b h1 h2 => e a b (by omega)) (fun _ _ _ _ => rfl), rd_congr DD (fun a b h1 h2 => e a b (by omega)) (fun _ => rfl), rf_congr F (e _ _ (by omega)) (fun b => e _ b (by omega)) (fun a b h1 => e a b (by omega)) rfl (fun _ _ _ _ => rfl)⟩
theorem rd_up {B' : Nat} (h : rl_D np D B C M) (hB : B ≤ B') : rl_D np D B' C M := ⟨fun p q hp hq => ⟨(h.1 p q hp hq).1, (h.1 p q hp hq).2.1, Nat.le_trans (h.1 p q hp hq).2.2 hB⟩, h.2⟩
theorem rq_R (h : rl_Q np id so on kp nf ow D c C M) : rl_R c C M := ⟨np, id, so, on, kp, nf, ow, D, h⟩
theorem rq_le {c' : Nat} (h : rl_Q np id so on kp nf ow D c C M) (hc : c ≤ c') : rl_Q np id so on kp nf ow D c' C M := by
  obtain ⟨P, ⟨O1, O2, d, O3, O4, O5⟩, N, DD, F⟩ := h
  refine ⟨P, ⟨O1, O2, d, O3, O4, ?_⟩, N, rd_up DD (by omega), F⟩
  rcases O5 with O5 | ⟨O5, O6⟩
  · exact Or.inl O5
  · exact Or.inr ⟨by omega, O6⟩
theorem rl_up (h : rl_R c C M) : rl_R (c + 1) C M := by
  obtain ⟨np, id, so, on, kp, nf, ow, D, Q⟩ := h
  exact ⟨np, id, so, on, kp, nf, ow, D, rq_le Q (by omega)⟩
def op_K (c : Nat) (S : ps_S) (z : Option ps_S) : Prop := ∃ S9, z = some S9 ∧ rl_R (c + 1) S9 S9 ∧ S9 0 8 = S 0 8
/-- a call that both sides answer -/
theorem op_ok {x : Option (Nat ⊕ (Int32 × ps_S))} {m : ps_S → Option (Int32 × ps_S)} {S : ps_S} {cs : List Nat} {g : Int32 → Int32} {c' : Nat} (R : rl_Q np id so on kp nf ow D c S S) (sim : ∀ M, rl_Q np id so on kp nf ow D c S M → ∃ C' r M', x = some (.inr (r, C')) ∧ rl_fc S C' ∧ m M = some (r, M') ∧ M' 80 0 = 0 ∧ rl_fm M M' ∧ rl_R c' C' M') : ∃ S9 C' r, x = some (.inr (r, C')) ∧ f_cmp g (ps_lr x S cs g) m = some S9 ∧ rl_R c' S9 S9 ∧ S9 0 8 = C' 0 8 := by
  obtain ⟨C1, r1, M1, x1, f1, -⟩ := sim S R
  have R2 : rl_Q np id so on kp nf ow D c S (ps_up C1 102 0 (g r1)) := rq_M R (fun a b h1 h2 h3 => by rw [pu_up_k (by omega)]; exact f1 a b h1 (by omega))
  obtain ⟨C2, r2, M2, x2, f2, m2, t2, g2, R3⟩ := sim _ R2
  rw [x1] at x2
  cases x2
  refine ⟨M2, C1, r1, x1, ?_, rl_C R3 (fun a b h => by rw [g2 a b (by omega), pu_up_k (by omega)]), by rw [g2 _ _ (by omega), pu_up_k (by omega)]⟩
  unfold f_cmp ps_lr
  rw [x1]
  show ps_b2 (some ((0 : Int32), ps_up C1 102 0 (g r1))) _ = _
  rw [pu_b2 rfl, pu_b2 m2]
  unfold f_X11_thrown
  rw [pu_sb, t2, if_pos rfl, if_pos rfl, if_pos (by rw [g2 _ _ (by omega), pu_up_same])]
theorem op_yes {x : Option (Nat ⊕ (Int32 × ps_S))} {m : ps_S → Option (Int32 × ps_S)} {S : ps_S} {cs : List Nat} {g : Int32 → Int32} (R : rl_Q np id so on kp nf ow D c S S) (sim : ∀ M, rl_Q np id so on kp nf ow D c S M → ∃ C' r M', x = some (.inr (r, C')) ∧ rl_fc S C' ∧ m M = some (r, M') ∧ M' 80 0 = 0 ∧ rl_fm M M' ∧ rl_R (c + 1) C' M' ∧ C' 0 8 = S 0 8) : op_K c S (f_cmp g (ps_lr x S cs g) m) := by
  obtain ⟨S9, C', r, h1, h2, h3, h4⟩ := op_ok (cs := cs) (g := g) (c' := c + 1) R (fun M h => by
    obtain ⟨C', r, M', a1, a2, a3, a4, a5, a6, -⟩ := sim M h
    exact ⟨C', r, M', a1, a2, a3, a4, a5, a6⟩)
  obtain ⟨C2, r2, M2, x2, -, -, -, -, -, e8⟩ := sim S R
  rw [h1] at x2
  cases x2
  exact ⟨S9, h2, h3, h4.trans e8⟩
/-- a call that both sides refuse -/
theorem op_no {x : Option (Nat ⊕ (Int32 × ps_S))} {m : ps_S → Option (Int32 × ps_S)} {S : ps_S} {cs : List Nat} {g : Int32 → Int32} {e : Nat} {k : Int32} (R : rl_Q np id so on kp nf ow D c S S) (hx : x = some (.inl e)) (hp : ps_pos cs e 1 = some k) (hk : ¬ k = 0) (hm : m S = some (0, ps_up S 80 0 k)) : op_K c S (f_cmp g (ps_lr x S cs g) m) := by
  refine ⟨ps_up S 80 0 k, ?_, rl_up (rl_C (rq_R (rq_M R (fun a b h1 h2 h3 => if_neg h3))) (fun a b h => by rw [pu_up_k (by omega)])), by rw [pu_up_k (by omega)]⟩
  unfold f_cmp ps_lr
  rw [hx]
  show ps_b2 ((ps_pos cs e 1).bind fun k => some (k, S)) _ = _
  rw [hp, pu_sb, pu_b2 rfl, pu_b2 hm]
  unfold f_X11_thrown
  rw [pu_sb, pu_up_same, if_pos rfl, if_neg hk]
/-- the reference behind its holds -/
theorem rq_0 (h : rl_Q np id so on kp nf ow D c C M) {v : Int32} : rl_Q np id so on kp nf ow D c C (ps_up M 80 0 v) := rq_M h (fun a b h1 h2 h3 => if_neg h3)
theorem fm_0 {v : Int32} : rl_fm M (ps_up M 80 0 v) := fun a b h => by rw [pu_up_k (by omega)]
theorem fc_0 : rl_fc C C := fun _ _ _ _ => rfl
theorem pu_h0 (S : ps_S) : f_X11_holds S 0 = some (1, ps_up S 80 0 0) := by unfold f_X11_holds; rw [if_pos rfl]
theorem pu_hk (S : ps_S) {k : Int32} (h : ¬ k = 0) : f_X11_holds S k = some (0, ps_up S 80 0 k) := by unfold f_X11_holds; rw [if_neg h]
/-- the reference's refusal, out of its holds -/
theorem pu_no {S : ps_S} {k : Int32} (h : ¬ k = 0) (f : Int32 → ps_S → Option (Int32 × ps_S)) (hf : f 0 (ps_up S 80 0 k) = some (0, ps_up S 80 0 k)) : ps_b2 (f_X11_holds S k) f = some (0, ps_up S 80 0 k) := by
  rw [pu_b2 (pu_hk S h)]; exact hf
theorem pu_below {x : Int32} {n : Nat} (hn : n < 2 ^ 31) : (∃ k, k < n ∧ x = nI k) ∨ (¬ ∃ k, k < n ∧ x = nI k) ∧ (x < 0 ∨ ¬ x < 0 ∧ nI n ≤ x) := by
  by_cases h0 : x < 0
  · refine Or.inr ⟨?_, Or.inl h0⟩
    rintro ⟨k, hk, rfl⟩
    exact nI_pos (by omega) h0
  · by_cases h1 : x < nI n
    · exact Or.inl (pu_nat hn h0 h1)
    · refine Or.inr ⟨?_, Or.inr ⟨h0, Int32.not_lt.mp h1⟩⟩
      rintro ⟨k, hk, rfl⟩
      exact h1 (nI_lt hk hn)
theorem nb_ok {n k : Nat} (hk : k < n) (hn : n < 2 ^ 31) : f_X10_needBelow (nI k) (nI n) = some (.inr ()) := by
  unfold f_X10_needBelow
  rw [if_neg (nI_pos (by omega)), if_pos (nI_lt hk hn)]
theorem nb_no {n : Nat} {x : Int32} (h : x < 0 ∨ ¬ x < 0 ∧ nI n ≤ x) : f_X10_needBelow x (nI n) = some (.inl 0) := by
  unfold f_X10_needBelow
  rcases h with h | ⟨h0, h⟩
  · rw [if_pos h]
  · rw [if_neg h0, if_neg (Int32.not_lt.mpr h)]
theorem in_ok {m k : Nat} (hk : k ≤ m) (hn : m < 2 ^ 31) : f_X11_isIn (nI k) 0 (nI m) = some 1 := by
  unfold f_X11_isIn
  rw [if_neg (nI_pos (by omega)), if_neg (nI_nlt hk hn)]
theorem in_no {m n : Nat} {x : Int32} (hm : m + 1 = n) (hn : n < 2 ^ 31) (h : x < 0 ∨ ¬ x < 0 ∧ nI n ≤ x) : f_X11_isIn x 0 (nI m) = some 0 := by
  unfold f_X11_isIn
  rcases h with h | ⟨h0, h⟩
  · rw [if_pos h]
  · rw [if_neg h0, if_pos]
    have := nI_lt (a := m) (b := n) (by omega) hn
    rw [pu_ilt] at *
    rw [pu_ile] at h
    omega
theorem np_ok (P : rl_P np id so on kp C M) {p : Nat} (hp : p < np) : f_X10_needPeer C (nI p) = some (.inr ()) := by
  unfold f_X10_needPeer
  rw [cp_has P.2.1.1 P.1.1 hp, pu_sb, if_neg (by decide)]
theorem np_no (P : rl_P np id so on kp C M) {x : Int32} (hx : ¬ ∃ p, p < np ∧ x = nI p) : f_X10_needPeer C x = some (.inl 1) := by
  unfold f_X10_needPeer
  rw [cp_hasno P.2.1.1 P.1.1 hx, pu_sb, if_pos rfl]
theorem cp_on (P : pu_CP np id so on kp C) (hn : np ≤ 16) {p : Nat} (hp : p < np) : f_X5_isOnline C (nI p) = some (if on p = 0 then 0 else 1) := by
  unfold f_X5_isOnline
  rw [cp_has P.1 hn hp, pu_sb, if_neg (by decide), if_pos (pu_ib (by omega) (by omega)), nI_clamp (by omega), (P.2 p hp).2.2.1]
  split <;> rfl
theorem cp_onno (P : pu_CP np id so on kp C) (hn : np ≤ 16) {x : Int32} (hx : ¬ ∃ p, p < np ∧ x = nI p) : f_X5_isOnline C x = some 0 := by
  unfold f_X5_isOnline
  rw [cp_hasno P.1 hn hx, pu_sb, if_pos rfl]
theorem no_ok (P : rl_P np id so on kp C M) {p : Nat} (hp : p < np) (h : on p = 1) : f_X10_needOnline C (nI p) = some (.inr ()) := by
  unfold f_X10_needOnline
  rw [cp_on P.2.1 P.1.1 hp, pu_sb, h, if_neg (by decide)]
theorem no_no (P : rl_P np id so on kp C M) {p : Nat} (hp : p < np) (h : on p = 0) : f_X10_needOnline C (nI p) = some (.inl 2) := by
  unfold f_X10_needOnline
  rw [cp_on P.2.1 P.1.1 hp, pu_sb, h, if_pos rfl, if_pos rfl]
theorem rp_on (P : rl_P np id so on kp C M) {p : Nat} (hp : p < np) : on p = 0 ∨ on p = 1 := P.1.2.2.2.1 p hp
theorem mp_on (P : rl_P np id so on kp C M) {p : Nat} (hp : p < np) : M 83 p = on p := (P.2.2.2.1 p hp).2.2.1
theorem pu_bxr {A Z : Type} {x : Option (Nat ⊕ A)} {a : A} (h : x = some (.inr a)) (f : A → Option (Nat ⊕ Z)) : ps_bx x f = f a := by rw [h]; rfl
theorem pu_bxl {A Z : Type} {x : Option (Nat ⊕ A)} {e : Nat} (h : x = some (.inl e)) (f : A → Option (Nat ⊕ Z)) : ps_bx x f = some (.inl e) := by rw [h]; rfl
theorem mp_up0 (P : rl_P np id so on kp C M) {v : Int32} : rl_P np id so on kp C (ps_up M 80 0 v) := rp_congr P (fun _ _ _ => rfl) (by rw [pu_up_i (by omega)]) (fun a b h1 h2 => by rw [pu_up_k (by omega)])
end
/-! two loops, step by step -/
theorem pu_two {α β γ δ : Type} {s1 : α → Option (α ⊕ γ)} {s2 : β → Option (β ⊕ δ)} (I : Nat → α → β → Prop) (Q : γ → δ → Prop) (m : Nat) (h1 : ∀ j a b, j < m → I j a b → ∃ a' b', s1 a = some (.inl a') ∧ s2 b = some (.inl b') ∧ I (j + 1) a' b') (h2 : ∀ a b, I m a b → ∃ c d, s1 a = some (.inr c) ∧ s2 b = some (.inr d) ∧ Q c d) : ∀ (t j : Nat) (a : α) (b : β), j + t = m → I j a b → ∀ fuel, t < fuel → ∃ c d, ps_it s1 fuel a = some c ∧ ps_it s2 fuel b = some d ∧ Q c d
  | 0, j, a, b, hj, hI, fuel, hf => by
    obtain ⟨f, rfl⟩ : ∃ f, fuel = f + 1 := ⟨fuel - 1, by omega⟩
    have hj : j = m := by omega
    rw [hj] at hI
    obtain ⟨c, d, hc, hd, hq⟩ := h2 a b hI
    refine ⟨c, d, ?_, ?_, hq⟩
    · show (s1 a).bind _ = some c
      rw [hc]; rfl
    · show (s2 b).bind _ = some d
      rw [hd]; rfl
  | t + 1, j, a, b, hj, hI, fuel, hf => by
    obtain ⟨f, rfl⟩ : ∃ f, fuel = f + 1 := ⟨fuel - 1, by omega⟩
    obtain ⟨a', b', ha, hb, hI'⟩ := h1 j a b (by omega) hI
    obtain ⟨c, d, hc, hd, hq⟩ := pu_two I Q m h1 h2 t (j + 1) a' b' (by omega) hI' f (by omega)
    refine ⟨c, d, ?_, ?_, hq⟩
    · show (s1 a).bind _ = some c
      rw [ha]; exact hc
    · show (s2 b).bind _ = some d
      rw [hb]; exact hd
theorem pu_two0 {α β γ δ : Type} {s1 : α → Option (α ⊕ γ)} {s2 : β → Option (β ⊕ δ)} {a : α} {b : β} (I : Nat → α → β → Prop) (Q : γ → δ → Prop) (m : Nat) (hm : m < 20000) (h0 : I 0 a b) (h1 : ∀ j a b, j < m → I j a b → ∃ a' b', s1 a = some (.inl a') ∧ s2 b = some (.inl b') ∧ I (j + 1) a' b') (h2 : ∀ a b, I m a b → ∃ c d, s1 a = some (.inr c) ∧ s2 b = some (.inr d) ∧ Q c d) : ∃ c d, ps_it s1 ps_fu a = some c ∧ ps_it s2 ps_fu b = some d ∧ Q c d := pu_two I Q m h1 h2 m 0 a b (by omega) h0 ps_fu (by unfold ps_fu; omega)
/-- n steps of a loop -/
def pu_st {α β : Type} (step : α → Option (α ⊕ β)) : Nat → α → α → Prop
  | 0, a, b => a = b
  | n + 1, a, b => ∃ c, step a = some (.inl c) ∧ pu_st step n c b
theorem pu_st_add {α β : Type} {step : α → Option (α ⊕ β)} : ∀ (n m : Nat) (a b c : α), pu_st step n a b → pu_st step m b c → pu_st step (n + m) a c
  | 0, m, a, b, c, h, h2 => by
    have h : a = b := h
    rw [h, Nat.zero_add]; exact h2
  | n + 1, m, a, b, c, h, h2 => by
    obtain ⟨x, hx, hy⟩ := h
    rw [show n + 1 + m = n + m + 1 by omega]
    exact ⟨x, hx, pu_st_add n m x b c hy h2⟩
theorem pu_st_it {α β : Type} {step : α → Option (α ⊕ β)} {r : β} : ∀ (n : Nat) (a b : α), pu_st step n a b → step b = some (.inr r) → ∀ fuel, n < fuel → ps_it step fuel a = some r
  | 0, a, b, h, h2, fuel, hf => by
    obtain ⟨f, rfl⟩ : ∃ f, fuel = f + 1 := ⟨fuel - 1, by omega⟩
    have h : a = b := h
    rw [← h] at h2
    show (step a).bind _ = some r
    rw [h2]; rfl
  | n + 1, a, b, h, h2, fuel, hf => by
    obtain ⟨f, rfl⟩ : ∃ f, fuel = f + 1 := ⟨fuel - 1, by omega⟩
    obtain ⟨x, hx, hy⟩ := h
    show (step a).bind _ = some r
    rw [hx]
    exact pu_st_it n x b hy h2 f (by omega)
