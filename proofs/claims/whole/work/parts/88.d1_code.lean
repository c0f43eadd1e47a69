/-! the pieces found again -/
section
variable {S : ps_S} {k0 s : Nat} {d : Nat → Nat}
theorem isin_ok (hs : s < 64) {k : Nat} (hk : k < 6) : f_X0_isIn (nI s) (nI k) = some (if s.testBit k = true then 1 else 0) := isin_C ⟨s, hs⟩ ⟨k, hk⟩
theorem wt_ok {i v : Nat} (hi : i < 4) (hv : v < 256) : f_X0_weighted (nI i) (nI v) = some (nI (pu_W i v)) := by
  unfold f_X0_weighted
  rw [pw_C ⟨i, hi⟩, tm_C ⟨i, hi⟩ ⟨v, hv⟩, pu_sb]
def sv_t (d : Nat → Nat) (k : Nat) : Int32 := nI (d k) <<< ((8 * nI k) &&& 31)
theorem sv_in (hd : ∀ i, d i < 256) (hs : s < 64) (hv : ∀ i, i < 4 → S k0 i = nI (d i)) {k : Nat} (hk : k < 4) (hb : s.testBit k = true) (b x w l al : Int32) : f_X0_solve_L56 S k0 (nI s) b x w l al (nI k) = some (.inl (b ||| sv_t d k, x ^^^ nI (d k), w ^^^ nI (pu_W k (d k)), l, al, nI (k + 1))) := by
  unfold f_X0_solve_L56 f_X0_solve_J132
  rw [if_neg (lit_ge (x := 4) (n := 4) rfl hk (by omega)), if_neg (lit_ge (x := 6) (n := 6) rfl (by omega) (by omega)), isin_ok hs (by omega), pu_sb, if_pos hb, if_neg (by decide), if_pos (pu_ib (by omega) (by omega)), if_pos (pu_ib (by omega) (by omega)), if_pos (pu_ib (by omega) (by omega)), nI_clamp (by omega), hv k hk, wt_ok hk (hd k), pu_sb, nI_1]
  rfl
theorem sv_o1 (hs : s < 64) {k : Nat} (hk : k < 4) (hb : s.testBit k = false) (b x w al : Int32) : f_X0_solve_L56 S k0 (nI s) b x w (-1) al (nI k) = some (.inl (b, x, w, nI k, al, nI (k + 1))) := by
  unfold f_X0_solve_L56 f_X0_solve_J132
  rw [if_neg (lit_ge (x := 4) (n := 4) rfl hk (by omega)), if_neg (lit_ge (x := 6) (n := 6) rfl (by omega) (by omega)), isin_ok hs (by omega), pu_sb, hb, show (if (false = true) then (1 : Int32) else 0) = 0 from rfl, if_pos rfl, if_pos rfl, nI_1]
theorem sv_o2 (hs : s < 64) {k : Nat} (hk : k < 4) (hb : s.testBit k = false) {l : Int32} (hl : ¬ l = -1) (b x w al : Int32) : f_X0_solve_L56 S k0 (nI s) b x w l al (nI k) = some (.inl (b, x, w, l, nI k, nI (k + 1))) := by
  unfold f_X0_solve_L56 f_X0_solve_J132
  rw [if_neg (lit_ge (x := 4) (n := 4) rfl hk (by omega)), if_neg (lit_ge (x := 6) (n := 6) rfl (by omega) (by omega)), isin_ok hs (by omega), pu_sb, hb, show (if (false = true) then (1 : Int32) else 0) = 0 from rfl, if_pos rfl, if_neg hl, nI_1]
theorem sv_end (b x w l al : Int32) : f_X0_solve_L56 S k0 (nI s) b x w l al (nI 4) = some (.inr (b, x, w, l, al)) := by
  unfold f_X0_solve_L56
  rw [if_pos (by decide)]
theorem it_l {α β : Type} {step : α → Option (α ⊕ β)} {a a' : α} {n : Nat} {r : Option β} (h : step a = some (.inl a')) (h2 : ps_it step n a' = r) : ps_it step (n + 1) a = r := by
  show (step a).bind _ = _
  rw [h]; exact h2
theorem it_r {α β : Type} {step : α → Option (α ⊕ β)} {a : α} {b : β} {n : Nat} (h : step a = some (.inr b)) : ps_it step (n + 1) a = some b := by
  show (step a).bind _ = _
  rw [h]; rfl
def sv_T (d : Nat → Nat) : Int32 := ((nI (d 0) ||| (nI (d 1) <<< (8 &&& 31))) ||| (nI (d 2) <<< (16 &&& 31))) ||| (nI (d 3) <<< (24 &&& 31))
theorem sv_Te : sv_T d = ((sv_t d 0 ||| sv_t d 1) ||| sv_t d 2) ||| sv_t d 3 := by
  unfold sv_T sv_t
  rw [show (8 * nI 0) &&& 31 = (0 : Int32) from by decide, show (8 * nI 1) &&& 31 = (8 : Int32) &&& 31 from by decide, show (8 * nI 2) &&& 31 = (16 : Int32) &&& 31 from by decide, show (8 * nI 3) &&& 31 = (24 : Int32) &&& 31 from by decide, Int32.shiftLeft_zero]
theorem two_ok {i j a b : Nat} (hi : i < j) (hj : j < 4) (ha : a < 256) (hb : b < 256) : f_X0_solveTwo (nI i) (nI j) (nI (a ^^^ b)) (nI (pu_W i a ^^^ pu_W j b)) = some ((nI a <<< ((8 * nI i) &&& 31)) ||| (nI b <<< ((8 * nI j) &&& 31))) := by
  unfold f_X0_solveTwo
  have hab : a ^^^ b < 256 := Nat.xor_lt_two_pow (n := 8) ha hb
  have e1 : (pu_W i a ^^^ pu_W j b) ^^^ pu_W i (a ^^^ b) = pu_W j b ^^^ pu_W i b := by
    rw [pu_Wx]
    apply Nat.eq_of_testBit_eq
    intro t
    simp only [Nat.testBit_xor]
    cases (pu_W i a).testBit t <;> cases (pu_W j b).testBit t <;> cases (pu_W i b).testBit t <;> rfl
  have e2 : (a ^^^ b) ^^^ b = a := by
    apply Nat.eq_of_testBit_eq
    intro t
    simp only [Nat.testBit_xor]
    cases a.testBit t <;> cases b.testBit t <;> rfl
  rw [wt_ok (by omega) hab, pu_sb, pw_C ⟨i, by omega⟩, pw_C ⟨j, hj⟩, iv_2 ⟨i, by omega⟩ ⟨j, hj⟩ hi, pu_sb, pu_xor, e1, tm_2 ⟨i, by omega⟩ ⟨j, hj⟩ hi ⟨b, hb⟩, pu_sb, pu_xor, e2]

theorem sv_1111 (hd : ∀ i, d i < 256) (hs : s < 64) (hv : ∀ i, i < 4 → S k0 i = nI (d i)) (b0 : s.testBit 0 = true) (b1 : s.testBit 1 = true) (b2 : s.testBit 2 = true) (b3 : s.testBit 3 = true) (x w : Int32) : ps_it (fun (a : Int32 × Int32 × Int32 × Int32 × Int32 × Int32) => f_X0_solve_L56 S k0 (nI s) a.1 a.2.1 a.2.2.1 a.2.2.2.1 a.2.2.2.2.1 a.2.2.2.2.2) ps_fu (0, x, w, (-1), (-1), 0) = some (((((0 ||| sv_t d 0) ||| sv_t d 1) ||| sv_t d 2) ||| sv_t d 3), ((((x ^^^ nI (d 0)) ^^^ nI (d 1)) ^^^ nI (d 2)) ^^^ nI (d 3)), ((((w ^^^ nI (pu_W 0 (d 0))) ^^^ nI (pu_W 1 (d 1))) ^^^ nI (pu_W 2 (d 2))) ^^^ nI (pu_W 3 (d 3))), (-1), (-1)) := it_l (step := fun (a : Int32 × Int32 × Int32 × Int32 × Int32 × Int32) => f_X0_solve_L56 S k0 (nI s) a.1 a.2.1 a.2.2.1 a.2.2.2.1 a.2.2.2.2.1 a.2.2.2.2.2) (sv_in hd hs hv (k := 0) (by omega) b0 _ _ _ _ _) (it_l (sv_in hd hs hv (k := 1) (by omega) b1 _ _ _ _ _) (it_l (sv_in hd hs hv (k := 2) (by omega) b2 _ _ _ _ _) (it_l (sv_in hd hs hv (k := 3) (by omega) b3 _ _ _ _ _) (it_r (n := 19995) (sv_end _ _ _ _ _)))))
theorem sv_1110 (hd : ∀ i, d i < 256) (hs : s < 64) (hv : ∀ i, i < 4 → S k0 i = nI (d i)) (b0 : s.testBit 0 = true) (b1 : s.testBit 1 = true) (b2 : s.testBit 2 = true) (b3 : s.testBit 3 = false) (x w : Int32) : ps_it (fun (a : Int32 × Int32 × Int32 × Int32 × Int32 × Int32) => f_X0_solve_L56 S k0 (nI s) a.1 a.2.1 a.2.2.1 a.2.2.2.1 a.2.2.2.2.1 a.2.2.2.2.2) ps_fu (0, x, w, (-1), (-1), 0) = some ((((0 ||| sv_t d 0) ||| sv_t d 1) ||| sv_t d 2), (((x ^^^ nI (d 0)) ^^^ nI (d 1)) ^^^ nI (d 2)), (((w ^^^ nI (pu_W 0 (d 0))) ^^^ nI (pu_W 1 (d 1))) ^^^ nI (pu_W 2 (d 2))), (nI 3), (-1)) := it_l (step := fun (a : Int32 × Int32 × Int32 × Int32 × Int32 × Int32) => f_X0_solve_L56 S k0 (nI s) a.1 a.2.1 a.2.2.1 a.2.2.2.1 a.2.2.2.2.1 a.2.2.2.2.2) (sv_in hd hs hv (k := 0) (by omega) b0 _ _ _ _ _) (it_l (sv_in hd hs hv (k := 1) (by omega) b1 _ _ _ _ _) (it_l (sv_in hd hs hv (k := 2) (by omega) b2 _ _ _ _ _) (it_l (sv_o1 hs (k := 3) (by omega) b3 _ _ _ _) (it_r (n := 19995) (sv_end _ _ _ _ _)))))
theorem sv_1101 (hd : ∀ i, d i < 256) (hs : s < 64) (hv : ∀ i, i < 4 → S k0 i = nI (d i)) (b0 : s.testBit 0 = true) (b1 : s.testBit 1 = true) (b2 : s.testBit 2 = false) (b3 : s.testBit 3 = true) (x w : Int32) : ps_it (fun (a : Int32 × Int32 × Int32 × Int32 × Int32 × Int32) => f_X0_solve_L56 S k0 (nI s) a.1 a.2.1 a.2.2.1 a.2.2.2.1 a.2.2.2.2.1 a.2.2.2.2.2) ps_fu (0, x, w, (-1), (-1), 0) = some ((((0 ||| sv_t d 0) ||| sv_t d 1) ||| sv_t d 3), (((x ^^^ nI (d 0)) ^^^ nI (d 1)) ^^^ nI (d 3)), (((w ^^^ nI (pu_W 0 (d 0))) ^^^ nI (pu_W 1 (d 1))) ^^^ nI (pu_W 3 (d 3))), (nI 2), (-1)) := it_l (step := fun (a : Int32 × Int32 × Int32 × Int32 × Int32 × Int32) => f_X0_solve_L56 S k0 (nI s) a.1 a.2.1 a.2.2.1 a.2.2.2.1 a.2.2.2.2.1 a.2.2.2.2.2) (sv_in hd hs hv (k := 0) (by omega) b0 _ _ _ _ _) (it_l (sv_in hd hs hv (k := 1) (by omega) b1 _ _ _ _ _) (it_l (sv_o1 hs (k := 2) (by omega) b2 _ _ _ _) (it_l (sv_in hd hs hv (k := 3) (by omega) b3 _ _ _ _ _) (it_r (n := 19995) (sv_end _ _ _ _ _)))))
theorem sv_1100 (hd : ∀ i, d i < 256) (hs : s < 64) (hv : ∀ i, i < 4 → S k0 i = nI (d i)) (b0 : s.testBit 0 = true) (b1 : s.testBit 1 = true) (b2 : s.testBit 2 = false) (b3 : s.testBit 3 = false) (x w : Int32) : ps_it (fun (a : Int32 × Int32 × Int32 × Int32 × Int32 × Int32) => f_X0_solve_L56 S k0 (nI s) a.1 a.2.1 a.2.2.1 a.2.2.2.1 a.2.2.2.2.1 a.2.2.2.2.2) ps_fu (0, x, w, (-1), (-1), 0) = some (((0 ||| sv_t d 0) ||| sv_t d 1), ((x ^^^ nI (d 0)) ^^^ nI (d 1)), ((w ^^^ nI (pu_W 0 (d 0))) ^^^ nI (pu_W 1 (d 1))), (nI 2), (nI 3)) := it_l (step := fun (a : Int32 × Int32 × Int32 × Int32 × Int32 × Int32) => f_X0_solve_L56 S k0 (nI s) a.1 a.2.1 a.2.2.1 a.2.2.2.1 a.2.2.2.2.1 a.2.2.2.2.2) (sv_in hd hs hv (k := 0) (by omega) b0 _ _ _ _ _) (it_l (sv_in hd hs hv (k := 1) (by omega) b1 _ _ _ _ _) (it_l (sv_o1 hs (k := 2) (by omega) b2 _ _ _ _) (it_l (sv_o2 hs (k := 3) (by omega) b3 (l := nI 2) (by decide) _ _ _ _) (it_r (n := 19995) (sv_end _ _ _ _ _)))))
theorem sv_1011 (hd : ∀ i, d i < 256) (hs : s < 64) (hv : ∀ i, i < 4 → S k0 i = nI (d i)) (b0 : s.testBit 0 = true) (b1 : s.testBit 1 = false) (b2 : s.testBit 2 = true) (b3 : s.testBit 3 = true) (x w : Int32) : ps_it (fun (a : Int32 × Int32 × Int32 × Int32 × Int32 × Int32) => f_X0_solve_L56 S k0 (nI s) a.1 a.2.1 a.2.2.1 a.2.2.2.1 a.2.2.2.2.1 a.2.2.2.2.2) ps_fu (0, x, w, (-1), (-1), 0) = some ((((0 ||| sv_t d 0) ||| sv_t d 2) ||| sv_t d 3), (((x ^^^ nI (d 0)) ^^^ nI (d 2)) ^^^ nI (d 3)), (((w ^^^ nI (pu_W 0 (d 0))) ^^^ nI (pu_W 2 (d 2))) ^^^ nI (pu_W 3 (d 3))), (nI 1), (-1)) := it_l (step := fun (a : Int32 × Int32 × Int32 × Int32 × Int32 × Int32) => f_X0_solve_L56 S k0 (nI s) a.1 a.2.1 a.2.2.1 a.2.2.2.1 a.2.2.2.2.1 a.2.2.2.2.2) (sv_in hd hs hv (k := 0) (by omega) b0 _ _ _ _ _) (it_l (sv_o1 hs (k := 1) (by omega) b1 _ _ _ _) (it_l (sv_in hd hs hv (k := 2) (by omega) b2 _ _ _ _ _) (it_l (sv_in hd hs hv (k := 3) (by omega) b3 _ _ _ _ _) (it_r (n := 19995) (sv_end _ _ _ _ _)))))
theorem sv_1010 (hd : ∀ i, d i < 256) (hs : s < 64) (hv : ∀ i, i < 4 → S k0 i = nI (d i)) (b0 : s.testBit 0 = true) (b1 : s.testBit 1 = false) (b2 : s.testBit 2 = true) (b3 : s.testBit 3 = false) (x w : Int32) : ps_it (fun (a : Int32 × Int32 × Int32 × Int32 × Int32 × Int32) => f_X0_solve_L56 S k0 (nI s) a.1 a.2.1 a.2.2.1 a.2.2.2.1 a.2.2.2.2.1 a.2.2.2.2.2) ps_fu (0, x, w, (-1), (-1), 0) = some (((0 ||| sv_t d 0) ||| sv_t d 2), ((x ^^^ nI (d 0)) ^^^ nI (d 2)), ((w ^^^ nI (pu_W 0 (d 0))) ^^^ nI (pu_W 2 (d 2))), (nI 1), (nI 3)) := it_l (step := fun (a : Int32 × Int32 × Int32 × Int32 × Int32 × Int32) => f_X0_solve_L56 S k0 (nI s) a.1 a.2.1 a.2.2.1 a.2.2.2.1 a.2.2.2.2.1 a.2.2.2.2.2) (sv_in hd hs hv (k := 0) (by omega) b0 _ _ _ _ _) (it_l (sv_o1 hs (k := 1) (by omega) b1 _ _ _ _) (it_l (sv_in hd hs hv (k := 2) (by omega) b2 _ _ _ _ _) (it_l (sv_o2 hs (k := 3) (by omega) b3 (l := nI 1) (by decide) _ _ _ _) (it_r (n := 19995) (sv_end _ _ _ _ _)))))
theorem sv_1001 (hd : ∀ i, d i < 256) (hs : s < 64) (hv : ∀ i, i < 4 → S k0 i = nI (d i)) (b0 : s.testBit 0 = true) (b1 : s.testBit 1 = false) (b2 : s.testBit 2 = false) (b3 : s.testBit 3 = true) (x w : Int32) : ps_it (fun (a : Int32 × Int32 × Int32 × Int32 × Int32 × Int32) => f_X0_solve_L56 S k0 (nI s) a.1 a.2.1 a.2.2.1 a.2.2.2.1 a.2.2.2.2.1 a.2.2.2.2.2) ps_fu (0, x, w, (-1), (-1), 0) = some (((0 ||| sv_t d 0) ||| sv_t d 3), ((x ^^^ nI (d 0)) ^^^ nI (d 3)), ((w ^^^ nI (pu_W 0 (d 0))) ^^^ nI (pu_W 3 (d 3))), (nI 1), (nI 2)) := it_l (step := fun (a : Int32 × Int32 × Int32 × Int32 × Int32 × Int32) => f_X0_solve_L56 S k0 (nI s) a.1 a.2.1 a.2.2.1 a.2.2.2.1 a.2.2.2.2.1 a.2.2.2.2.2) (sv_in hd hs hv (k := 0) (by omega) b0 _ _ _ _ _) (it_l (sv_o1 hs (k := 1) (by omega) b1 _ _ _ _) (it_l (sv_o2 hs (k := 2) (by omega) b2 (l := nI 1) (by decide) _ _ _ _) (it_l (sv_in hd hs hv (k := 3) (by omega) b3 _ _ _ _ _) (it_r (n := 19995) (sv_end _ _ _ _ _)))))
theorem sv_0111 (hd : ∀ i, d i < 256) (hs : s < 64) (hv : ∀ i, i < 4 → S k0 i = nI (d i)) (b0 : s.testBit 0 = false) (b1 : s.testBit 1 = true) (b2 : s.testBit 2 = true) (b3 : s.testBit 3 = true) (x w : Int32) : ps_it (fun (a : Int32 × Int32 × Int32 × Int32 × Int32 × Int32) => f_X0_solve_L56 S k0 (nI s) a.1 a.2.1 a.2.2.1 a.2.2.2.1 a.2.2.2.2.1 a.2.2.2.2.2) ps_fu (0, x, w, (-1), (-1), 0) = some ((((0 ||| sv_t d 1) ||| sv_t d 2) ||| sv_t d 3), (((x ^^^ nI (d 1)) ^^^ nI (d 2)) ^^^ nI (d 3)), (((w ^^^ nI (pu_W 1 (d 1))) ^^^ nI (pu_W 2 (d 2))) ^^^ nI (pu_W 3 (d 3))), (nI 0), (-1)) := it_l (step := fun (a : Int32 × Int32 × Int32 × Int32 × Int32 × Int32) => f_X0_solve_L56 S k0 (nI s) a.1 a.2.1 a.2.2.1 a.2.2.2.1 a.2.2.2.2.1 a.2.2.2.2.2) (sv_o1 hs (k := 0) (by omega) b0 _ _ _ _) (it_l (sv_in hd hs hv (k := 1) (by omega) b1 _ _ _ _ _) (it_l (sv_in hd hs hv (k := 2) (by omega) b2 _ _ _ _ _) (it_l (sv_in hd hs hv (k := 3) (by omega) b3 _ _ _ _ _) (it_r (n := 19995) (sv_end _ _ _ _ _)))))
theorem sv_0110 (hd : ∀ i, d i < 256) (hs : s < 64) (hv : ∀ i, i < 4 → S k0 i = nI (d i)) (b0 : s.testBit 0 = false) (b1 : s.testBit 1 = true) (b2 : s.testBit 2 = true) (b3 : s.testBit 3 = false) (x w : Int32) : ps_it (fun (a : Int32 × Int32 × Int32 × Int32 × Int32 × Int32) => f_X0_solve_L56 S k0 (nI s) a.1 a.2.1 a.2.2.1 a.2.2.2.1 a.2.2.2.2.1 a.2.2.2.2.2) ps_fu (0, x, w, (-1), (-1), 0) = some (((0 ||| sv_t d 1) ||| sv_t d 2), ((x ^^^ nI (d 1)) ^^^ nI (d 2)), ((w ^^^ nI (pu_W 1 (d 1))) ^^^ nI (pu_W 2 (d 2))), (nI 0), (nI 3)) := it_l (step := fun (a : Int32 × Int32 × Int32 × Int32 × Int32 × Int32) => f_X0_solve_L56 S k0 (nI s) a.1 a.2.1 a.2.2.1 a.2.2.2.1 a.2.2.2.2.1 a.2.2.2.2.2) (sv_o1 hs (k := 0) (by omega) b0 _ _ _ _) (it_l (sv_in hd hs hv (k := 1) (by omega) b1 _ _ _ _ _) (it_l (sv_in hd hs hv (k := 2) (by omega) b2 _ _ _ _ _) (it_l (sv_o2 hs (k := 3) (by omega) b3 (l := nI 0) (by decide) _ _ _ _) (it_r (n := 19995) (sv_end _ _ _ _ _)))))
theorem sv_0101 (hd : ∀ i, d i < 256) (hs : s < 64) (hv : ∀ i, i < 4 → S k0 i = nI (d i)) (b0 : s.testBit 0 = false) (b1 : s.testBit 1 = true) (b2 : s.testBit 2 = false) (b3 : s.testBit 3 = true) (x w : Int32) : ps_it (fun (a : Int32 × Int32 × Int32 × Int32 × Int32 × Int32) => f_X0_solve_L56 S k0 (nI s) a.1 a.2.1 a.2.2.1 a.2.2.2.1 a.2.2.2.2.1 a.2.2.2.2.2) ps_fu (0, x, w, (-1), (-1), 0) = some (((0 ||| sv_t d 1) ||| sv_t d 3), ((x ^^^ nI (d 1)) ^^^ nI (d 3)), ((w ^^^ nI (pu_W 1 (d 1))) ^^^ nI (pu_W 3 (d 3))), (nI 0), (nI 2)) := it_l (step := fun (a : Int32 × Int32 × Int32 × Int32 × Int32 × Int32) => f_X0_solve_L56 S k0 (nI s) a.1 a.2.1 a.2.2.1 a.2.2.2.1 a.2.2.2.2.1 a.2.2.2.2.2) (sv_o1 hs (k := 0) (by omega) b0 _ _ _ _) (it_l (sv_in hd hs hv (k := 1) (by omega) b1 _ _ _ _ _) (it_l (sv_o2 hs (k := 2) (by omega) b2 (l := nI 0) (by decide) _ _ _ _) (it_l (sv_in hd hs hv (k := 3) (by omega) b3 _ _ _ _ _) (it_r (n := 19995) (sv_end _ _ _ _ _)))))
theorem sv_0011 (hd : ∀ i, d i < 256) (hs : s < 64) (hv : ∀ i, i < 4 → S k0 i = nI (d i)) (b0 : s.testBit 0 = false) (b1 : s.testBit 1 = false) (b2 : s.testBit 2 = true) (b3 : s.testBit 3 = true) (x w : Int32) : ps_it (fun (a : Int32 × Int32 × Int32 × Int32 × Int32 × Int32) => f_X0_solve_L56 S k0 (nI s) a.1 a.2.1 a.2.2.1 a.2.2.2.1 a.2.2.2.2.1 a.2.2.2.2.2) ps_fu (0, x, w, (-1), (-1), 0) = some (((0 ||| sv_t d 2) ||| sv_t d 3), ((x ^^^ nI (d 2)) ^^^ nI (d 3)), ((w ^^^ nI (pu_W 2 (d 2))) ^^^ nI (pu_W 3 (d 3))), (nI 0), (nI 1)) := it_l (step := fun (a : Int32 × Int32 × Int32 × Int32 × Int32 × Int32) => f_X0_solve_L56 S k0 (nI s) a.1 a.2.1 a.2.2.1 a.2.2.2.1 a.2.2.2.2.1 a.2.2.2.2.2) (sv_o1 hs (k := 0) (by omega) b0 _ _ _ _) (it_l (sv_o2 hs (k := 1) (by omega) b1 (l := nI 0) (by decide) _ _ _ _) (it_l (sv_in hd hs hv (k := 2) (by omega) b2 _ _ _ _ _) (it_l (sv_in hd hs hv (k := 3) (by omega) b3 _ _ _ _ _) (it_r (n := 19995) (sv_end _ _ _ _ _)))))
theorem pu_b5 {A B C D E Z : Type} {x : Option (A × B × C × D × E)} {a : A} {b : B} {c : C} {e : D} {f : E} (h : x = some (a, b, c, e, f)) (g : A → B → C → D → E → Option Z) : ps_b5 x g = g a b c e f := by rw [h]; rfl
theorem pu_ff : (if (false = true) then (1 : Int32) else 0) = 0 := rfl
theorem sv_tE {d : Nat → Nat} (k : Nat) : nI (d k) <<< ((8 * nI k) &&& 31) = sv_t d k := rfl
theorem pu_tt : (if (true = true) then (1 : Int32) else 0) = 1 := rfl
theorem or_1110 (a b c e : Int32) : (a ||| b ||| c) ||| e = ((a ||| b) ||| c) ||| e := by ac_rfl
theorem or_1101 (a b c e : Int32) : (a ||| b ||| e) ||| c = ((a ||| b) ||| c) ||| e := by ac_rfl
theorem or_1100 (a b c e : Int32) : (a ||| b) ||| (c ||| e) = ((a ||| b) ||| c) ||| e := by ac_rfl
theorem or_1011 (a b c e : Int32) : (a ||| c ||| e) ||| b = ((a ||| b) ||| c) ||| e := by ac_rfl
theorem or_1010 (a b c e : Int32) : (a ||| c) ||| (b ||| e) = ((a ||| b) ||| c) ||| e := by ac_rfl
theorem or_1001 (a b c e : Int32) : (a ||| e) ||| (b ||| c) = ((a ||| b) ||| c) ||| e := by ac_rfl
theorem or_0111 (a b c e : Int32) : (b ||| c ||| e) ||| a = ((a ||| b) ||| c) ||| e := by ac_rfl
theorem or_0110 (a b c e : Int32) : (b ||| c) ||| (a ||| e) = ((a ||| b) ||| c) ||| e := by ac_rfl
theorem or_0101 (a b c e : Int32) : (b ||| e) ||| (a ||| c) = ((a ||| b) ||| c) ||| e := by ac_rfl
theorem or_0011 (a b c e : Int32) : (c ||| e) ||| (a ||| b) = ((a ||| b) ||| c) ||| e := by ac_rfl
theorem xr_1110 (a b c e : Nat) : a ^^^ b ^^^ c ^^^ e ^^^ a ^^^ b ^^^ c = e := by
  apply Nat.eq_of_testBit_eq
  intro t
  simp only [Nat.testBit_xor]
  generalize a.testBit t = x0
  generalize b.testBit t = x1
  generalize c.testBit t = x2
  generalize e.testBit t = x3
  revert x0 x1 x2 x3
  decide
theorem xr_1101 (a b c e : Nat) : a ^^^ b ^^^ c ^^^ e ^^^ a ^^^ b ^^^ e = c := by
  apply Nat.eq_of_testBit_eq
  intro t
  simp only [Nat.testBit_xor]
  generalize a.testBit t = x0
  generalize b.testBit t = x1
  generalize c.testBit t = x2
  generalize e.testBit t = x3
  revert x0 x1 x2 x3
  decide
theorem xr_1100 (a b c e : Nat) : a ^^^ b ^^^ c ^^^ e ^^^ a ^^^ b = c ^^^ e := by
  apply Nat.eq_of_testBit_eq
  intro t
  simp only [Nat.testBit_xor]
  generalize a.testBit t = x0
  generalize b.testBit t = x1
  generalize c.testBit t = x2
  generalize e.testBit t = x3
  revert x0 x1 x2 x3
  decide
theorem xr_1011 (a b c e : Nat) : a ^^^ b ^^^ c ^^^ e ^^^ a ^^^ c ^^^ e = b := by
  apply Nat.eq_of_testBit_eq
  intro t
  simp only [Nat.testBit_xor]
  generalize a.testBit t = x0
  generalize b.testBit t = x1
  generalize c.testBit t = x2
  generalize e.testBit t = x3
  revert x0 x1 x2 x3
  decide
theorem xr_1010 (a b c e : Nat) : a ^^^ b ^^^ c ^^^ e ^^^ a ^^^ c = b ^^^ e := by
  apply Nat.eq_of_testBit_eq
  intro t
  simp only [Nat.testBit_xor]
  generalize a.testBit t = x0
  generalize b.testBit t = x1
  generalize c.testBit t = x2
  generalize e.testBit t = x3
  revert x0 x1 x2 x3
  decide
theorem xr_1001 (a b c e : Nat) : a ^^^ b ^^^ c ^^^ e ^^^ a ^^^ e = b ^^^ c := by
  apply Nat.eq_of_testBit_eq
  intro t
  simp only [Nat.testBit_xor]
  generalize a.testBit t = x0
  generalize b.testBit t = x1
  generalize c.testBit t = x2
  generalize e.testBit t = x3
  revert x0 x1 x2 x3
  decide
theorem xr_0111 (a b c e : Nat) : a ^^^ b ^^^ c ^^^ e ^^^ b ^^^ c ^^^ e = a := by
  apply Nat.eq_of_testBit_eq
  intro t
  simp only [Nat.testBit_xor]
  generalize a.testBit t = x0
  generalize b.testBit t = x1
  generalize c.testBit t = x2
  generalize e.testBit t = x3
  revert x0 x1 x2 x3
  decide
theorem xr_0110 (a b c e : Nat) : a ^^^ b ^^^ c ^^^ e ^^^ b ^^^ c = a ^^^ e := by
  apply Nat.eq_of_testBit_eq
  intro t
  simp only [Nat.testBit_xor]
  generalize a.testBit t = x0
  generalize b.testBit t = x1
  generalize c.testBit t = x2
  generalize e.testBit t = x3
  revert x0 x1 x2 x3
  decide
theorem xr_0101 (a b c e : Nat) : a ^^^ b ^^^ c ^^^ e ^^^ b ^^^ e = a ^^^ c := by
  apply Nat.eq_of_testBit_eq
  intro t
  simp only [Nat.testBit_xor]
  generalize a.testBit t = x0
  generalize b.testBit t = x1
  generalize c.testBit t = x2
  generalize e.testBit t = x3
  revert x0 x1 x2 x3
  decide
theorem xr_0011 (a b c e : Nat) : a ^^^ b ^^^ c ^^^ e ^^^ c ^^^ e = a ^^^ b := by
  apply Nat.eq_of_testBit_eq
  intro t
  simp only [Nat.testBit_xor]
  generalize a.testBit t = x0
  generalize b.testBit t = x1
  generalize c.testBit t = x2
  generalize e.testBit t = x3
  revert x0 x1 x2 x3
  decide
set_option maxHeartbeats 300000 in
theorem sf_1111 (hd : ∀ i, d i < 256) (hs : s < 64) (hv : ∀ i, i < 4 → S k0 i = nI (d i)) (b0 : s.testBit 0 = true) (b1 : s.testBit 1 = true) (b2 : s.testBit 2 = true) (b3 : s.testBit 3 = true) (c4 c5 : Bool) (f4 : s.testBit 4 = c4) (hq : 4 ≤ 4 + (if c4 = true then 1 else 0) + (if c5 = true then 1 else 0)) : f_X0_solve_J45 S k0 (nI s) (if c4 = true then nI (d 0 ^^^ d 1 ^^^ d 2 ^^^ d 3) else 0) (if c5 = true then nI (pu_W 0 (d 0) ^^^ pu_W 1 (d 1) ^^^ pu_W 2 (d 2) ^^^ pu_W 3 (d 3)) else 0) = some (sv_T d) := by
  have i4 : f_X0_isIn (nI s) 4 = some (if c4 = true then 1 else 0) := by rw [← f4]; exact isin_ok hs (k := 4) (by omega)
  rw [sv_Te]
  unfold f_X0_solve_J45 f_X0_solve_J189
  rw [pu_b5 (sv_1111 hd hs hv b0 b1 b2 b3 _ _)]
  rw [if_pos rfl, Int32.zero_or]
set_option maxHeartbeats 300000 in
theorem sf_1110 (hd : ∀ i, d i < 256) (hs : s < 64) (hv : ∀ i, i < 4 → S k0 i = nI (d i)) (b0 : s.testBit 0 = true) (b1 : s.testBit 1 = true) (b2 : s.testBit 2 = true) (b3 : s.testBit 3 = false) (c4 c5 : Bool) (f4 : s.testBit 4 = c4) (hq : 4 ≤ 3 + (if c4 = true then 1 else 0) + (if c5 = true then 1 else 0)) : f_X0_solve_J45 S k0 (nI s) (if c4 = true then nI (d 0 ^^^ d 1 ^^^ d 2 ^^^ d 3) else 0) (if c5 = true then nI (pu_W 0 (d 0) ^^^ pu_W 1 (d 1) ^^^ pu_W 2 (d 2) ^^^ pu_W 3 (d 3)) else 0) = some (sv_T d) := by
  have i4 : f_X0_isIn (nI s) 4 = some (if c4 = true then 1 else 0) := by rw [← f4]; exact isin_ok hs (k := 4) (by omega)
  rw [sv_Te]
  unfold f_X0_solve_J45 f_X0_solve_J189
  rw [pu_b5 (sv_1110 hd hs hv b0 b1 b2 b3 _ _)]
  rw [if_neg (show ¬ nI 3 = -1 by decide), if_pos rfl, i4, pu_sb]
  cases c4 with
  | true =>
    rw [pu_tt, if_neg (show ¬ (1 : Int32) = 0 by decide), if_pos rfl, pu_xor, pu_xor, pu_xor, xr_1110, Int32.zero_or]
    rw [sv_tE]
  | false =>
    cases c5 with
    | false => exact absurd hq (by decide)
    | true =>
      rw [pu_ff, if_pos rfl, if_pos rfl, pu_xor, pu_xor, pu_xor, xr_1110, pw_C ⟨3, by omega⟩, iv_1 ⟨3, by omega⟩, pu_sb, tm_1 ⟨3, by omega⟩ ⟨d 3, hd 3⟩, pu_sb, Int32.zero_or]
      rw [sv_tE]
set_option maxHeartbeats 300000 in
theorem sf_1101 (hd : ∀ i, d i < 256) (hs : s < 64) (hv : ∀ i, i < 4 → S k0 i = nI (d i)) (b0 : s.testBit 0 = true) (b1 : s.testBit 1 = true) (b2 : s.testBit 2 = false) (b3 : s.testBit 3 = true) (c4 c5 : Bool) (f4 : s.testBit 4 = c4) (hq : 4 ≤ 3 + (if c4 = true then 1 else 0) + (if c5 = true then 1 else 0)) : f_X0_solve_J45 S k0 (nI s) (if c4 = true then nI (d 0 ^^^ d 1 ^^^ d 2 ^^^ d 3) else 0) (if c5 = true then nI (pu_W 0 (d 0) ^^^ pu_W 1 (d 1) ^^^ pu_W 2 (d 2) ^^^ pu_W 3 (d 3)) else 0) = some (sv_T d) := by
  have i4 : f_X0_isIn (nI s) 4 = some (if c4 = true then 1 else 0) := by rw [← f4]; exact isin_ok hs (k := 4) (by omega)
  rw [sv_Te]
  unfold f_X0_solve_J45 f_X0_solve_J189
  rw [pu_b5 (sv_1101 hd hs hv b0 b1 b2 b3 _ _)]
  rw [if_neg (show ¬ nI 2 = -1 by decide), if_pos rfl, i4, pu_sb]
  cases c4 with
  | true =>
    rw [pu_tt, if_neg (show ¬ (1 : Int32) = 0 by decide), if_pos rfl, pu_xor, pu_xor, pu_xor, xr_1101, Int32.zero_or]
    rw [sv_tE]
    exact congrArg some (or_1101 _ _ _ _)
  | false =>
    cases c5 with
    | false => exact absurd hq (by decide)
    | true =>
      rw [pu_ff, if_pos rfl, if_pos rfl, pu_xor, pu_xor, pu_xor, xr_1101, pw_C ⟨2, by omega⟩, iv_1 ⟨2, by omega⟩, pu_sb, tm_1 ⟨2, by omega⟩ ⟨d 2, hd 2⟩, pu_sb, Int32.zero_or]
      rw [sv_tE]
      exact congrArg some (or_1101 _ _ _ _)
set_option maxHeartbeats 300000 in
theorem sf_1100 (hd : ∀ i, d i < 256) (hs : s < 64) (hv : ∀ i, i < 4 → S k0 i = nI (d i)) (b0 : s.testBit 0 = true) (b1 : s.testBit 1 = true) (b2 : s.testBit 2 = false) (b3 : s.testBit 3 = false) (c4 c5 : Bool) (f4 : s.testBit 4 = c4) (hq : 4 ≤ 2 + (if c4 = true then 1 else 0) + (if c5 = true then 1 else 0)) : f_X0_solve_J45 S k0 (nI s) (if c4 = true then nI (d 0 ^^^ d 1 ^^^ d 2 ^^^ d 3) else 0) (if c5 = true then nI (pu_W 0 (d 0) ^^^ pu_W 1 (d 1) ^^^ pu_W 2 (d 2) ^^^ pu_W 3 (d 3)) else 0) = some (sv_T d) := by
  have i4 : f_X0_isIn (nI s) 4 = some (if c4 = true then 1 else 0) := by rw [← f4]; exact isin_ok hs (k := 4) (by omega)
  rw [sv_Te]
  unfold f_X0_solve_J45 f_X0_solve_J189
  rw [pu_b5 (sv_1100 hd hs hv b0 b1 b2 b3 _ _)]
  cases c4 with
  | false => exfalso; revert hq; cases c5 <;> decide
  | true =>
    cases c5 with
    | false => exact absurd hq (by decide)
    | true =>
      rw [if_neg (show ¬ nI 2 = -1 by decide), if_neg (show ¬ nI 3 = -1 by decide), if_pos rfl, if_pos rfl, pu_xor, pu_xor, pu_xor, pu_xor, xr_1100, xr_1100, two_ok (by omega) (by omega) (hd 2) (hd 3), pu_sb, Int32.zero_or]
      rw [sv_tE, sv_tE]
      exact congrArg some (or_1100 _ _ _ _)
set_option maxHeartbeats 300000 in
theorem sf_1011 (hd : ∀ i, d i < 256) (hs : s < 64) (hv : ∀ i, i < 4 → S k0 i = nI (d i)) (b0 : s.testBit 0 = true) (b1 : s.testBit 1 = false) (b2 : s.testBit 2 = true) (b3 : s.testBit 3 = true) (c4 c5 : Bool) (f4 : s.testBit 4 = c4) (hq : 4 ≤ 3 + (if c4 = true then 1 else 0) + (if c5 = true then 1 else 0)) : f_X0_solve_J45 S k0 (nI s) (if c4 = true then nI (d 0 ^^^ d 1 ^^^ d 2 ^^^ d 3) else 0) (if c5 = true then nI (pu_W 0 (d 0) ^^^ pu_W 1 (d 1) ^^^ pu_W 2 (d 2) ^^^ pu_W 3 (d 3)) else 0) = some (sv_T d) := by
  have i4 : f_X0_isIn (nI s) 4 = some (if c4 = true then 1 else 0) := by rw [← f4]; exact isin_ok hs (k := 4) (by omega)
  rw [sv_Te]
  unfold f_X0_solve_J45 f_X0_solve_J189
  rw [pu_b5 (sv_1011 hd hs hv b0 b1 b2 b3 _ _)]
  rw [if_neg (show ¬ nI 1 = -1 by decide), if_pos rfl, i4, pu_sb]
  cases c4 with
  | true =>
    rw [pu_tt, if_neg (show ¬ (1 : Int32) = 0 by decide), if_pos rfl, pu_xor, pu_xor, pu_xor, xr_1011, Int32.zero_or]
    rw [sv_tE]
    exact congrArg some (or_1011 _ _ _ _)
  | false =>
    cases c5 with
    | false => exact absurd hq (by decide)
    | true =>
      rw [pu_ff, if_pos rfl, if_pos rfl, pu_xor, pu_xor, pu_xor, xr_1011, pw_C ⟨1, by omega⟩, iv_1 ⟨1, by omega⟩, pu_sb, tm_1 ⟨1, by omega⟩ ⟨d 1, hd 1⟩, pu_sb, Int32.zero_or]
      rw [sv_tE]
      exact congrArg some (or_1011 _ _ _ _)
set_option maxHeartbeats 300000 in
theorem sf_1010 (hd : ∀ i, d i < 256) (hs : s < 64) (hv : ∀ i, i < 4 → S k0 i = nI (d i)) (b0 : s.testBit 0 = true) (b1 : s.testBit 1 = false) (b2 : s.testBit 2 = true) (b3 : s.testBit 3 = false) (c4 c5 : Bool) (f4 : s.testBit 4 = c4) (hq : 4 ≤ 2 + (if c4 = true then 1 else 0) + (if c5 = true then 1 else 0)) : f_X0_solve_J45 S k0 (nI s) (if c4 = true then nI (d 0 ^^^ d 1 ^^^ d 2 ^^^ d 3) else 0) (if c5 = true then nI (pu_W 0 (d 0) ^^^ pu_W 1 (d 1) ^^^ pu_W 2 (d 2) ^^^ pu_W 3 (d 3)) else 0) = some (sv_T d) := by
  have i4 : f_X0_isIn (nI s) 4 = some (if c4 = true then 1 else 0) := by rw [← f4]; exact isin_ok hs (k := 4) (by omega)
  rw [sv_Te]
  unfold f_X0_solve_J45 f_X0_solve_J189
  rw [pu_b5 (sv_1010 hd hs hv b0 b1 b2 b3 _ _)]
  cases c4 with
  | false => exfalso; revert hq; cases c5 <;> decide
  | true =>
    cases c5 with
    | false => exact absurd hq (by decide)
    | true =>
      rw [if_neg (show ¬ nI 1 = -1 by decide), if_neg (show ¬ nI 3 = -1 by decide), if_pos rfl, if_pos rfl, pu_xor, pu_xor, pu_xor, pu_xor, xr_1010, xr_1010, two_ok (by omega) (by omega) (hd 1) (hd 3), pu_sb, Int32.zero_or]
      rw [sv_tE, sv_tE]
      exact congrArg some (or_1010 _ _ _ _)
set_option maxHeartbeats 300000 in
theorem sf_1001 (hd : ∀ i, d i < 256) (hs : s < 64) (hv : ∀ i, i < 4 → S k0 i = nI (d i)) (b0 : s.testBit 0 = true) (b1 : s.testBit 1 = false) (b2 : s.testBit 2 = false) (b3 : s.testBit 3 = true) (c4 c5 : Bool) (f4 : s.testBit 4 = c4) (hq : 4 ≤ 2 + (if c4 = true then 1 else 0) + (if c5 = true then 1 else 0)) : f_X0_solve_J45 S k0 (nI s) (if c4 = true then nI (d 0 ^^^ d 1 ^^^ d 2 ^^^ d 3) else 0) (if c5 = true then nI (pu_W 0 (d 0) ^^^ pu_W 1 (d 1) ^^^ pu_W 2 (d 2) ^^^ pu_W 3 (d 3)) else 0) = some (sv_T d) := by
  have i4 : f_X0_isIn (nI s) 4 = some (if c4 = true then 1 else 0) := by rw [← f4]; exact isin_ok hs (k := 4) (by omega)
  rw [sv_Te]
  unfold f_X0_solve_J45 f_X0_solve_J189
  rw [pu_b5 (sv_1001 hd hs hv b0 b1 b2 b3 _ _)]
  cases c4 with
  | false => exfalso; revert hq; cases c5 <;> decide
  | true =>
    cases c5 with
    | false => exact absurd hq (by decide)
    | true =>
      rw [if_neg (show ¬ nI 1 = -1 by decide), if_neg (show ¬ nI 2 = -1 by decide), if_pos rfl, if_pos rfl, pu_xor, pu_xor, pu_xor, pu_xor, xr_1001, xr_1001, two_ok (by omega) (by omega) (hd 1) (hd 2), pu_sb, Int32.zero_or]
      rw [sv_tE, sv_tE]
      exact congrArg some (or_1001 _ _ _ _)
set_option maxHeartbeats 300000 in
theorem sf_0111 (hd : ∀ i, d i < 256) (hs : s < 64) (hv : ∀ i, i < 4 → S k0 i = nI (d i)) (b0 : s.testBit 0 = false) (b1 : s.testBit 1 = true) (b2 : s.testBit 2 = true) (b3 : s.testBit 3 = true) (c4 c5 : Bool) (f4 : s.testBit 4 = c4) (hq : 4 ≤ 3 + (if c4 = true then 1 else 0) + (if c5 = true then 1 else 0)) : f_X0_solve_J45 S k0 (nI s) (if c4 = true then nI (d 0 ^^^ d 1 ^^^ d 2 ^^^ d 3) else 0) (if c5 = true then nI (pu_W 0 (d 0) ^^^ pu_W 1 (d 1) ^^^ pu_W 2 (d 2) ^^^ pu_W 3 (d 3)) else 0) = some (sv_T d) := by
  have i4 : f_X0_isIn (nI s) 4 = some (if c4 = true then 1 else 0) := by rw [← f4]; exact isin_ok hs (k := 4) (by omega)
  rw [sv_Te]
  unfold f_X0_solve_J45 f_X0_solve_J189
  rw [pu_b5 (sv_0111 hd hs hv b0 b1 b2 b3 _ _)]
  rw [if_neg (show ¬ nI 0 = -1 by decide), if_pos rfl, i4, pu_sb]
  cases c4 with
  | true =>
    rw [pu_tt, if_neg (show ¬ (1 : Int32) = 0 by decide), if_pos rfl, pu_xor, pu_xor, pu_xor, xr_0111, Int32.zero_or]
    rw [sv_tE]
    exact congrArg some (or_0111 _ _ _ _)
  | false =>
    cases c5 with
    | false => exact absurd hq (by decide)
    | true =>
      rw [pu_ff, if_pos rfl, if_pos rfl, pu_xor, pu_xor, pu_xor, xr_0111, pw_C ⟨0, by omega⟩, iv_1 ⟨0, by omega⟩, pu_sb, tm_1 ⟨0, by omega⟩ ⟨d 0, hd 0⟩, pu_sb, Int32.zero_or]
      rw [sv_tE]
      exact congrArg some (or_0111 _ _ _ _)
set_option maxHeartbeats 300000 in
theorem sf_0110 (hd : ∀ i, d i < 256) (hs : s < 64) (hv : ∀ i, i < 4 → S k0 i = nI (d i)) (b0 : s.testBit 0 = false) (b1 : s.testBit 1 = true) (b2 : s.testBit 2 = true) (b3 : s.testBit 3 = false) (c4 c5 : Bool) (f4 : s.testBit 4 = c4) (hq : 4 ≤ 2 + (if c4 = true then 1 else 0) + (if c5 = true then 1 else 0)) : f_X0_solve_J45 S k0 (nI s) (if c4 = true then nI (d 0 ^^^ d 1 ^^^ d 2 ^^^ d 3) else 0) (if c5 = true then nI (pu_W 0 (d 0) ^^^ pu_W 1 (d 1) ^^^ pu_W 2 (d 2) ^^^ pu_W 3 (d 3)) else 0) = some (sv_T d) := by
  have i4 : f_X0_isIn (nI s) 4 = some (if c4 = true then 1 else 0) := by rw [← f4]; exact isin_ok hs (k := 4) (by omega)
  rw [sv_Te]
  unfold f_X0_solve_J45 f_X0_solve_J189
  rw [pu_b5 (sv_0110 hd hs hv b0 b1 b2 b3 _ _)]
  cases c4 with
  | false => exfalso; revert hq; cases c5 <;> decide
  | true =>
    cases c5 with
    | false => exact absurd hq (by decide)
    | true =>
      rw [if_neg (show ¬ nI 0 = -1 by decide), if_neg (show ¬ nI 3 = -1 by decide), if_pos rfl, if_pos rfl, pu_xor, pu_xor, pu_xor, pu_xor, xr_0110, xr_0110, two_ok (by omega) (by omega) (hd 0) (hd 3), pu_sb, Int32.zero_or]
      rw [sv_tE, sv_tE]
      exact congrArg some (or_0110 _ _ _ _)
set_option maxHeartbeats 300000 in
theorem sf_0101 (hd : ∀ i, d i < 256) (hs : s < 64) (hv : ∀ i, i < 4 → S k0 i = nI (d i)) (b0 : s.testBit 0 = false) (b1 : s.testBit 1 = true) (b2 : s.testBit 2 = false) (b3 : s.testBit 3 = true) (c4 c5 : Bool) (f4 : s.testBit 4 = c4) (hq : 4 ≤ 2 + (if c4 = true then 1 else 0) + (if c5 = true then 1 else 0)) : f_X0_solve_J45 S k0 (nI s) (if c4 = true then nI (d 0 ^^^ d 1 ^^^ d 2 ^^^ d 3) else 0) (if c5 = true then nI (pu_W 0 (d 0) ^^^ pu_W 1 (d 1) ^^^ pu_W 2 (d 2) ^^^ pu_W 3 (d 3)) else 0) = some (sv_T d) := by
  have i4 : f_X0_isIn (nI s) 4 = some (if c4 = true then 1 else 0) := by rw [← f4]; exact isin_ok hs (k := 4) (by omega)
  rw [sv_Te]
  unfold f_X0_solve_J45 f_X0_solve_J189
  rw [pu_b5 (sv_0101 hd hs hv b0 b1 b2 b3 _ _)]
  cases c4 with
  | false => exfalso; revert hq; cases c5 <;> decide
  | true =>
    cases c5 with
    | false => exact absurd hq (by decide)
    | true =>
      rw [if_neg (show ¬ nI 0 = -1 by decide), if_neg (show ¬ nI 2 = -1 by decide), if_pos rfl, if_pos rfl, pu_xor, pu_xor, pu_xor, pu_xor, xr_0101, xr_0101, two_ok (by omega) (by omega) (hd 0) (hd 2), pu_sb, Int32.zero_or]
      rw [sv_tE, sv_tE]
      exact congrArg some (or_0101 _ _ _ _)
set_option maxHeartbeats 300000 in
theorem sf_0011 (hd : ∀ i, d i < 256) (hs : s < 64) (hv : ∀ i, i < 4 → S k0 i = nI (d i)) (b0 : s.testBit 0 = false) (b1 : s.testBit 1 = false) (b2 : s.testBit 2 = true) (b3 : s.testBit 3 = true) (c4 c5 : Bool) (f4 : s.testBit 4 = c4) (hq : 4 ≤ 2 + (if c4 = true then 1 else 0) + (if c5 = true then 1 else 0)) : f_X0_solve_J45 S k0 (nI s) (if c4 = true then nI (d 0 ^^^ d 1 ^^^ d 2 ^^^ d 3) else 0) (if c5 = true then nI (pu_W 0 (d 0) ^^^ pu_W 1 (d 1) ^^^ pu_W 2 (d 2) ^^^ pu_W 3 (d 3)) else 0) = some (sv_T d) := by
  have i4 : f_X0_isIn (nI s) 4 = some (if c4 = true then 1 else 0) := by rw [← f4]; exact isin_ok hs (k := 4) (by omega)
  rw [sv_Te]
  unfold f_X0_solve_J45 f_X0_solve_J189
  rw [pu_b5 (sv_0011 hd hs hv b0 b1 b2 b3 _ _)]
  cases c4 with
  | false => exfalso; revert hq; cases c5 <;> decide
  | true =>
    cases c5 with
    | false => exact absurd hq (by decide)
    | true =>
      rw [if_neg (show ¬ nI 0 = -1 by decide), if_neg (show ¬ nI 1 = -1 by decide), if_pos rfl, if_pos rfl, pu_xor, pu_xor, pu_xor, pu_xor, xr_0011, xr_0011, two_ok (by omega) (by omega) (hd 0) (hd 1), pu_sb, Int32.zero_or]
      rw [sv_tE, sv_tE]
      exact congrArg some (or_0011 _ _ _ _)
theorem solve_ok (hd : ∀ i, d i < 256) (hs : s < 64) (h4 : 4 ≤ pu_bc s) (hv : ∀ i, i < 4 → S k0 i = nI (d i)) (hv4 : S k0 4 = nI (d 0 ^^^ d 1 ^^^ d 2 ^^^ d 3)) (hv5 : S k0 5 = nI (pu_W 0 (d 0) ^^^ pu_W 1 (d 1) ^^^ pu_W 2 (d 2) ^^^ pu_W 3 (d 3))) : f_X0_solve S k0 (nI s) = some (sv_T d) := by
  have hq : 4 ≤ (if s.testBit 0 = true then 1 else 0) + (if s.testBit 1 = true then 1 else 0) + (if s.testBit 2 = true then 1 else 0) + (if s.testBit 3 = true then 1 else 0) + (if s.testBit 4 = true then 1 else 0) + (if s.testBit 5 = true then 1 else 0) := by
    unfold pu_bc at h4
    simp only [show List.range 6 = [0, 1, 2, 3, 4, 5] from rfl, List.foldl] at h4
    omega
  have i4 : f_X0_isIn (nI s) 4 = some (if s.testBit 4 = true then 1 else 0) := isin_ok hs (k := 4) (by omega)
  have i5 : f_X0_isIn (nI s) 5 = some (if s.testBit 5 = true then 1 else 0) := isin_ok hs (k := 5) (by omega)
  have e45 : f_X0_solve S k0 (nI s) = f_X0_solve_J45 S k0 (nI s) (if s.testBit 4 = true then S k0 4 else 0) (if s.testBit 5 = true then S k0 5 else 0) := by
    unfold f_X0_solve f_X0_solve_J23
    rw [i4, pu_sb, i5, pu_sb, pu_sb]
    cases s.testBit 4 <;> cases s.testBit 5 <;> rfl
  rw [e45, hv4, hv5]
  generalize f4 : s.testBit 4 = c4 at hq
  generalize f5 : s.testBit 5 = c5 at hq
  generalize b0 : s.testBit 0 = c0 at hq
  generalize b1 : s.testBit 1 = c1 at hq
  generalize b2 : s.testBit 2 = c2 at hq
  generalize b3 : s.testBit 3 = c3 at hq
  match c0, c1, c2, c3, b0, b1, b2, b3, hq with
  | true, true, true, true, b0, b1, b2, b3, hq =>
    exact sf_1111 hd hs hv b0 b1 b2 b3 c4 c5 f4 hq
  | true, true, true, false, b0, b1, b2, b3, hq =>
    exact sf_1110 hd hs hv b0 b1 b2 b3 c4 c5 f4 hq
  | true, true, false, true, b0, b1, b2, b3, hq =>
    exact sf_1101 hd hs hv b0 b1 b2 b3 c4 c5 f4 hq
  | true, true, false, false, b0, b1, b2, b3, hq =>
    exact sf_1100 hd hs hv b0 b1 b2 b3 c4 c5 f4 hq
  | true, false, true, true, b0, b1, b2, b3, hq =>
    exact sf_1011 hd hs hv b0 b1 b2 b3 c4 c5 f4 hq
  | true, false, true, false, b0, b1, b2, b3, hq =>
    exact sf_1010 hd hs hv b0 b1 b2 b3 c4 c5 f4 hq
  | true, false, false, true, b0, b1, b2, b3, hq =>
    exact sf_1001 hd hs hv b0 b1 b2 b3 c4 c5 f4 hq
  | true, false, false, false, b0, b1, b2, b3, hq =>
    exfalso
    revert hq
    cases c4 <;> cases c5 <;> decide
  | false, true, true, true, b0, b1, b2, b3, hq =>
    exact sf_0111 hd hs hv b0 b1 b2 b3 c4 c5 f4 hq
  | false, true, true, false, b0, b1, b2, b3, hq =>
    exact sf_0110 hd hs hv b0 b1 b2 b3 c4 c5 f4 hq
  | false, true, false, true, b0, b1, b2, b3, hq =>
    exact sf_0101 hd hs hv b0 b1 b2 b3 c4 c5 f4 hq
  | false, true, false, false, b0, b1, b2, b3, hq =>
    exfalso
    revert hq
    cases c4 <;> cases c5 <;> decide
  | false, false, true, true, b0, b1, b2, b3, hq =>
    exact sf_0011 hd hs hv b0 b1 b2 b3 c4 c5 f4 hq
  | false, false, true, false, b0, b1, b2, b3, hq =>
    exfalso
    revert hq
    cases c4 <;> cases c5 <;> decide
  | false, false, false, true, b0, b1, b2, b3, hq =>
    exfalso
    revert hq
    cases c4 <;> cases c5 <;> decide
  | false, false, false, false, b0, b1, b2, b3, hq =>
    exfalso
    revert hq
    cases c4 <;> cases c5 <;> decide
end
