/-! Peers: who they are, whom they keep; what they hear, and of whom they speak -/
theorem pu_sb {α β : Type} (a : α) (f : α → Option β) : (some a).bind f = f a := rfl
theorem pu_xor (a b : Nat) : nI a ^^^ nI b = nI (a ^^^ b) := by
  apply Int32.toBitVec_inj.1
  show BitVec.ofNat 32 a ^^^ BitVec.ofNat 32 b = BitVec.ofNat 32 (a ^^^ b)
  apply BitVec.eq_of_getLsbD_eq
  intro i hi
  simp [hi]
theorem pu_mul (a b : Nat) : nI a * nI b = nI (a * b) := (Int32.ofNat_mul a b).symm
theorem pu_2 (b : Nat) : (2 : Int32) * nI b = nI (2 * b) := pu_mul 2 b
theorem pu_8 (b : Nat) : (8 : Int32) * nI b = nI (8 * b) := pu_mul 8 b
theorem pu_16 (b : Nat) : (16 : Int32) * nI b = nI (16 * b) := pu_mul 16 b
theorem rs_congr {S : ps_S} {k n : Nat} {d : Nat → Int32} {q q' : Nat → Bool} (h : pu_rs S k d q n) (e : ∀ k, k < n → q k = q' k) : pu_rs S k d q' n := by
  obtain ⟨l, h1, h2⟩ := h
  exact ⟨l, h1, pu_set_congr h2 e⟩
def pu_hb (x : Int32) : Nat := Nat.log2 x.toNatClampNeg
theorem pu_hbC0 : ∀ k : Fin 256, f_X5_highestBit (nI k.val) = some (nI (Nat.log2 k.val)) := by decide +kernel
theorem pu_hbM0 : ∀ k : Fin 256, ps_it (fun (a : Int32 × Int32) => f_X11_bucketOf_L6 a.1 a.2) ps_fu (nI k.val, 0) = some (nI (Nat.log2 k.val)) := by decide +kernel
theorem pu_hb8 : ∀ k : Fin 256, Nat.log2 k.val < 8 := by decide +kernel
def pu_bk (on : Nat → Int32) (o : Nat) : List Nat → List Nat
  | [] => [o]
  | [a] => if a = o then [a] else [a, o]
  | a :: c :: t => if c = o then a :: c :: t else if a = o ∨ on a = 0 then [c, o] else [c, a]
def pu_hear (id on : Nat → Int32) (kp : Nat → Nat → List Nat) (p o : Nat) : Nat → Nat → List Nat := fun x b => if x = p ∧ b = pu_hb (id p ^^^ id o) then pu_bk on o (kp p (pu_hb (id p ^^^ id o))) else kp x b
def pu_keeps (kp : Nat → Nat → List Nat) (p x : Nat) : Bool := (List.range 8).any (fun b => decide (x ∈ kp p b))
/-- the peers, as they may be -/
def pu_AW (np : Nat) (id on : Nat → Int32) (kp : Nat → Nat → List Nat) : Prop := np ≤ 16 ∧ (∀ p, p < np → ∃ i, i < 256 ∧ id p = nI i) ∧ (∀ p q, p < np → q < np → id p = id q → p = q) ∧ (∀ p, p < np → on p = 0 ∨ on p = 1) ∧ ∀ p, p < np → ∀ b, b < 8 → (kp p b).length ≤ 2 ∧ ∀ q ∈ kp p b, q < np ∧ q ≠ p
/-- the class's peers -/
def pu_CP (np : Nat) (id so on : Nat → Int32) (kp : Nat → Nat → List Nat) (S : ps_S) : Prop := S 1 4 = nI np ∧ ∀ p, p < np → S 2 p = id p ∧ S 3 p = so p ∧ S 4 p = on p ∧ ∀ b, b < 8 → S (6 + p) (2 * b) = pu_enc (kp p b)[0]? ∧ S (6 + p) (2 * b + 1) = pu_enc (kp p b)[1]?
section
variable {np : Nat} {id so on : Nat → Int32} {kp : Nat → Nat → List Nat} {S : ps_S}
theorem aw_x (w : pu_AW np id on kp) {p o : Nat} (hp : p < np) (ho : o < np) : ∃ k, k < 256 ∧ id p ^^^ id o = nI k := by
  obtain ⟨i, hi, ei⟩ := w.2.1 p hp
  obtain ⟨j, hj, ej⟩ := w.2.1 o ho
  exact ⟨i ^^^ j, Nat.xor_lt_two_pow (n := 8) hi hj, by rw [ei, ej, pu_xor]⟩
theorem aw_d (w : pu_AW np id on kp) {key : Nat} (hk : key < 256) {p : Nat} (hp : p < np) : ∃ k, k < 256 ∧ id p ^^^ nI key = nI k := by
  obtain ⟨i, hi, ei⟩ := w.2.1 p hp
  exact ⟨i ^^^ key, Nat.xor_lt_two_pow (n := 8) hi hk, by rw [ei, pu_xor]⟩
theorem aw_dp (w : pu_AW np id on kp) {key : Nat} (hk : key < 256) : ∀ p, p < np → -1 < id p ^^^ nI key := by
  intro p hp
  obtain ⟨k, hk, e⟩ := aw_d w hk hp
  rw [e, pu_ilt, nI_toInt (by omega)]
  have h2 : ((-1 : Int32)).toInt = -1 := by decide
  omega
theorem aw_di (w : pu_AW np id on kp) (key : Int32) : ∀ a b, a < np → b < np → id a ^^^ key = id b ^^^ key → a = b := by
  intro a b ha hb e
  apply w.2.2.1 a b ha hb
  have h1 : id a ^^^ key ^^^ key = id b ^^^ key ^^^ key := by rw [e]
  rw [Int32.xor_assoc, Int32.xor_assoc, Int32.xor_self, Int32.xor_zero, Int32.xor_zero] at h1
  exact h1
theorem pu_hbC {x : Int32} {k : Nat} (hk : k < 256) (e : x = nI k) : f_X5_highestBit x = some (nI (pu_hb x)) ∧ ps_it (fun (a : Int32 × Int32) => f_X11_bucketOf_L6 a.1 a.2) ps_fu (x, 0) = some (nI (pu_hb x)) ∧ pu_hb x < 8 := by
  subst e
  unfold pu_hb
  rw [nI_clamp (by omega)]
  exact ⟨pu_hbC0 ⟨k, hk⟩, pu_hbM0 ⟨k, hk⟩, pu_hb8 ⟨k, hk⟩⟩
theorem pu_bk_len {on : Nat → Int32} {o : Nat} : ∀ {l : List Nat}, l.length ≤ 2 → (pu_bk on o l).length ≤ 2
  | [], _ => by simp [pu_bk]
  | [a], _ => by
    show (if a = o then [a] else [a, o]).length ≤ 2
    split <;> simp
  | [a, c], _ => by
    show (if c = o then [a, c] else if a = o ∨ on a = 0 then [c, o] else [c, a]).length ≤ 2
    split
    · simp
    · split <;> simp
  | a :: c :: e :: t, h => by simp at h
theorem pu_bk_mem {on : Nat → Int32} {o x : Nat} : ∀ {l : List Nat}, l.length ≤ 2 → x ∈ pu_bk on o l → x ∈ l ∨ x = o
  | [], _, h => by simp [pu_bk] at h; exact Or.inr h
  | [a], _, h => by
    have h : x ∈ (if a = o then [a] else [a, o]) := h
    split at h <;> simp at h <;> simp <;> omega
  | [a, c], _, h => by
    have h : x ∈ (if c = o then [a, c] else if a = o ∨ on a = 0 then [c, o] else [c, a]) := h
    split at h
    · simp at h; simp; omega
    · split at h <;> simp at h <;> simp <;> omega
  | a :: c :: e :: t, h, _ => by simp at h
theorem aw_hear (w : pu_AW np id on kp) {p o : Nat} (hp : p < np) (ho : o < np) (hpo : p ≠ o) : pu_AW np id on (pu_hear id on kp p o) := by
  refine ⟨w.1, w.2.1, w.2.2.1, w.2.2.2.1, fun x hx b hb => ?_⟩
  unfold pu_hear
  by_cases c : x = p ∧ b = pu_hb (id p ^^^ id o)
  · rw [if_pos c]
    obtain ⟨c1, c2⟩ := c
    subst c1
    rw [← c2]
    have h1 := w.2.2.2.2 x hx b hb
    refine ⟨pu_bk_len h1.1, fun q hq => ?_⟩
    rcases pu_bk_mem h1.1 hq with e | e
    · exact h1.2 q e
    · subst e; exact ⟨ho, fun e => hpo e.symm⟩
  · rw [if_neg c]
    exact w.2.2.2.2 x hx b hb
theorem cp_has (h : S 1 4 = nI np) (hn : np ≤ 16) {p : Nat} (hp : p < np) : f_X5_has S (nI p) = some 1 := by
  unfold f_X5_has
  rw [if_neg (nI_pos (by omega)), h, if_neg (nI_ge hp (by omega)), if_neg (by rw [pu_i16]; exact nI_ge (by omega) (by omega))]
theorem cp_hasno (h : S 1 4 = nI np) (hn : np ≤ 16) {x : Int32} (hx : ¬ ∃ p, p < np ∧ x = nI p) : f_X5_has S x = some 0 := by
  unfold f_X5_has
  by_cases h0 : x < 0
  · rw [if_pos h0]
  · rw [if_neg h0, h]
    by_cases h1 : nI np ≤ x
    · rw [if_pos h1]
    · exfalso
      exact hx (pu_nat (by omega) h0 (Int32.not_le.mp h1))
theorem pu_m1no {np : Nat} (hn : np ≤ 16) : ¬ ∃ p, p < np ∧ (-1 : Int32) = nI p := by
  rintro ⟨p, hp, e⟩
  exact pu_ne1 (by omega) e.symm
theorem cp_upd (h : pu_CP np id so on kp S) {p b : Nat} {l' : List Nat} {S' : ps_S} (h0 : S' (6 + p) (2 * b) = pu_enc l'[0]?) (h1 : S' (6 + p) (2 * b + 1) = pu_enc l'[1]?) (hp : p < 16) (hn : np ≤ 16) (hf : ∀ a c, (a ≠ 6 + p ∨ (c ≠ 2 * b ∧ c ≠ 2 * b + 1)) → S' a c = S a c) : pu_CP np id so on (fun x c => if x = p ∧ c = b then l' else kp x c) S' := by
  refine ⟨by rw [hf 1 4 (Or.inl (by omega))]; exact h.1, fun x hx => ?_⟩
  obtain ⟨e1, e2, e3, e4⟩ := h.2 x hx
  refine ⟨by rw [hf 2 x (Or.inl (by omega))]; exact e1, by rw [hf 3 x (Or.inl (by omega))]; exact e2, by rw [hf 4 x (Or.inl (by omega))]; exact e3, fun c hc => ?_⟩
  dsimp only
  by_cases c1 : x = p ∧ c = b
  · rw [if_pos c1, c1.1, c1.2]
    exact ⟨h0, h1⟩
  · rw [if_neg c1]
    obtain ⟨g1, g2⟩ := e4 c hc
    by_cases c2 : x = p
    · have c3 : c ≠ b := fun e => c1 ⟨c2, e⟩
      rw [hf _ _ (Or.inr (by omega)), hf _ _ (Or.inr (by omega))]
      exact ⟨g1, g2⟩
    · rw [hf _ _ (Or.inl (by omega)), hf _ _ (Or.inl (by omega))]
      exact ⟨g1, g2⟩
theorem cp_congr {S' : ps_S} (h : pu_CP np id so on kp S) (hn : np ≤ 16) (hf : ∀ a c, a < 22 → S' a c = S a c) : pu_CP np id so on kp S' := by
  refine ⟨by rw [hf 1 4 (by omega)]; exact h.1, fun x hx => ?_⟩
  obtain ⟨e1, e2, e3, e4⟩ := h.2 x hx
  exact ⟨by rw [hf 2 x (by omega)]; exact e1, by rw [hf 3 x (by omega)]; exact e2, by rw [hf 4 x (by omega)]; exact e3, fun c hc => by rw [hf _ _ (by omega), hf _ _ (by omega)]; exact e4 c hc⟩
theorem cp_hear (h : pu_CP np id so on kp S) (w : pu_AW np id on kp) {p o : Nat} (hp : p < np) (ho : o < np) (hpo : p ≠ o) : ∃ S', f_X5_hear S (nI p) (nI o) = some S' ∧ pu_CP np id so on (pu_hear id on kp p o) S' ∧ ∀ a b, a ≠ 6 + p → S' a b = S a b := by
  have hn := w.1
  obtain ⟨k, hk, ek⟩ := aw_x w hp ho
  obtain ⟨hb1, -, hb8⟩ := pu_hbC hk ek
  have hw := w.2.2.2.2 p hp (pu_hb (id p ^^^ id o)) hb8
  obtain ⟨ep1, ep2, ep3, ep4⟩ := h.2 p hp
  obtain ⟨g0, g1⟩ := ep4 (pu_hb (id p ^^^ id o)) hb8
  have hne : ¬ nI p = nI o := fun e => hpo (pu_inj (by omega) (by omega) e)
  have eo1 := (h.2 o ho).1
  unfold pu_hear
  unfold f_X5_hear
  rw [cp_has h.1 hn hp, pu_sb, if_neg (by decide), cp_has h.1 hn ho, pu_sb, if_neg (by decide), if_neg hne, if_pos (pu_ib (by omega) (by omega)), if_pos (pu_ib (by omega) (by omega)), if_pos (pu_ib (by omega) (by omega)), nI_clamp (by omega), nI_clamp (by omega), ep1, eo1, hb1, pu_sb]
  generalize pu_hb (id p ^^^ id o) = b at *
  rw [pu_2, nI_1, if_neg (nI_pos (by omega)), pu_i16, if_pos (nI_lt (by omega) (by omega)), if_pos (pu_ib (by omega) (by omega)), nI_clamp (by omega), g0]
  have ex : ∀ (l' : List Nat) (S' : ps_S), pu_bk on o (kp p b) = l' → S' (6 + p) (2 * b) = pu_enc l'[0]? → S' (6 + p) (2 * b + 1) = pu_enc l'[1]? → (∀ a c, (a ≠ 6 + p ∨ (c ≠ 2 * b ∧ c ≠ 2 * b + 1)) → S' a c = S a c) → ∃ S'', some S' = some S'' ∧ pu_CP np id so on (fun x c => if x = p ∧ c = b then pu_bk on o (kp p b) else kp x c) S'' ∧ ∀ a b, a ≠ 6 + p → S'' a b = S a b := by
    intro l' S' e h0 h1 hf
    rw [e]
    exact ⟨S', rfl, cp_upd h h0 h1 (by omega) hn hf, fun a c ha => hf a c (Or.inl ha)⟩
  have up1 : ∀ (v : Int32) (a c : Nat), (a ≠ 6 + p ∨ (c ≠ 2 * b ∧ c ≠ 2 * b + 1)) → ps_up S (6 + p) (2 * b) v a c = S a c := fun v a c hac => by unfold ps_up; rw [if_neg (by omega)]
  have up2 : ∀ (v : Int32) (a c : Nat), (a ≠ 6 + p ∨ (c ≠ 2 * b ∧ c ≠ 2 * b + 1)) → ps_up S (6 + p) (2 * b + 1) v a c = S a c := fun v a c hac => by unfold ps_up; rw [if_neg (by omega)]
  have up3 : ∀ (u v : Int32) (a c : Nat), (a ≠ 6 + p ∨ (c ≠ 2 * b ∧ c ≠ 2 * b + 1)) → ps_up (ps_up S (6 + p) (2 * b) u) (6 + p) (2 * b + 1) v a c = S a c := fun u v a c hac => by unfold ps_up; rw [if_neg (by omega), if_neg (by omega)]
  have ib0 := pu_ib (i := 2 * b) (n := 16) (by omega) (by omega)
  have ib1 := pu_ib (i := 2 * b + 1) (n := 16) (by omega) (by omega)
  have cl0 := nI_clamp (n := 2 * b) (by omega)
  have cl1 := nI_clamp (n := 2 * b + 1) (by omega)
  match hl : kp p b, hw with
  | [], _ =>
    rw [hl] at g0 g1
    have e0 : pu_enc ([] : List Nat)[0]? = -1 := rfl
    rw [e0, if_pos rfl, if_pos ib0]
    rw [← hl]
    refine ex [o] _ (by rw [hl]; rfl) ?_ ?_ (up1 _)
    · simp [ps_up, pu_enc]
    · rw [pu_up_i (by omega), g1]; rfl
  | [a], hw =>
    rw [hl] at g0 g1
    have ha := (hw.2 a (by simp)).1
    have e0 : pu_enc [a][0]? = nI a := rfl
    have e1 : pu_enc [a][1]? = -1 := rfl
    rw [e0] at g0
    rw [e1] at g1
    rw [e0, if_neg (pu_ne1 (by omega)), if_pos ib1, cl1, g1, if_pos rfl, if_pos ib0]
    unfold f_X5_hear_J108
    rw [nI_clamp (by omega), pu_2, nI_1, if_pos ib1, if_pos ib1, cl1]
    rw [← hl]
    by_cases c : a = o
    · subst c
      rw [if_pos rfl]
      refine ex [a] _ (by rw [hl]; simp [pu_bk]) ?_ ?_ (up2 _)
      · rw [pu_up_i (by omega), g0]; rfl
      · simp [ps_up, pu_enc]
    · rw [if_neg (fun e => c (pu_inj (by omega) (by omega) e))]
      refine ex [a, o] _ (by rw [hl]; simp [pu_bk, c]) ?_ ?_ (up2 _)
      · rw [pu_up_i (by omega), g0]; rfl
      · simp [ps_up, pu_enc]
  | [a, c], hw =>
    rw [hl] at g0 g1
    have ha := (hw.2 a (by simp)).1
    have hc := (hw.2 c (by simp)).1
    have e0 : pu_enc [a, c][0]? = nI a := rfl
    have e1 : pu_enc [a, c][1]? = nI c := rfl
    rw [e0] at g0
    rw [e1] at g1
    rw [e0, if_neg (pu_ne1 (by omega)), if_pos ib1, cl1, g1, if_neg (pu_ne1 (by omega)), if_pos ib1]
    rw [← hl]
    by_cases c1 : c = o
    · subst c1
      rw [if_pos rfl]
      refine ex [a, c] _ (by rw [hl]; simp [pu_bk]) g0 g1 (fun _ _ _ => rfl)
    · rw [if_neg (fun e => c1 (pu_inj (by omega) (by omega) e)), if_pos ib0]
      have J0 : f_X5_hear_J156 S (nI p) (nI o) (nI b) 0 = some (ps_up (ps_up S (6 + p) (2 * b) (nI c)) (6 + p) (2 * b + 1) (nI a)) := by
        unfold f_X5_hear_J156 f_X5_hear_J180
        rw [pu_2, nI_1, if_pos ib1, if_pos ib0, if_pos rfl, if_pos ib1, nI_clamp (by omega), cl0, cl1, g0, g1]
      have J1 : f_X5_hear_J156 S (nI p) (nI o) (nI b) 1 = some (ps_up (ps_up S (6 + p) (2 * b) (nI c)) (6 + p) (2 * b + 1) (nI o)) := by
        unfold f_X5_hear_J156 f_X5_hear_J180
        rw [pu_2, nI_1, if_pos ib1, if_pos ib0, if_neg (by decide), if_pos ib1, nI_clamp (by omega), cl0, cl1, g1]
      have F1 : ∃ S'', some (ps_up (ps_up S (6 + p) (2 * b) (nI c)) (6 + p) (2 * b + 1) (nI o)) = some S'' ∧ (a = o ∨ on a = 0 → pu_CP np id so on (fun x c => if x = p ∧ c = b then pu_bk on o (kp p b) else kp x c) S'') ∧ ∀ a b, a ≠ 6 + p → S'' a b = S a b := by
        refine ⟨_, rfl, fun cc => ?_, fun x y hx => up3 _ _ x y (Or.inl hx)⟩
        obtain ⟨S9, e9, r9⟩ := ex [c, o] (ps_up (ps_up S (6 + p) (2 * b) (nI c)) (6 + p) (2 * b + 1) (nI o)) (by rw [hl]; simp [pu_bk, c1, cc]) (by simp [ps_up, pu_enc]) (by simp [ps_up, pu_enc]) (up3 _ _)
        cases e9
        exact r9.1
      by_cases c2 : a = o
      · rw [if_pos (by rw [c2]), J1]
        obtain ⟨S9, e9, r9⟩ := F1
        exact ⟨S9, e9, r9.1 (Or.inl c2), r9.2⟩
      · rw [if_neg (fun e => c2 (pu_inj (by omega) (by omega) e)), cp_has h.1 hn ha, pu_sb, if_neg (by decide), if_pos (pu_ib (by omega) (by omega)), nI_clamp (by omega), (h.2 a ha).2.2.1]
        by_cases c3 : on a = 0
        · rw [if_pos c3, J1]
          obtain ⟨S9, e9, r9⟩ := F1
          exact ⟨S9, e9, r9.1 (Or.inr c3), r9.2⟩
        · rw [if_neg c3, J0]
          exact ex [c, a] _ (by rw [hl]; simp [pu_bk, c1, c2, c3]) (by simp [ps_up, pu_enc]) (by simp [ps_up, pu_enc]) (up3 _ _)
  | a :: c :: e :: t, hw => exact absurd hw.1 (by simp)
theorem cp_cell (h : pu_CP np id so on kp S) {p j : Nat} (hp : p < np) (hj : j < 16) : S (6 + p) j = pu_enc (kp p (j / 2))[j % 2]? := by
  obtain ⟨g0, g1⟩ := (h.2 p hp).2.2.2 (j / 2) (by omega)
  rcases Nat.mod_two_eq_zero_or_one j with e | e
  · have e2 : 2 * (j / 2) = j := by omega
    rw [e2] at g0
    rw [e]; exact g0
  · have e2 : 2 * (j / 2) + 1 = j := by omega
    rw [e2] at g1
    rw [e]; exact g1
theorem cp_keeps (h : pu_CP np id so on kp S) (w : pu_AW np id on kp) {p x : Nat} (hp : p < np) (hx : x < np) : (List.range 16).any (fun i => decide (S (6 + p) i = nI x)) = pu_keeps kp p x := by
  have hn := w.1
  rw [Bool.eq_iff_iff]
  unfold pu_keeps
  simp only [List.any_eq_true, List.mem_range, decide_eq_true_eq]
  constructor
  · rintro ⟨i, hi, e⟩
    rw [cp_cell h hp hi] at e
    refine ⟨i / 2, by omega, ?_⟩
    cases h9 : (kp p (i / 2))[i % 2]? with
    | none => rw [h9] at e; exact absurd e.symm (pu_ne1 (by omega))
    | some a =>
      rw [h9] at e
      have hm := List.mem_of_getElem? h9
      have ha := ((w.2.2.2.2 p hp (i / 2) (by omega)).2 a hm).1
      have : a = x := pu_inj (by omega) (by omega) e
      rw [← this]; exact hm
  · rintro ⟨b, hb, hm⟩
    obtain ⟨j, hj, e⟩ := List.getElem_of_mem hm
    have hl := (w.2.2.2.2 p hp b hb).1
    refine ⟨2 * b + j, by omega, ?_⟩
    rw [cp_cell h hp (by omega), show (2 * b + j) / 2 = b by omega, show (2 * b + j) % 2 = j by omega, List.getElem?_eq_getElem hj, e]
    rfl
theorem cp_gather (h : pu_CP np id so on kp S) (w : pu_AW np id on kp) {p : Nat} (key : Int32) (hp : p < np) (r : Int32) {k4 : Nat} (hk4 : 22 ≤ k4) : ∃ S', f_X5_gather S (nI p) key r k4 = some S' ∧ pu_rs S' k4 (fun x => id x ^^^ key) (fun x => pu_keeps kp p x && (decide (r = 0) || decide (so x = 2))) np ∧ (∀ a b, a ≠ k4 → a ≠ k4 + 1 → a ≠ k4 + 2 → S' a b = S a b) ∧ ∀ b, b ≠ 2 → S' k4 b = S k4 b := by
  have hn := w.1
  have loop := pu_ind0 (step := fun (a : ps_S × Int32) => f_X5_gather_L30 (nI p) key r k4 a.1 a.2) (a := (ps_up S k4 2 0, 0))
    (fun j a => a.2 = nI j ∧ pu_rs a.1 k4 (fun x => id x ^^^ key) (fun x => (List.range j).any (fun i => decide (S (6 + p) i = nI x)) && (decide (r = 0) || decide (so x = 2))) np ∧ (∀ x b, x ≠ k4 → x ≠ k4 + 1 → x ≠ k4 + 2 → a.1 x b = S x b) ∧ ∀ b, b ≠ 2 → a.1 k4 b = S k4 b)
    (fun S' => pu_rs S' k4 (fun x => id x ^^^ key) (fun x => pu_keeps kp p x && (decide (r = 0) || decide (so x = 2))) np ∧ (∀ a b, a ≠ k4 → a ≠ k4 + 1 → a ≠ k4 + 2 → S' a b = S a b) ∧ ∀ b, b ≠ 2 → S' k4 b = S k4 b) 16 (by omega) ?_ ?_ ?_
  · obtain ⟨S', e, q⟩ := loop
    refine ⟨S', ?_, q⟩
    unfold f_X5_gather
    show (f_X5_has (ps_up S k4 2 0) (nI p)).bind _ = _
    rw [cp_has (np := np) (by rw [pu_up_k (by omega)]; exact h.1) hn hp, pu_sb, if_neg (by decide), if_pos (pu_ib (by omega) (by omega)), e]
    rfl
  · refine ⟨rfl, rs_congr (rs_clear _ np (pu_up_same S k4 2 0)) (fun k _ => by simp), fun x b h1 _ _ => pu_up_k h1, fun b hb => pu_up_i hb⟩
  · rintro j ⟨T, v⟩ hj ⟨hv, hr, f1, f2⟩
    dsimp only at hv hr f1 f2 ⊢
    subst hv
    have hT : pu_CP np id so on kp T := cp_congr h hn (fun a c ha => f1 a c (by omega) (by omega) (by omega))
    have hc := cp_cell h hp hj
    have hcT : T (6 + p) j = S (6 + p) j := f1 _ _ (by omega) (by omega) (by omega)
    unfold f_X5_gather_L30
    rw [if_neg (by rw [pu_i16]; exact nI_ge hj (by omega)), if_pos (pu_ib (by omega) (by omega)), nI_clamp (n := p) (by omega), nI_clamp (n := j) (by omega), hcT]
    have stay : (∀ x, x < np → (decide (S (6 + p) j = nI x) && (decide (r = 0) || decide (so x = 2))) = false) → ∃ a', f_X5_gather_J84 (nI j) T = some (.inl a') ∧ a'.2 = nI (j + 1) ∧ pu_rs a'.1 k4 (fun x => id x ^^^ key) (fun x => (List.range (j + 1)).any (fun i => decide (S (6 + p) i = nI x)) && (decide (r = 0) || decide (so x = 2))) np ∧ (∀ x b, x ≠ k4 → x ≠ k4 + 1 → x ≠ k4 + 2 → a'.1 x b = S x b) ∧ ∀ b, b ≠ 2 → a'.1 k4 b = S k4 b := by
      intro hx
      refine ⟨(T, nI j + 1), rfl, nI_1 j, rs_congr hr (fun x hxn => ?_), f1, f2⟩
      have := hx x hxn
      rw [List.range_succ, List.any_append, Bool.and_or_distrib_right]
      simp only [List.any_cons, List.any_nil, Bool.or_false]
      rw [this, Bool.or_false]
    cases h9 : (kp p (j / 2))[j % 2]? with
    | none =>
      rw [h9] at hc
      have hc : S (6 + p) j = -1 := hc
      rw [hc, cp_hasno hT.1 hn (pu_m1no hn), pu_sb, if_pos rfl]
      refine stay (fun x hx => ?_)
      have : ¬ (-1 : Int32) = nI x := fun e => pu_ne1 (by omega) e.symm
      rw [hc]
      simp [this]
    | some a =>
      rw [h9] at hc
      have hc : S (6 + p) j = nI a := hc
      have ha := ((w.2.2.2.2 p hp (j / 2) (by omega)).2 a (List.mem_of_getElem? h9)).1
      rw [hc, cp_has hT.1 hn ha, pu_sb, if_neg (by decide)]
      have put : (r = 0 ∨ so a = 2) → ∃ a', f_X5_gather_J68 (nI p) key k4 T (nI j) = some (.inl a') ∧ a'.2 = nI (j + 1) ∧ pu_rs a'.1 k4 (fun x => id x ^^^ key) (fun x => (List.range (j + 1)).any (fun i => decide (S (6 + p) i = nI x)) && (decide (r = 0) || decide (so x = 2))) np ∧ (∀ x b, x ≠ k4 → x ≠ k4 + 1 → x ≠ k4 + 2 → a'.1 x b = S x b) ∧ ∀ b, b ≠ 2 → a'.1 k4 b = S k4 b := by
        intro hyes
        obtain ⟨S', e, r', g1, g2⟩ := rs_put hr (aw_di w key) hn ha
        unfold f_X5_gather_J68
        rw [nI_clamp (n := p) (by omega), nI_clamp (n := j) (by omega), hcT, hc, if_pos (pu_ib (by omega) (by omega)), nI_clamp (n := a) (by omega), (hT.2 a ha).1, e]
        refine ⟨(S', nI j + 1), rfl, nI_1 j, rs_congr r' (fun x hxn => ?_), fun x b q1 q2 q3 => (g1 x b q1 q2 q3).trans (f1 x b q1 q2 q3), fun b hb => (g2 b hb).trans (f2 b hb)⟩
        rw [List.range_succ, List.any_append, Bool.and_or_distrib_right]
        simp only [List.any_cons, List.any_nil, Bool.or_false]
        congr 1
        rw [hc]
        by_cases ex : x = a
        · subst ex
          rcases hyes with y | y <;> simp [y]
        · have : ¬ nI a = nI x := fun e => ex (pu_inj (by omega) (by omega) e).symm
          simp [ex, this]
      by_cases c1 : r = 0
      · rw [if_pos c1]
        exact put (Or.inl c1)
      · rw [if_neg c1, if_pos (pu_ib (by omega) (by omega)), nI_clamp (n := a) (by omega), (hT.2 a ha).2.1]
        by_cases c2 : so a = 2
        · rw [if_pos c2]
          exact put (Or.inr c2)
        · rw [if_neg c2]
          refine stay (fun x hx => ?_)
          rw [hc]
          by_cases ex : x = a
          · subst ex; simp [c1, c2]
          · have : ¬ nI a = nI x := fun e => ex (pu_inj (by omega) (by omega) e).symm
            simp [this]
  · rintro ⟨T, v⟩ ⟨hv, hr, f1, f2⟩
    dsimp only at hv hr f1 f2 ⊢
    subst hv
    refine ⟨T, ?_, rs_congr hr (fun x hx => by rw [cp_keeps h w hp hx]), f1, f2⟩
    unfold f_X5_gather_L30
    rw [if_pos (by rw [pu_i16]; exact nI_le (Nat.le_refl _) (by omega))]
end
