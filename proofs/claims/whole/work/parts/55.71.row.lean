/-! a Row: its members by rising distance -/
/-- how many stand ahead -/
def pu_pl (f : Nat → Bool) : List Nat → Nat
  | [] => 0
  | a :: t => if f a then pu_pl f t + 1 else 0
theorem pu_pl_le (f : Nat → Bool) : ∀ l : List Nat, pu_pl f l ≤ l.length
  | [] => Nat.le_refl _
  | a :: t => by
    have := pu_pl_le f t
    unfold pu_pl
    split <;> simp <;> omega
theorem pu_pl_true (f : Nat → Bool) : ∀ (l : List Nat) (i a : Nat), i < pu_pl f l → l[i]? = some a → f a = true
  | [], i, a, h, _ => by simp [pu_pl] at h
  | b :: t, i, a, h, h2 => by
    unfold pu_pl at h
    by_cases hb : f b = true
    · rw [if_pos hb] at h
      cases i with
      | zero => simp at h2; rw [← h2]; exact hb
      | succ i => exact pu_pl_true f t i a (by omega) (by simpa using h2)
    · rw [if_neg hb] at h; omega
theorem pu_pl_false (f : Nat → Bool) : ∀ (l : List Nat) (a : Nat), l[pu_pl f l]? = some a → f a = false
  | [], a, h => by simp at h
  | b :: t, a, h => by
    by_cases hb : f b = true
    · have e : pu_pl f (b :: t) = pu_pl f t + 1 := by simp [pu_pl, hb]
      rw [e] at h
      exact pu_pl_false f t a (by simpa using h)
    · have e : pu_pl f (b :: t) = 0 := by simp [pu_pl, hb]
      rw [e] at h
      simp at h
      rw [← h]
      simpa using hb
def pu_row (S : ps_S) (k : Nat) (d : Nat → Int32) (l : List Nat) : Prop := S k 2 = nI l.length ∧ l.length ≤ 16 ∧ ∀ i a, l[i]? = some a → S (k + 1) i = nI a ∧ S (k + 2) i = d a
/-- p comes into l, once -/
def pu_ins (d : Nat → Int32) (p : Nat) (l : List Nat) : List Nat :=
  if (l[pu_pl (fun a => decide (d a < d p)) l]?).any (fun a => decide (d a = d p)) || decide (16 ≤ l.length) then l
  else l.take (pu_pl (fun a => decide (d a < d p)) l) ++ p :: l.drop (pu_pl (fun a => decide (d a < d p)) l)
theorem pu_i16 : (16 : Int32) = nI 16 := rfl
theorem row_find {S : ps_S} {k : Nat} {d : Nat → Int32} {l : List Nat} (h : pu_row S k d l) (x : Int32) : ps_it (fun (a : Int32) => f_X6_add_L2 S k x a) ps_fu 0 = some (nI (pu_pl (fun a => decide (d a < x)) l)) := by
  have hle := pu_pl_le (fun a => decide (d a < x)) l
  have h16 := h.2.1
  have := pu_it0 (step := fun (a : Int32) => f_X6_add_L2 S k x a) (b := nI (pu_pl (fun a => decide (d a < x)) l)) (fun j => nI j) (pu_pl (fun a => decide (d a < x)) l) ?_ ?_ (by omega)
  · exact this
  · intro j hj
    obtain ⟨a, ha⟩ : ∃ a, l[j]? = some a := ⟨_, List.getElem?_eq_getElem (by omega)⟩
    have hd := pu_pl_true _ l j a hj ha
    simp only [decide_eq_true_eq] at hd
    show f_X6_add_L2 S k x (nI j) = _
    unfold f_X6_add_L2
    rw [if_neg (by rw [h.1]; exact nI_ge (by omega) (by omega)), if_neg (by rw [pu_i16]; exact nI_ge (by omega) (by omega)), if_pos (pu_ib (by omega) (by omega)), nI_clamp (by omega), (h.2.2 j a ha).2, if_neg (by rw [pu_ilt] at hd; rw [pu_ile]; omega), nI_1]
  · show f_X6_add_L2 S k x (nI _) = _
    unfold f_X6_add_L2
    by_cases e : pu_pl (fun a => decide (d a < x)) l = l.length
    · rw [if_pos (by rw [h.1, e]; exact nI_le (Nat.le_refl _) (by omega))]
    · obtain ⟨a, ha⟩ : ∃ a, l[pu_pl (fun a => decide (d a < x)) l]? = some a := ⟨_, List.getElem?_eq_getElem (by omega)⟩
      have hd := pu_pl_false _ l a ha
      simp only [decide_eq_false_iff_not] at hd
      rw [if_neg (by rw [h.1]; exact nI_ge (by omega) (by omega)), if_neg (by rw [pu_i16]; exact nI_ge (by omega) (by omega)), if_pos (pu_ib (by omega) (by omega)), nI_clamp (by omega), (h.2.2 _ a ha).2, if_pos (by rw [pu_ilt] at hd; rw [pu_ile]; omega)]
/-- the row with those of the places above lo, up to hi, moved up by one -/
def pu_sh (S : ps_S) (k lo hi : Nat) : ps_S := fun a b => if (a = k + 1 ∨ a = k + 2) ∧ lo < b ∧ b ≤ hi then S a (b - 1) else S a b
theorem row_shift {S : ps_S} {k : Nat} {n pl : Nat} (hn : n < 16) (hpl : pl ≤ n) : ps_it (fun (a : ps_S × Int32) => f_X6_add_L84 k (nI pl) a.1 a.2) ps_fu (S, nI n) = some (pu_sh S k pl n) := by
  have := pu_it0 (step := fun (a : ps_S × Int32) => f_X6_add_L84 k (nI pl) a.1 a.2) (b := pu_sh S k pl n) (fun t => (pu_sh S k (n - t) n, nI (n - t))) (n - pl) ?_ ?_ (by omega)
  · have e : pu_sh S k (n - 0) n = S := by
      funext a b
      unfold pu_sh
      rw [if_neg (by omega)]
    rw [e] at this
    exact this
  · intro t ht
    obtain ⟨j, hj⟩ : ∃ j, n - t = j + 1 := ⟨n - t - 1, by omega⟩
    show f_X6_add_L84 k (nI pl) (pu_sh S k (n - t) n) (nI (n - t)) = some (.inl (pu_sh S k (n - (t + 1)) n, nI (n - (t + 1))))
    rw [show n - (t + 1) = j by omega, hj]
    unfold f_X6_add_L84
    rw [if_neg (nI_ge (by omega) (by omega)), nI_pred]
    rw [if_pos (pu_ib (by omega) (by omega)), if_pos (pu_ib (by omega) (by omega)), if_pos (pu_ib (by omega) (by omega)), if_pos (pu_ib (by omega) (by omega)), nI_clamp (by omega), nI_clamp (by omega)]
    rw [pu_dec]
    congr 3
    funext a b
    simp only [ps_up, pu_sh]
    by_cases h1 : a = k + 1
    · subst h1
      by_cases h2 : b = j + 1
      · subst h2
        simp [show ¬ (j + 1 < j + 1) by omega, show j < j + 1 by omega]
        rw [if_neg (by omega), if_pos (by omega)]
      · simp [h2]
        by_cases h3 : j + 1 < b ∧ b ≤ n
        · rw [if_pos h3, if_pos (by omega)]
        · rw [if_neg h3, if_neg (by omega)]
    · by_cases h1b : a = k + 2
      · subst h1b
        by_cases h2 : b = j + 1
        · subst h2
          simp [show ¬ (j + 1 < j + 1) by omega, show j < j + 1 by omega]
          rw [if_neg (by omega), if_pos (by omega)]
        · simp [h2]
          by_cases h3 : j + 1 < b ∧ b ≤ n
          · rw [if_pos h3, if_pos (by omega)]
          · rw [if_neg h3, if_neg (by omega)]
      · simp [h1, h1b]
  · show f_X6_add_L84 k (nI pl) (pu_sh S k (n - (n - pl)) n) (nI (n - (n - pl))) = _
    rw [show n - (n - pl) = pl by omega]
    unfold f_X6_add_L84
    rw [if_pos (nI_le (Nat.le_refl _) (by omega))]
theorem row_add {S : ps_S} {k : Nat} {d : Nat → Int32} {l : List Nat} (h : pu_row S k d l) (p : Nat) : ∃ S', f_X6_add S k (nI p) (d p) = some S' ∧ pu_row S' k d (pu_ins d p l) ∧ (∀ a b, a ≠ k → a ≠ k + 1 → a ≠ k + 2 → S' a b = S a b) ∧ ∀ b, b ≠ 2 → S' k b = S k b := by
  have hle := pu_pl_le (fun a => decide (d a < d p)) l
  have h16 := h.2.1
  unfold f_X6_add
  rw [row_find h (d p)]
  show ∃ S', (if S k 2 ≤ nI _ then _ else _) = some S' ∧ _
  unfold pu_ins
  generalize hpl : pu_pl (fun a => decide (d a < d p)) l = pl at hle ⊢
  have ins : ∀ (hno : ((l[pl]?).any (fun a => decide (d a = d p)) || decide (16 ≤ l.length)) = false), ∃ S', f_X6_add_J61 S k (nI p) (d p) (nI pl) 0 = some S' ∧ pu_row S' k d (l.take pl ++ p :: l.drop pl) ∧ (∀ a b, a ≠ k → a ≠ k + 1 → a ≠ k + 2 → S' a b = S a b) ∧ ∀ b, b ≠ 2 → S' k b = S k b := by
    intro hno
    simp only [Bool.or_eq_false_iff, decide_eq_false_iff_not] at hno
    have hlt : l.length < 16 := by omega
    refine ⟨ps_up (ps_up (ps_up (pu_sh S k pl l.length) (k + 1) pl (nI p)) (k + 2) pl (d p)) k 2 ((ps_up (ps_up (pu_sh S k pl l.length) (k + 1) pl (nI p)) (k + 2) pl (d p)) k 2 + 1), ?_, ?_⟩
    · unfold f_X6_add_J61
      rw [if_pos rfl, if_pos (by rw [h.1, pu_i16]; exact nI_lt hlt (by omega)), h.1, row_shift hlt hle]
      show (if _ then if _ then _ else none else none) = _
      rw [if_pos (pu_ib (by omega) (by omega)), if_pos (pu_ib (by omega) (by omega)), nI_clamp (by omega)]
    · refine ⟨⟨?_, ?_, ?_⟩, ?_, ?_⟩
      · simp [ps_up, pu_sh, h.1, nI_1]
        congr 1
        omega
      · simp; omega
      · intro i a ha
        rcases Nat.lt_trichotomy i pl with hi | hi | hi
        · have ha : l[i]? = some a := by
            rw [List.getElem?_append_left (by simp; omega), List.getElem?_take_of_lt hi] at ha
            exact ha
          have h3 := h.2.2 i a ha
          simp [ps_up, pu_sh, Nat.ne_of_lt hi, show ¬ pl < i by omega, h3]
        · subst hi
          have ha : a = p := by
            rw [List.getElem?_append_right (by simp; omega)] at ha
            simp [Nat.min_eq_left hle] at ha
            exact ha.symm
          subst ha
          simp [ps_up]
        · have ha : l[i - 1]? = some a := by
            rw [List.getElem?_append_right (by simp; omega)] at ha
            simp [Nat.min_eq_left hle] at ha
            obtain ⟨j, hj⟩ : ∃ j, i - pl = j + 1 := ⟨i - pl - 1, by omega⟩
            rw [hj] at ha
            simp at ha
            rw [show i - 1 = pl + j by omega]
            exact ha
          have hi2 : i - 1 < l.length := (List.getElem?_eq_some_iff.mp ha).1
          have h3 := h.2.2 _ a ha
          simp [ps_up, pu_sh, Nat.ne_of_gt hi, show pl < i by omega, show i ≤ l.length by omega, h3]
      · intro a b h1 h2 h3
        simp [ps_up, pu_sh, h1, h2, h3]
      · intro b hb
        simp [ps_up, pu_sh, hb]
  have same : ∃ S', some S = some S' ∧ pu_row S' k d l ∧ (∀ a b, a ≠ k → a ≠ k + 1 → a ≠ k + 2 → S' a b = S a b) ∧ ∀ b, b ≠ 2 → S' k b = S k b := ⟨S, rfl, h, fun _ _ _ _ _ => rfl, fun _ _ => rfl⟩
  by_cases e : pl = l.length
  · have e9 : l[pl]? = none := by rw [e]; simp
    rw [if_pos (by rw [h.1, e]; exact nI_le (Nat.le_refl _) (by omega))]
    by_cases hfull : 16 ≤ l.length
    · rw [if_pos (by simp [hfull])]
      unfold f_X6_add_J61
      rw [if_pos rfl, if_neg (by rw [h.1, pu_i16]; exact nI_nlt hfull (by omega))]
      exact same
    · have hno : ((l[pl]?).any (fun a => decide (d a = d p)) || decide (16 ≤ l.length)) = false := by rw [e9]; simp; omega
      rw [if_neg (by rw [hno]; simp)]
      exact ins hno
  · obtain ⟨a, ha⟩ : ∃ a, l[pl]? = some a := ⟨_, List.getElem?_eq_getElem (by omega)⟩
    rw [if_neg (by rw [h.1]; exact nI_ge (by omega) (by omega)), if_neg (by rw [pu_i16]; exact nI_ge (by omega) (by omega)), if_pos (pu_ib (by omega) (by omega)), nI_clamp (by omega), (h.2.2 _ a ha).2]
    by_cases hd : d a = d p
    · rw [if_pos hd, if_pos (by simp [ha, hd])]
      unfold f_X6_add_J61
      rw [if_neg (by decide)]
      exact same
    · rw [if_neg hd]
      by_cases hfull : 16 ≤ l.length
      · rw [if_pos (by simp [hfull])]
        unfold f_X6_add_J61
        rw [if_pos rfl, if_neg (by rw [h.1, pu_i16]; exact nI_nlt hfull (by omega))]
        exact same
      · have hno : ((l[pl]?).any (fun a => decide (d a = d p)) || decide (16 ≤ l.length)) = false := by rw [ha]; simp [hd]; omega
        rw [if_neg (by rw [hno]; simp)]
        exact ins hno
theorem row_at {S : ps_S} {k : Nat} {d : Nat → Int32} {l : List Nat} (h : pu_row S k d l) {i : Nat} (hi : i < 2 ^ 31) : f_X6_at S k (nI i) = some (pu_enc l[i]?) := by
  have h16 := h.2.1
  unfold f_X6_at
  rw [if_neg (nI_pos hi), h.1]
  by_cases e : l.length ≤ i
  · rw [if_pos (nI_le e hi), List.getElem?_eq_none e]; rfl
  · obtain ⟨a, ha⟩ : ∃ a, l[i]? = some a := ⟨_, List.getElem?_eq_getElem (by omega)⟩
    rw [if_neg (nI_ge (by omega) (by omega)), if_neg (by rw [pu_i16]; exact nI_ge (by omega) (by omega)), if_pos (pu_ib (by omega) (by omega)), nI_clamp (by omega), (h.2.2 _ a ha).1, ha]
    rfl
/-- the answer of a lookup, as digits -/
def pu_dig (l : List Nat) : Int32 := ((((((0 * 32 + pu_enc l[2]?) + 1) * 32 + pu_enc l[1]?) + 1) * 32) + pu_enc l[0]?) + 1
theorem row_digits {S : ps_S} {k : Nat} {d : Nat → Int32} {l : List Nat} (h : pu_row S k d l) : f_X6_digits S k = some (pu_dig l) := by
  unfold f_X6_digits
  have h2 := row_at h (i := 2) (by decide)
  have h1 := row_at h (i := 1) (by decide)
  have h0 := row_at h (i := 0) (by decide)
  have e := pu_it0 (step := fun (a : Int32 × Int32) => f_X6_digits_L4 S k a.1 a.2) (b := pu_dig l) (fun t => match t with
    | 0 => (0, 2)
    | 1 => ((0 * 32 + pu_enc l[2]?) + 1, 1)
    | 2 => ((((0 * 32 + pu_enc l[2]?) + 1) * 32 + pu_enc l[1]?) + 1, 0)
    | _ => (pu_dig l, -1)) 3 ?_ ?_ (by decide)
  · have e9 : ps_it (fun (a : Int32 × Int32) => f_X6_digits_L4 S k a.1 a.2) ps_fu (0, 2) = some (pu_dig l) := e
    rw [e9]; rfl
  · intro j hj
    match j, hj with
    | 0, _ =>
      show f_X6_digits_L4 S k 0 2 = _
      unfold f_X6_digits_L4
      rw [if_neg (by decide), show (2 : Int32) = nI 2 from rfl, h2]
      rfl
    | 1, _ =>
      show f_X6_digits_L4 S k _ 1 = _
      unfold f_X6_digits_L4
      rw [if_neg (by decide), show (1 : Int32) = nI 1 from rfl, h1]
      rfl
    | 2, _ =>
      show f_X6_digits_L4 S k _ 0 = _
      unfold f_X6_digits_L4
      rw [if_neg (by decide), show (0 : Int32) = nI 0 from rfl, h0]
      rfl
  · show f_X6_digits_L4 S k (pu_dig l) (-1) = _
    unfold f_X6_digits_L4
    rw [if_pos (by decide)]
