/-! THE PURE SIDE. Helpers: loops by their states, int conditions, lists of peers in order of distance -/
theorem pu_it {α β : Type} {step : α → Option (α ⊕ β)} {b : β} (inv : Nat → α) : ∀ (m i : Nat), (∀ j, i ≤ j → j < i + m → step (inv j) = some (.inl (inv (j + 1)))) → step (inv (i + m)) = some (.inr b) → ∀ fuel, m < fuel → ps_it step fuel (inv i) = some b
  | 0, i, _, h2, fuel, hf => by
    obtain ⟨f, rfl⟩ : ∃ f, fuel = f + 1 := ⟨fuel - 1, by omega⟩
    show (step (inv i)).bind _ = some b
    have h2 : step (inv i) = some (.inr b) := h2
    rw [h2]
    rfl
  | m + 1, i, h1, h2, fuel, hf => by
    obtain ⟨f, rfl⟩ : ∃ f, fuel = f + 1 := ⟨fuel - 1, by omega⟩
    show (step (inv i)).bind _ = some b
    rw [h1 i (Nat.le_refl i) (by omega)]
    show ps_it step f (inv (i + 1)) = some b
    exact pu_it inv m (i + 1) (fun j a c => h1 j (by omega) (by omega)) (by rw [show i + 1 + m = i + (m + 1) by omega]; exact h2) f (by omega)
theorem pu_it0 {α β : Type} {step : α → Option (α ⊕ β)} {b : β} (inv : Nat → α) (m : Nat) (h1 : ∀ j, j < m → step (inv j) = some (.inl (inv (j + 1)))) (h2 : step (inv m) = some (.inr b)) (hm : m < 20000) : ps_it step ps_fu (inv 0) = some b :=
  pu_it inv m 0 (fun j _ h => h1 j (by omega)) (by rw [Nat.zero_add]; exact h2) ps_fu (by unfold ps_fu; omega)
theorem pu_ib {i n : Nat} (h : i < n) (hn : n < 2 ^ 31) : ps_ib (nI i) n = true := decide_eq_true (nI_in h hn)
theorem pu_b {α β : Type} {x : Option α} {a : α} (h : x = some a) (f : α → Option β) : x.bind f = f a := by rw [h]; rfl
theorem pu_b2 {A B Z : Type} {x : Option (A × B)} {a : A} {b : B} (h : x = some (a, b)) (f : A → B → Option Z) : ps_b2 x f = f a b := by rw [h]; rfl
theorem pu_b3 {A B C Z : Type} {x : Option (A × B × C)} {a : A} {b : B} {c : C} (h : x = some (a, b, c)) (f : A → B → C → Option Z) : ps_b3 x f = f a b c := by rw [h]; rfl
theorem pu_up (S : ps_S) (k i : Nat) (v : Int32) (a b : Nat) : ps_up S k i v a b = if a = k ∧ b = i then v else S a b := rfl
theorem pu_up_same (S : ps_S) (k i : Nat) (v : Int32) : ps_up S k i v k i = v := by simp [ps_up]
theorem pu_up_k {S : ps_S} {k i : Nat} {v : Int32} {a b : Nat} (h : a ≠ k) : ps_up S k i v a b = S a b := by simp [ps_up, h]
theorem pu_up_i {S : ps_S} {k i : Nat} {v : Int32} {a b : Nat} (h : b ≠ i) : ps_up S k i v a b = S a b := by simp [ps_up, h]
theorem pu_nb0 : vp_nar .boolean 0 = 0 := rfl
theorem pu_nb1 : vp_nar .boolean 1 = 1 := rfl
/-- an int in a range is the int of a number -/
theorem pu_nat {x : Int32} {n : Nat} (hn : n < 2 ^ 31) (h0 : ¬ x < 0) (h1 : x < nI n) : ∃ k, k < n ∧ x = nI k := by
  obtain ⟨j, hj, rfl⟩ := nI_of h0
  exact ⟨j, (nI_ltI hj hn).mp h1, rfl⟩
theorem pu_inj {a b : Nat} (ha : a < 2 ^ 31) (hb : b < 2 ^ 31) (h : nI a = nI b) : a = b := (nI_eq ha hb).mp h
theorem pu_ne1 {k : Nat} (h : k < 2 ^ 31) : ¬ nI k = -1 := by
  intro e
  have h1 := nI_toInt h
  rw [e] at h1
  have h2 : ((-1 : Int32)).toInt = -1 := by decide
  rw [h2] at h1
  omega
/-- none as -1 -/
def pu_enc : Option Nat → Int32
  | none => -1
  | some k => nI k
/-- the one of the first n with q whose distance is least, the first of such -/
def pu_min (q : Nat → Bool) (d : Nat → Int32) : Nat → Option Nat
  | 0 => none
  | n + 1 => match pu_min q d n with
    | none => if q n then some n else none
    | some r => if q n && decide (d n < d r) then some n else some r
theorem pu_ilt {a b : Int32} : a < b ↔ a.toInt < b.toInt := Int32.lt_iff_toInt_lt
theorem pu_ile {a b : Int32} : a ≤ b ↔ a.toInt ≤ b.toInt := Int32.le_iff_toInt_le
theorem pu_min_none {q : Nat → Bool} {d : Nat → Int32} : ∀ {n : Nat}, pu_min q d n = none ↔ ∀ k, k < n → q k = false
  | 0 => by simp [pu_min]
  | n + 1 => by
    have ih := pu_min_none (q := q) (d := d) (n := n)
    unfold pu_min
    cases h : pu_min q d n with
    | none =>
      rw [h] at ih
      have ih := ih.mp rfl
      constructor
      · intro h2 k hk
        by_cases e : k = n
        · subst e
          cases hq : q k with
          | false => rfl
          | true => simp [hq] at h2
        · exact ih k (by omega)
      · intro h2
        simp [h2 n (by omega)]
    | some r =>
      constructor
      · intro h2
        exfalso
        revert h2
        dsimp only
        split <;> simp
      · intro h2
        exfalso
        have : pu_min q d n = none := pu_min_none.mpr (fun k hk => h2 k (by omega))
        rw [h] at this
        cases this
theorem pu_min_some {q : Nat → Bool} {d : Nat → Int32} : ∀ {n r : Nat}, pu_min q d n = some r → r < n ∧ q r = true ∧ ∀ k, k < n → q k = true → d r ≤ d k
  | 0, r, h => by cases h
  | n + 1, r, h => by
    unfold pu_min at h
    cases h9 : pu_min q d n with
    | none =>
      rw [h9] at h
      have h1 := pu_min_none.mp h9
      dsimp only at h
      by_cases hq : q n = true
      · rw [if_pos hq] at h
        cases h
        refine ⟨by omega, hq, fun k hk hk2 => ?_⟩
        by_cases e : k = n
        · subst e; exact Int32.le_refl _
        · rw [h1 k (by omega)] at hk2; cases hk2
      · rw [if_neg hq] at h; cases h
    | some r0 =>
      rw [h9] at h
      obtain ⟨a1, a2, a3⟩ := pu_min_some h9
      dsimp only at h
      by_cases hc : (q n && decide (d n < d r0)) = true
      · rw [if_pos hc] at h
        cases h
        simp only [Bool.and_eq_true, decide_eq_true_eq] at hc
        refine ⟨by omega, hc.1, fun k hk hk2 => ?_⟩
        by_cases e : k = n
        · subst e; exact Int32.le_refl _
        · have h3 := a3 k (by omega) hk2
          have h4 := hc.2
          rw [pu_ilt] at h4
          rw [pu_ile] at h3 ⊢
          omega
      · rw [if_neg hc] at h
        cases h
        refine ⟨by omega, a2, fun k hk hk2 => ?_⟩
        by_cases e : k = n
        · subst e
          have h4 : ¬ d k < d r := fun h => hc (by simp [hk2, h])
          rw [pu_ilt] at h4
          rw [pu_ile]
          omega
        · exact a3 k (by omega) hk2
theorem pu_m1 (x : Int32) : x + (-1) = x - 1 := (Int32.sub_eq_add_neg x 1).symm
theorem pu_dec (n : Nat) : nI (n + 1) + (-1) = nI n := by rw [pu_m1]; exact nI_pred n
