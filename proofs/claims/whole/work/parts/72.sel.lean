/-! loops by an invariant; the least ones of a set, in their order -/
theorem pu_ind {α β : Type} {step : α → Option (α ⊕ β)} (I : Nat → α → Prop) (Q : β → Prop) (m : Nat) (h1 : ∀ j a, j < m → I j a → ∃ a', step a = some (.inl a') ∧ I (j + 1) a') (h2 : ∀ a, I m a → ∃ b, step a = some (.inr b) ∧ Q b) : ∀ (t j : Nat) (a : α), j + t = m → I j a → ∀ fuel, t < fuel → ∃ b, ps_it step fuel a = some b ∧ Q b
  | 0, j, a, hj, hI, fuel, hf => by
    obtain ⟨f, rfl⟩ : ∃ f, fuel = f + 1 := ⟨fuel - 1, by omega⟩
    have hj : j = m := by omega
    rw [hj] at hI
    obtain ⟨b, hb, hq⟩ := h2 a hI
    refine ⟨b, ?_, hq⟩
    show (step a).bind _ = some b
    rw [hb]
    rfl
  | t + 1, j, a, hj, hI, fuel, hf => by
    obtain ⟨f, rfl⟩ : ∃ f, fuel = f + 1 := ⟨fuel - 1, by omega⟩
    obtain ⟨a', ha, hI'⟩ := h1 j a (by omega) hI
    obtain ⟨b, hb, hq⟩ := pu_ind I Q m h1 h2 t (j + 1) a' (by omega) hI' f (by omega)
    refine ⟨b, ?_, hq⟩
    show (step a).bind _ = some b
    rw [ha]
    exact hb
theorem pu_ind0 {α β : Type} {step : α → Option (α ⊕ β)} {a : α} (I : Nat → α → Prop) (Q : β → Prop) (m : Nat) (hm : m < 20000) (h0 : I 0 a) (h1 : ∀ j a, j < m → I j a → ∃ a', step a = some (.inl a') ∧ I (j + 1) a') (h2 : ∀ a, I m a → ∃ b, step a = some (.inr b) ∧ Q b) : ∃ b, ps_it step ps_fu a = some b ∧ Q b :=
  pu_ind I Q m h1 h2 m 0 a (by omega) h0 ps_fu (by unfold ps_fu; omega)
theorem pu_irr (a : Int32) : ¬ a < a := by rw [pu_ilt]; omega
theorem pu_tr {a b c : Int32} (h : a < b) (h2 : b < c) : a < c := by rw [pu_ilt] at *; omega
theorem pu_lt_of {a b : Int32} (h : ¬ a < b) (h2 : a ≠ b) : b < a := by
  rw [pu_ilt] at *
  have : a.toInt ≠ b.toInt := fun e => h2 (Int32.toInt_inj.mp e)
  omega
/-- no more than n numbers below n -/
theorem pu_pig : ∀ (n : Nat) (l : List Nat), l.Nodup → (∀ a ∈ l, a < n) → l.length ≤ n
  | 0, l, _, h => by
    cases l with
    | nil => simp
    | cons a t => exact absurd (h a (by simp)) (by omega)
  | n + 1, l, hn, h => by
    have h1 := pu_pig n (l.erase n) (hn.erase n) (fun a ha => by
      have h2 := (List.Nodup.mem_erase_iff hn).mp ha
      have h3 := h a h2.2
      have h4 := h2.1
      omega)
    have h5 : l.length ≤ (l.erase n).length + 1 := by
      rw [List.length_erase]
      split <;> omega
    omega
/-- l is the set of those below n with q, by rising d -/
def pu_set (d : Nat → Int32) (q : Nat → Bool) (n : Nat) (l : List Nat) : Prop := l.Pairwise (fun a b => d a < d b) ∧ ∀ a, a ∈ l ↔ (a < n ∧ q a = true)
/-- the next m of a set behind last -/
def pu_sel (q : Nat → Bool) (d : Nat → Int32) (n : Nat) : Int32 → Nat → List Nat
  | _, 0 => []
  | last, m + 1 => match pu_min (fun k => q k && decide (last < d k)) d n with
    | none => []
    | some a => a :: pu_sel q d n (d a) m
theorem pu_sel_take {q : Nat → Bool} {d : Nat → Int32} {n : Nat} : ∀ (m : Nat) (last : Int32) (l : List Nat), pu_set d (fun k => q k && decide (last < d k)) n l → l.take m = pu_sel q d n last m
  | 0, _, _, _ => by simp [pu_sel]
  | m + 1, last, [], h => by
    have e : pu_min (fun k => q k && decide (last < d k)) d n = none := pu_min_none.mpr (fun k hk => by
      cases h9 : (q k && decide (last < d k)) with
      | false => rfl
      | true => exact absurd ((h.2 k).mpr ⟨hk, h9⟩) (by simp))
    simp [pu_sel, e]
  | m + 1, last, a :: t, h => by
    have ha := (h.2 a).mp (by simp)
    have hp := List.pairwise_cons.mp h.1
    have e : pu_min (fun k => q k && decide (last < d k)) d n = some a := by
      cases h9 : pu_min (fun k => q k && decide (last < d k)) d n with
      | none =>
        have h8 := pu_min_none.mp h9 a ha.1
        exact absurd ha.2 (by dsimp only; rw [h8]; simp)
      | some r =>
        obtain ⟨r1, r2, r3⟩ := pu_min_some h9
        have hr := (h.2 r).mpr ⟨r1, r2⟩
        rcases List.mem_cons.mp hr with e | e
        · rw [e]
        · have h5 := hp.1 r e
          have h6 := r3 a ha.1 ha.2
          rw [pu_ilt] at h5
          rw [pu_ile] at h6
          omega
    have hs : pu_set d (fun k => q k && decide (d a < d k)) n t := by
      refine ⟨hp.2, fun x => ?_⟩
      have ha2 := ha.2
      simp only [Bool.and_eq_true, decide_eq_true_eq] at ha2
      constructor
      · intro hx
        have h1 := (h.2 x).mp (by simp [hx])
        have h2 := hp.1 x hx
        have h3 := h1.2
        simp only [Bool.and_eq_true, decide_eq_true_eq] at h3
        exact ⟨h1.1, by simp [h3.1, h2]⟩
      · intro hx
        have h3 := hx.2
        simp only [Bool.and_eq_true, decide_eq_true_eq] at h3
        have h4 := (h.2 x).mpr ⟨hx.1, by simp [h3.1, pu_tr ha2.2 h3.2]⟩
        rcases List.mem_cons.mp h4 with e | e
        · rw [e] at h3; exact absurd h3.2 (pu_irr _)
        · exact e
    unfold pu_sel
    rw [e]
    show a :: t.take m = a :: pu_sel q d n (d a) m
    rw [pu_sel_take m (d a) t hs]
theorem pu_set_last {q : Nat → Bool} {d : Nat → Int32} {n : Nat} {last : Int32} {l : List Nat} (hl : ∀ k, k < n → last < d k) (h : pu_set d q n l) : pu_set d (fun k => q k && decide (last < d k)) n l := by
  refine ⟨h.1, fun a => ?_⟩
  rw [h.2 a]
  constructor
  · intro x; exact ⟨x.1, by simp [x.2, hl a x.1]⟩
  · intro x
    have h3 := x.2
    simp only [Bool.and_eq_true] at h3
    exact ⟨x.1, h3.1⟩
theorem pu_set_nil (d : Nat → Int32) (n : Nat) : pu_set d (fun _ => false) n [] := ⟨List.Pairwise.nil, by simp⟩
theorem pu_set_len {q : Nat → Bool} {d : Nat → Int32} {n : Nat} {l : List Nat} (h : pu_set d q n l) : l.length ≤ n := pu_pig n l (h.1.imp (fun {a b} hab => fun e => by rw [e] at hab; exact pu_irr _ hab)) (fun a ha => ((h.2 a).mp ha).1)
theorem pu_set_congr {q q' : Nat → Bool} {d : Nat → Int32} {n : Nat} {l : List Nat} (h : pu_set d q n l) (e : ∀ k, k < n → q k = q' k) : pu_set d q' n l := by
  refine ⟨h.1, fun a => ?_⟩
  rw [h.2 a]
  constructor
  · intro x; exact ⟨x.1, by rw [← e a x.1]; exact x.2⟩
  · intro x; exact ⟨x.1, by rw [e a x.1]; exact x.2⟩
theorem pu_pl_take (f : Nat → Bool) : ∀ (l : List Nat), ∀ a ∈ l.take (pu_pl f l), f a = true
  | [], a, h => by simp at h
  | b :: t, a, h => by
    by_cases hb : f b = true
    · have e : pu_pl f (b :: t) = pu_pl f t + 1 := by simp [pu_pl, hb]
      rw [e] at h
      rcases List.mem_cons.mp h with e | e
      · rw [e]; exact hb
      · exact pu_pl_take f t a e
    · have e : pu_pl f (b :: t) = 0 := by simp [pu_pl, hb]
      rw [e] at h
      simp at h
theorem pu_pl_drop {d : Nat → Int32} {x : Int32} : ∀ (l : List Nat), l.Pairwise (fun a b => d a < d b) → ∀ a ∈ l.drop (pu_pl (fun a => decide (d a < x)) l), ¬ d a < x
  | [], _, a, h => by simp at h
  | b :: t, hp, a, h => by
    have hp := List.pairwise_cons.mp hp
    by_cases hb : d b < x
    · have e : pu_pl (fun a => decide (d a < x)) (b :: t) = pu_pl (fun a => decide (d a < x)) t + 1 := by simp [pu_pl, hb]
      rw [e] at h
      exact pu_pl_drop t hp.2 a h
    · have e : pu_pl (fun a => decide (d a < x)) (b :: t) = 0 := by simp [pu_pl, hb]
      rw [e] at h
      rcases List.mem_cons.mp h with e | e
      · rw [e]; exact hb
      · intro h9
        exact hb (pu_tr (hp.1 a e) h9)
theorem pu_ins_set {d : Nat → Int32} {q : Nat → Bool} {n p : Nat} {l : List Nat} (hi : ∀ a b, a < n → b < n → d a = d b → a = b) (hn : n ≤ 16) (hp : p < n) (h : pu_set d q n l) : pu_set d (fun k => q k || decide (k = p)) n (pu_ins d p l) := by
  have same : p ∈ l → pu_set d (fun k => q k || decide (k = p)) n l := fun hin => pu_set_congr h (fun k hk => by
    by_cases e : k = p
    · rw [e, ((h.2 p).mp hin).2]; simp
    · simp [e])
  unfold pu_ins
  have hT := pu_pl_take (fun a => decide (d a < d p)) l
  have hD := pu_pl_drop (x := d p) l h.1
  generalize hpl : pu_pl (fun a => decide (d a < d p)) l = pl at hT hD ⊢
  have hsplit : l.take pl ++ l.drop pl = l := List.take_append_drop pl l
  by_cases c : ((l[pl]?).any (fun a => decide (d a = d p)) || decide (16 ≤ l.length)) = true
  · rw [if_pos c]
    apply same
    simp only [Bool.or_eq_true, decide_eq_true_eq] at c
    rcases c with c | c
    · cases h9 : l[pl]? with
      | none => rw [h9] at c; simp at c
      | some a =>
        rw [h9] at c
        simp at c
        have hm : a ∈ l := List.mem_of_getElem? h9
        rw [← hi a p ((h.2 a).mp hm).1 hp c]
        exact hm
    · by_cases hin : p ∈ l
      · exact hin
      · exfalso
        have h1 : (p :: l).Nodup := List.nodup_cons.mpr ⟨hin, h.1.imp (fun {a b} hab => fun e => by rw [e] at hab; exact pu_irr _ hab)⟩
        have h2 := pu_pig n (p :: l) h1 (fun a ha => by
          rcases List.mem_cons.mp ha with e | e
          · rw [e]; exact hp
          · exact ((h.2 a).mp e).1)
        simp at h2
        omega
  · rw [if_neg c]
    have hno : ∀ a ∈ l.drop pl, d p < d a := by
      intro a ha
      apply pu_lt_of (hD a ha)
      intro e
      have hal : a ∈ l := List.mem_of_mem_drop ha
      have : a = p := hi a p ((h.2 a).mp hal).1 hp e
      subst this
      apply c
      cases h8 : l.drop pl with
      | nil => rw [h8] at ha; simp at ha
      | cons b t =>
        have h7 : l[pl]? = some b := by
          have := List.getElem?_drop (xs := l) (i := pl) (j := 0)
          rw [h8] at this
          simpa using this.symm
        have hpw : (l.drop pl).Pairwise (fun a b => d a < d b) := h.1.sublist (List.drop_sublist pl l)
        rw [h8] at hpw ha
        have hpw := List.pairwise_cons.mp hpw
        rcases List.mem_cons.mp ha with e | e
        · simp [h7, e]
        · exfalso
          exact hD b (by rw [h8]; simp) (hpw.1 a e)
    refine ⟨?_, fun a => ?_⟩
    · rw [List.pairwise_append]
      refine ⟨h.1.sublist (List.take_sublist pl l), List.pairwise_cons.mpr ⟨hno, h.1.sublist (List.drop_sublist pl l)⟩, fun a ha b hb => ?_⟩
      have h1 : d a < d p := by have := hT a ha; simpa using this
      rcases List.mem_cons.mp hb with e | e
      · rw [e]; exact h1
      · exact pu_tr h1 (hno b e)
    · have hm : a ∈ l ↔ a ∈ l.take pl ∨ a ∈ l.drop pl := by
        rw [← List.mem_append, hsplit]
      rw [List.mem_append, List.mem_cons]
      constructor
      · intro hx
        by_cases e : a = p
        · subst e; exact ⟨hp, by simp⟩
        · have : a ∈ l := hm.mpr (by rcases hx with x | x | x; exact Or.inl x; exact absurd x e; exact Or.inr x)
          have := (h.2 a).mp this
          exact ⟨this.1, by simp [this.2]⟩
      · intro hx
        by_cases e : a = p
        · exact Or.inr (Or.inl e)
        · have h2 := hx.2
          simp [e] at h2
          rcases hm.mp ((h.2 a).mpr ⟨hx.1, h2⟩) with x | x
          · exact Or.inl x
          · exact Or.inr (Or.inr x)
/-- a row: its set -/
def pu_rs (S : ps_S) (k : Nat) (d : Nat → Int32) (q : Nat → Bool) (n : Nat) : Prop := ∃ l, pu_row S k d l ∧ pu_set d q n l
theorem rs_put {S : ps_S} {k p n : Nat} {d : Nat → Int32} {q : Nat → Bool} (h : pu_rs S k d q n) (hi : ∀ a b, a < n → b < n → d a = d b → a = b) (hn : n ≤ 16) (hp : p < n) : ∃ S', f_X6_add S k (nI p) (d p) = some S' ∧ pu_rs S' k d (fun x => q x || decide (x = p)) n ∧ (∀ a b, a ≠ k → a ≠ k + 1 → a ≠ k + 2 → S' a b = S a b) ∧ ∀ b, b ≠ 2 → S' k b = S k b := by
  obtain ⟨l, h1, h2⟩ := h
  obtain ⟨S', e, r, f1, f2⟩ := row_add h1 p
  exact ⟨S', e, ⟨_, r, pu_ins_set hi hn hp h2⟩, f1, f2⟩
theorem rs_at {S : ps_S} {k n : Nat} {d : Nat → Int32} {q : Nat → Bool} (h : pu_rs S k d q n) (hl : ∀ k, k < n → -1 < d k) {i m : Nat} (hi : i < m) (hm : m < 2 ^ 31) : f_X6_at S k (nI i) = some (pu_enc (pu_sel q d n (-1) m)[i]?) := by
  obtain ⟨l, h1, h2⟩ := h
  rw [row_at h1 (by omega), ← pu_sel_take m (-1) l (pu_set_last hl h2), List.getElem?_take_of_lt hi]
theorem rs_digits {S : ps_S} {k n : Nat} {d : Nat → Int32} {q : Nat → Bool} (h : pu_rs S k d q n) (hl : ∀ k, k < n → -1 < d k) : f_X6_digits S k = some (pu_dig (pu_sel q d n (-1) 3)) := by
  obtain ⟨l, h1, h2⟩ := h
  rw [row_digits h1, ← pu_sel_take 3 (-1) l (pu_set_last hl h2)]
  simp [pu_dig]
theorem rs_keep {S S' : ps_S} {k n : Nat} {d : Nat → Int32} {q : Nat → Bool} (h : pu_rs S k d q n) (e : S' k 2 = S k 2) (e1 : ∀ b, S' (k + 1) b = S (k + 1) b) (e2 : ∀ b, S' (k + 2) b = S (k + 2) b) : pu_rs S' k d q n := by
  obtain ⟨l, h1, h2⟩ := h
  exact ⟨l, ⟨by rw [e]; exact h1.1, h1.2.1, fun i a ha => by rw [e1, e2]; exact h1.2.2 i a ha⟩, h2⟩
theorem rs_clear {S' : ps_S} {k : Nat} (d : Nat → Int32) (n : Nat) (e : S' k 2 = 0) : pu_rs S' k d (fun _ => false) n := ⟨[], ⟨by rw [e]; rfl, by simp, by simp⟩, pu_set_nil d n⟩
