/-! a lookup, as it is meant; and the class's lookup does so -/
theorem pu_indx0 {α β : Type} {step : α → Option (α ⊕ β)} {a : α} (I : Nat → α → Prop) (Q : β → Prop) (m : Nat) (hm : m < 20000) (h0 : I 0 a) (h1 : ∀ j a, j < m → I j a → (∃ a', step a = some (.inl a') ∧ I (j + 1) a') ∨ ∃ b, step a = some (.inr b) ∧ Q b) (h2 : ∀ a, I m a → ∃ b, step a = some (.inr b) ∧ Q b) : ∃ b, ps_it step ps_fu a = some b ∧ Q b := by
  have main : ∀ (t j : Nat) (a : α), j + t = m → I j a → ∀ fuel, t < fuel → ∃ b, ps_it step fuel a = some b ∧ Q b := by
    intro t
    induction t with
    | zero =>
      intro j a hj hI fuel hf
      obtain ⟨f, rfl⟩ : ∃ f, fuel = f + 1 := ⟨fuel - 1, by omega⟩
      have hj : j = m := by omega
      rw [hj] at hI
      obtain ⟨b, hb, hq⟩ := h2 a hI
      refine ⟨b, ?_, hq⟩
      show (step a).bind _ = some b
      rw [hb]
      rfl
    | succ t ih =>
      intro j a hj hI fuel hf
      obtain ⟨f, rfl⟩ : ∃ f, fuel = f + 1 := ⟨fuel - 1, by omega⟩
      rcases h1 j a (by omega) hI with ⟨a', ha, hI'⟩ | ⟨b, hb, hq⟩
      · obtain ⟨b, hb, hq⟩ := ih (j + 1) a' (by omega) hI' f (by omega)
        refine ⟨b, ?_, hq⟩
        show (step a).bind _ = some b
        rw [ha]
        exact hb
      · refine ⟨b, ?_, hq⟩
        show (step a).bind _ = some b
        rw [hb]
        rfl
  exact main m 0 a (by omega) h0 ps_fu (by unfold ps_fu; omega)
abbrev pu_L : Type := (Nat → Nat → List Nat) × (Nat → Bool) × (Nat → Bool) × (Nat → Nat → Bool) × Nat
section
variable (np : Nat) (id so on : Nat → Int32) (key me : Nat)
def lk_k2 (s : pu_L) (o : Nat) : Nat → Nat → List Nat := pu_hear id on (pu_hear id on s.1 o me) me o
def lk_told (s : pu_L) (o : Nat) : List Nat := pu_sel (fun k => pu_keeps (lk_k2 id on me s o) o k && (decide (so o ≠ 2) || decide (so k = 2))) (fun x => id x ^^^ nI key) np (-1) 3
def lk_ask (y o : Nat) (s : pu_L) : pu_L :=
  if on o = 0 ∨ so o = 1 then (s.1, fun x => s.2.1 x || decide (x = o), s.2.2.1, s.2.2.2.1, s.2.2.2.2 + 1)
  else (lk_k2 id on me s o, fun x => s.2.1 x || decide (x = o), fun x => s.2.2.1 x || decide (x = o), fun v x => s.2.2.2.1 v x || (decide (v = y) && ((List.range 3).any (fun i => decide ((lk_told np id so on key me s o)[i]? = some x)) && decide (x ≠ me))), s.2.2.2.2 + 1)
def lk_open (y : Nat) (s : pu_L) : List Nat := (pu_sel (s.2.2.2.1 y) (fun x => id x ^^^ nI key) np (-1) 3).filter (fun x => !s.2.1 x)
def lk_along (y : Nat) (s : pu_L) : pu_L := match lk_open np id key y s with
  | [] => s
  | [a] => lk_ask np id so on key me y a s
  | a :: b :: _ => lk_ask np id so on key me y b (lk_ask np id so on key me y a s)
def lk_round (s : pu_L) : pu_L := lk_along np id so on key me 1 (lk_along np id so on key me 0 s)
def lk_rounds : Nat → pu_L → pu_L
  | 0, s => s
  | f + 1, s => if (lk_round np id so on key me s).2.2.2.2 = s.2.2.2.2 then lk_round np id so on key me s else lk_rounds f (lk_round np id so on key me s)
def lk_L0 (kp : Nat → Nat → List Nat) : List Nat := pu_sel (pu_keeps kp me) (fun x => id x ^^^ nI key) np (-1) 16
def lk_begin (kp : Nat → Nat → List Nat) (ways : Nat) : pu_L := (kp, fun _ => false, fun _ => false, fun y x => (List.range 16).any (fun i => decide ((lk_L0 np id key me kp)[i]? = some x) && decide (y = if ways = 2 then i % 2 else 0)), 0)
def lk_run (kp : Nat → Nat → List Nat) (ways : Nat) : pu_L := lk_rounds np id so on key me 17 (lk_begin np id key me kp ways)
def lk_I (s : pu_L) : Prop := pu_AW np id on s.1 ∧ (∀ y x, x < np → s.2.2.2.1 y x = true → x ≠ me) ∧ ∃ l : List Nat, l.Nodup ∧ (∀ a ∈ l, a < np ∧ s.2.1 a = true) ∧ l.length = s.2.2.2.2
end
section
variable {np : Nat} {id so on : Nat → Int32} {key me : Nat} {s : pu_L} {S : ps_S}
theorem sel_mem {q : Nat → Bool} {d : Nat → Int32} {n x : Nat} : ∀ {m : Nat} {last : Int32}, x ∈ pu_sel q d n last m → x < n ∧ q x = true ∧ last < d x
  | 0, _, h => by simp [pu_sel] at h
  | m + 1, last, h => by
    unfold pu_sel at h
    cases h9 : pu_min (fun k => q k && decide (last < d k)) d n with
    | none => rw [h9] at h; simp at h
    | some a =>
      rw [h9] at h
      obtain ⟨a1, a2, a3⟩ := pu_min_some h9
      simp only [Bool.and_eq_true, decide_eq_true_eq] at a2
      rcases List.mem_cons.mp h with e | e
      · rw [e]; exact ⟨a1, a2⟩
      · obtain ⟨b1, b2, b3⟩ := sel_mem e
        exact ⟨b1, b2, pu_tr a2.2 b3⟩
theorem sel_pw {q : Nat → Bool} {d : Nat → Int32} {n : Nat} : ∀ {m : Nat} {last : Int32}, (pu_sel q d n last m).Pairwise (fun a b => d a < d b)
  | 0, _ => List.Pairwise.nil
  | m + 1, last => by
    unfold pu_sel
    cases h9 : pu_min (fun k => q k && decide (last < d k)) d n with
    | none => exact List.Pairwise.nil
    | some a => exact List.pairwise_cons.mpr ⟨fun b hb => (sel_mem hb).2.2, sel_pw⟩
theorem sel_len {q : Nat → Bool} {d : Nat → Int32} {n : Nat} : ∀ {m : Nat} {last : Int32}, (pu_sel q d n last m).length ≤ m
  | 0, _ => Nat.le_refl _
  | m + 1, last => by
    unfold pu_sel
    cases h9 : pu_min (fun k => q k && decide (last < d k)) d n with
    | none => simp
    | some a => have := sel_len (q := q) (d := d) (n := n) (m := m) (last := d a); simp; omega
theorem open_mem {y x : Nat} (h : x ∈ lk_open np id key y s) : x < np ∧ s.2.2.2.1 y x = true ∧ s.2.1 x = false := by
  obtain ⟨h1, h2⟩ := List.mem_filter.mp h
  obtain ⟨a, b, -⟩ := sel_mem h1
  exact ⟨a, b, by simpa using h2⟩
theorem open_two {y a b : Nat} {t : List Nat} (h : lk_open np id key y s = a :: b :: t) : a ≠ b := by
  have hp : (lk_open np id key y s).Pairwise (fun a b => id a ^^^ nI key < id b ^^^ nI key) := sel_pw.sublist List.filter_sublist
  rw [h] at hp
  have := (List.pairwise_cons.mp hp).1 b (by simp)
  intro e
  rw [e] at this
  exact pu_irr _ this
theorem k2_aw (w : pu_AW np id on s.1) {o : Nat} (hm : me < np) (ho : o < np) (hom : o ≠ me) : pu_AW np id on (lk_k2 id on me s o) := aw_hear (aw_hear w ho hm hom) hm ho (fun e => hom e.symm)
theorem ask_I (h : lk_I np id on me s) {y o : Nat} (hm : me < np) (ho : o < np) (hom : o ≠ me) (hn : s.2.1 o = false) : lk_I np id on me (lk_ask np id so on key me y o s) ∧ (lk_ask np id so on key me y o s).2.2.2.2 = s.2.2.2.2 + 1 ∧ (lk_ask np id so on key me y o s).2.1 = fun x => s.2.1 x || decide (x = o) := by
  obtain ⟨w, hw, l, l1, l2, l3⟩ := h
  have hl : ∃ l : List Nat, l.Nodup ∧ (∀ a ∈ l, a < np ∧ (s.2.1 a || decide (a = o)) = true) ∧ l.length = s.2.2.2.2 + 1 := by
    refine ⟨o :: l, List.nodup_cons.mpr ⟨fun hin => ?_, l1⟩, fun a ha => ?_, by simp [l3]⟩
    · have := (l2 o hin).2
      rw [hn] at this
      cases this
    · rcases List.mem_cons.mp ha with e | e
      · rw [e]; exact ⟨ho, by simp⟩
      · exact ⟨(l2 a e).1, by simp [(l2 a e).2]⟩
  unfold lk_ask
  by_cases c : on o = 0 ∨ so o = 1
  · rw [if_pos c]
    exact ⟨⟨w, hw, hl⟩, rfl, rfl⟩
  · rw [if_neg c]
    refine ⟨⟨k2_aw w hm ho hom, fun v x hx hv => ?_, hl⟩, rfl, rfl⟩
    dsimp only at hv
    simp only [Bool.or_eq_true, Bool.and_eq_true, decide_eq_true_eq] at hv
    rcases hv with e | e
    · exact hw v x hx e
    · exact e.2.2
theorem along_I (h : lk_I np id on me s) (y : Nat) (hm : me < np) : lk_I np id on me (lk_along np id so on key me y s) ∧ (lk_along np id so on key me y s).2.2.2.2 = s.2.2.2.2 + ((lk_open np id key y s).take 2).length := by
  unfold lk_along
  cases h9 : lk_open np id key y s with
  | nil => exact ⟨h, by simp⟩
  | cons a t =>
    obtain ⟨a1, a2, a3⟩ := open_mem (x := a) (by rw [h9]; simp)
    have ha := h.2.1 y a a1 a2
    obtain ⟨i1, i2, i3⟩ := ask_I (so := so) (key := key) (y := y) h hm a1 ha a3
    cases t with
    | nil => exact ⟨i1, by simp [i2]⟩
    | cons b t =>
      obtain ⟨b1, b2, b3⟩ := open_mem (x := b) (by rw [h9]; simp)
      have hb := h.2.1 y b b1 b2
      have hab := open_two h9
      have hb3 : (lk_ask np id so on key me y a s).2.1 b = false := by rw [i3]; simp [b3]; exact fun e => hab e.symm
      obtain ⟨j1, j2, j3⟩ := ask_I (so := so) (key := key) (y := y) i1 hm b1 hb hb3
      exact ⟨j1, by simp [j2, i2]⟩
theorem I_16 (h : lk_I np id on me s) : s.2.2.2.2 ≤ 16 := by
  obtain ⟨w, -, l, l1, l2, l3⟩ := h
  have := pu_pig np l l1 (fun a ha => (l2 a ha).1)
  have := w.1
  omega
theorem round_I (h : lk_I np id on me s) (hm : me < np) : lk_I np id on me (lk_round np id so on key me s) ∧ s.2.2.2.2 ≤ (lk_round np id so on key me s).2.2.2.2 := by
  obtain ⟨i1, i2⟩ := along_I (so := so) (key := key) h 0 hm
  obtain ⟨j1, j2⟩ := along_I (so := so) (key := key) i1 1 hm
  exact ⟨j1, by unfold lk_round; omega⟩
theorem begin_I {kp : Nat → Nat → List Nat} (w : pu_AW np id on kp) (hm : me < np) (ways : Nat) : lk_I np id on me (lk_begin np id key me kp ways) := by
  refine ⟨w, fun y x hx h => ?_, [], by simp, by simp, rfl⟩
  unfold lk_begin at h
  simp only [List.any_eq_true, Bool.and_eq_true, decide_eq_true_eq] at h
  obtain ⟨i, -, h1, -⟩ := h
  obtain ⟨-, h2, -⟩ := sel_mem (List.mem_of_getElem? h1)
  unfold pu_keeps at h2
  simp only [List.any_eq_true, List.mem_range, decide_eq_true_eq] at h2
  obtain ⟨b, hb, h3⟩ := h2
  exact ((w.2.2.2.2 me hm b hb).2 x h3).2
/-- the class's lookup under way -/
def lk_C (np : Nat) (id so on : Nat → Int32) (key : Nat) (s : pu_L) (S : ps_S) : Prop := pu_CP np id so on s.1 S ∧ pu_rs S 23 (fun x => id x ^^^ nI key) (s.2.2.2.1 0) np ∧ pu_rs S 26 (fun x => id x ^^^ nI key) (s.2.2.2.1 1) np ∧ pu_rs S 29 (fun x => id x ^^^ nI key) s.2.2.1 np ∧ (∀ x, x < np → S 35 x = if s.2.1 x = true then 1 else 0) ∧ S 22 6 = nI s.2.2.2.2
def lk_F (S S' : ps_S) : Prop := ∀ a b, (a < 6 ∨ 36 ≤ a) → S' a b = S a b
theorem lk_Ft {S S' S'' : ps_S} (h : lk_F S S') (h2 : lk_F S' S'') : lk_F S S'' := fun a b hab => (h2 a b hab).trans (h a b hab)
theorem lc_dist {kp : Nat → Nat → List Nat} (h : pu_CP np id so on kp S) (hn : np ≤ 16) {p : Nat} (hp : p < np) (x : Int32) : f_X5_distance S (nI p) x = some (id p ^^^ x) := by
  unfold f_X5_distance
  rw [if_neg (nI_pos (by omega)), h.1, if_neg (nI_ge hp (by omega)), if_neg (by rw [pu_i16]; exact nI_ge (by omega) (by omega)), if_pos (pu_ib (by omega) (by omega)), nI_clamp (by omega), (h.2 p hp).1]
theorem lc_incl {kp : Nat → Nat → List Nat} {q : Nat → Bool} {k : Nat} (h : pu_CP np id so on kp S) (w : pu_AW np id on kp) (hr : pu_rs S k (fun x => id x ^^^ nI key) q np) {p : Nat} (hp : p < np) : ∃ S', f_X7_include S k (nI p) (nI key) = some S' ∧ pu_rs S' k (fun x => id x ^^^ nI key) (fun x => q x || decide (x = p)) np ∧ ∀ a b, a ≠ k → a ≠ k + 1 → a ≠ k + 2 → S' a b = S a b := by
  have hn := w.1
  obtain ⟨S', e, r, f, -⟩ := rs_put hr (aw_di w (nI key)) hn hp
  refine ⟨S', ?_, r, f⟩
  unfold f_X7_include
  rw [if_neg (pu_ne1 (by omega)), lc_dist h hn hp, pu_sb]
  have e : f_X6_add S k (nI p) (id p ^^^ nI key) = some S' := e
  rw [e]
  rfl
theorem lc_incl0 {k : Nat} : f_X7_include S k (-1) (nI key) = some S := by
  unfold f_X7_include
  rw [if_pos rfl]
theorem cp_answers {kp : Nat → Nat → List Nat} (h : pu_CP np id so on kp S) (hn : np ≤ 16) {p : Nat} (hp : p < np) : f_X5_answers S (nI p) = some (if on p = 0 ∨ so p = 1 then 0 else 1) := by
  unfold f_X5_answers
  rw [cp_has h.1 hn hp, pu_sb, if_neg (by decide), if_pos (pu_ib (by omega) (by omega)), nI_clamp (by omega), (h.2 p hp).2.2.1]
  by_cases c : on p = 0
  · rw [if_pos c, if_pos (Or.inl c)]
  · rw [if_neg c, if_pos (pu_ib (by omega) (by omega)), (h.2 p hp).2.1]
    by_cases c2 : so p = 1
    · rw [if_pos c2, if_pos (Or.inr c2)]
    · rw [if_neg c2, if_neg (fun e => e.elim c c2)]
theorem cp_band {kp : Nat → Nat → List Nat} (h : pu_CP np id so on kp S) (hn : np ≤ 16) {p : Nat} (hp : p < np) : f_X5_isOfBand S (nI p) = some (if so p = 2 then 1 else 0) := by
  unfold f_X5_isOfBand
  rw [cp_has h.1 hn hp, pu_sb, if_neg (by decide), if_pos (pu_ib (by omega) (by omega)), nI_clamp (by omega), (h.2 p hp).2.1]
  split <;> rfl
theorem lc_ask0 (hn : np ≤ 16) (h : S 1 4 = nI np) {k : Nat} {a b : Int32} : f_X7_ask S (-1) k a b = some S := by
  unfold f_X7_ask
  rw [cp_hasno h hn (pu_m1no hn), pu_sb, if_pos rfl]
theorem lc_ask (C : lk_C np id so on key s S) (w : pu_AW np id on s.1) (hm : me < np) (hk : key < 256) {y o : Nat} (hy : y < 2) (ho : o < np) (hom : o ≠ me) : ∃ S', f_X7_ask S (nI o) (23 + 3 * y) (nI me) (nI key) = some S' ∧ lk_C np id so on key (lk_ask np id so on key me y o s) S' ∧ lk_F S S' := by
  have hn := w.1
  obtain ⟨c1, c2, c3, c4, c5, c6⟩ := C
  unfold f_X7_ask
  rw [cp_has c1.1 hn ho, pu_sb, if_neg (by decide), if_pos (pu_ib (by omega) (by omega)), nI_clamp (by omega), pu_nb1, pu_up_k (by decide), c6, nI_1]
  obtain ⟨S1, hS1⟩ : ∃ S1, S1 = ps_up (ps_up S 35 o 1) 22 6 (nI (s.2.2.2.2 + 1)) := ⟨_, rfl⟩
  have u : ∀ a b, a ≠ 35 → a ≠ 22 → S1 a b = S a b := fun a b h1 h2 => by rw [hS1, pu_up_k h2, pu_up_k h1]
  rw [← hS1]
  have d1 : pu_CP np id so on s.1 S1 := cp_congr c1 hn (fun a c ha => u a c (by omega) (by omega))
  have d2 := rs_keep c2 (u 23 2 (by omega) (by omega)) (fun b => u _ b (by omega) (by omega)) (fun b => u _ b (by omega) (by omega))
  have d3 := rs_keep c3 (u 26 2 (by omega) (by omega)) (fun b => u _ b (by omega) (by omega)) (fun b => u _ b (by omega) (by omega))
  have d4 := rs_keep c4 (u 29 2 (by omega) (by omega)) (fun b => u _ b (by omega) (by omega)) (fun b => u _ b (by omega) (by omega))
  have d5 : ∀ x, x < np → S1 35 x = if (s.2.1 x || decide (x = o)) = true then 1 else 0 := by
    intro x hx
    rw [hS1, pu_up_k (by decide)]
    by_cases e : x = o
    · subst e; rw [pu_up_same]; simp
    · rw [pu_up_i e, c5 x hx]; simp [e]
  have d6 : S1 22 6 = nI (s.2.2.2.2 + 1) := by rw [hS1, pu_up_same]
  have dF : lk_F S S1 := fun a b hab => u a b (by omega) (by omega)
  rw [cp_answers d1 hn ho, pu_sb]
  unfold lk_ask
  by_cases c : on o = 0 ∨ so o = 1
  · rw [if_pos c, if_pos c, if_pos rfl]
    exact ⟨S1, rfl, ⟨d1, d2, d3, d4, d5, d6⟩, dF⟩
  · rw [if_neg c, if_neg c, if_neg (by decide)]
    obtain ⟨S2, e2, a1, f2⟩ := cp_hear d1 w ho hm hom
    obtain ⟨S3, e3, b1, f3⟩ := cp_hear a1 (aw_hear w ho hm hom) hm ho (fun e => hom e.symm)
    rw [e2, pu_sb, e3, pu_sb]
    have f13 : ∀ a b, 22 ≤ a → S3 a b = S1 a b := fun a b ha => by rw [f3 a b (by omega), f2 a b (by omega)]
    have b4 := rs_keep d4 (f13 29 2 (by omega)) (fun b => f13 _ b (by omega)) (fun b => f13 _ b (by omega))
    obtain ⟨S4, e4, r4, f4⟩ := lc_incl b1 (aw_hear (aw_hear w ho hm hom) hm ho (fun e => hom e.symm)) b4 ho
    rw [e4, pu_sb]
    have w2 := k2_aw w hm ho hom
    have g1 : pu_CP np id so on (lk_k2 id on me s o) S4 := cp_congr b1 hn (fun a c ha => f4 a c (by omega) (by omega) (by omega))
    rw [cp_band g1 hn ho, pu_sb]
    obtain ⟨S5, e5, r5, f5, -⟩ := cp_gather g1 w2 (nI key) ho (if so o = 2 then 1 else 0) (k4 := 32) (by omega)
    rw [e5, pu_sb]
    have r5 : pu_rs S5 32 (fun x => id x ^^^ nI key) (fun k => pu_keeps (lk_k2 id on me s o) o k && (decide (so o ≠ 2) || decide (so k = 2))) np := rs_congr r5 (fun k hk => by
      by_cases e : so o = 2
      · simp [e]
      · simp [e])
    have h1 : pu_CP np id so on (lk_k2 id on me s o) S5 := cp_congr g1 hn (fun a c ha => f5 a c (by omega) (by omega) (by omega))
    have f15 : ∀ a b, 22 ≤ a → a ≠ 29 → a ≠ 30 → a ≠ 31 → a ≠ 32 → a ≠ 33 → a ≠ 34 → S5 a b = S1 a b := fun a b h0 h1 h2 h3 h4 h5 h6 => by rw [f5 a b h4 h5 h6, f4 a b h1 h2 h3, f13 a b h0]
    have hat : ∀ i, i < 3 → f_X6_at S5 32 (nI i) = some (pu_enc (lk_told np id so on key me s o)[i]?) := fun i hi => rs_at r5 (aw_dp w2 hk) hi (by omega)
    have way : ∀ v, v < 2 → pu_rs S5 (23 + 3 * v) (fun x => id x ^^^ nI key) (s.2.2.2.1 v) np := by
      intro v hv
      rcases (show v = 0 ∨ v = 1 by omega) with e | e
      · subst e; exact rs_keep d2 (f15 23 2 (by omega) (by omega) (by omega) (by omega) (by omega) (by omega) (by omega)) (fun b => f15 _ b (by omega) (by omega) (by omega) (by omega) (by omega) (by omega) (by omega)) (fun b => f15 _ b (by omega) (by omega) (by omega) (by omega) (by omega) (by omega) (by omega))
      · subst e; exact rs_keep d3 (f15 26 2 (by omega) (by omega) (by omega) (by omega) (by omega) (by omega) (by omega)) (fun b => f15 _ b (by omega) (by omega) (by omega) (by omega) (by omega) (by omega) (by omega)) (fun b => f15 _ b (by omega) (by omega) (by omega) (by omega) (by omega) (by omega) (by omega))
    have fr : ∀ a b, a ≠ 32 → a ≠ 33 → a ≠ 34 → a ≠ 29 → a ≠ 30 → a ≠ 31 → 22 ≤ a → S5 a b = S1 a b := fun a b h4 h5 h6 h1 h2 h3 h0 => f15 a b h0 h1 h2 h3 h4 h5 h6
    have loop := pu_ind0 (step := fun (a : ps_S × Int32) => f_X7_ask_L95 (23 + 3 * y) (nI me) (nI key) a.1 a.2) (a := (S5, 0))
      (fun j a => a.2 = nI j ∧ pu_rs a.1 (23 + 3 * y) (fun x => id x ^^^ nI key) (fun x => s.2.2.2.1 y x || ((List.range j).any (fun i => decide ((lk_told np id so on key me s o)[i]? = some x)) && decide (x ≠ me))) np ∧ ∀ x b, x ≠ 23 + 3 * y → x ≠ 23 + 3 * y + 1 → x ≠ 23 + 3 * y + 2 → a.1 x b = S5 x b)
      (fun T => pu_rs T (23 + 3 * y) (fun x => id x ^^^ nI key) (fun x => s.2.2.2.1 y x || ((List.range 3).any (fun i => decide ((lk_told np id so on key me s o)[i]? = some x)) && decide (x ≠ me))) np ∧ ∀ x b, x ≠ 23 + 3 * y → x ≠ 23 + 3 * y + 1 → x ≠ 23 + 3 * y + 2 → T x b = S5 x b) 3 (by omega) ?_ ?_ ?_
    · obtain ⟨S6, e6, r6, f6⟩ := loop
      rw [e6, pu_sb]
      have oth : ∀ v, v < 2 → v ≠ y → pu_rs S6 (23 + 3 * v) (fun x => id x ^^^ nI key) (s.2.2.2.1 v) np := fun v hv hvy => rs_keep (way v hv) (f6 _ _ (by omega) (by omega) (by omega)) (fun b => f6 _ b (by omega) (by omega) (by omega)) (fun b => f6 _ b (by omega) (by omega) (by omega))
      have all : ∀ v, v < 2 → pu_rs S6 (23 + 3 * v) (fun x => id x ^^^ nI key) (fun x => s.2.2.2.1 v x || (decide (v = y) && ((List.range 3).any (fun i => decide ((lk_told np id so on key me s o)[i]? = some x)) && decide (x ≠ me)))) np := by
        intro v hv
        by_cases e : v = y
        · subst e; exact rs_congr r6 (fun k _ => by simp)
        · exact rs_congr (oth v hv e) (fun k _ => by simp [e])
      refine ⟨S6, rfl, ⟨cp_congr h1 hn (fun a c ha => f6 a c (by omega) (by omega) (by omega)), all 0 (by omega), all 1 (by omega), ?_, fun x hx => ?_, ?_⟩, fun a b hab => ?_⟩
      · exact rs_keep r4 (by rw [f6 _ _ (by omega) (by omega) (by omega), f5 _ _ (by omega) (by omega) (by omega)]) (fun b => by rw [f6 _ _ (by omega) (by omega) (by omega), f5 _ _ (by omega) (by omega) (by omega)]) (fun b => by rw [f6 _ _ (by omega) (by omega) (by omega), f5 _ _ (by omega) (by omega) (by omega)])
      · rw [f6 _ _ (by omega) (by omega) (by omega), fr 35 x (by omega) (by omega) (by omega) (by omega) (by omega) (by omega) (by omega)]
        exact d5 x hx
      · rw [f6 _ _ (by omega) (by omega) (by omega), fr 22 6 (by omega) (by omega) (by omega) (by omega) (by omega) (by omega) (by omega)]
        exact d6
      · rw [f6 _ _ (by omega) (by omega) (by omega), f5 _ _ (by omega) (by omega) (by omega), f4 _ _ (by omega) (by omega) (by omega), f3 _ _ (by omega), f2 _ _ (by omega)]
        exact dF a b hab
    · exact ⟨rfl, rs_congr (way y hy) (fun k _ => by simp), fun _ _ _ _ _ => rfl⟩
    · rintro j ⟨T, v⟩ hj ⟨hv, hr, f⟩
      dsimp only at hv hr f ⊢
      subst hv
      unfold f_X7_ask_L95 f_X7_ask_J127
      have hat2 : f_X6_at T 32 (nI j) = some (pu_enc (lk_told np id so on key me s o)[j]?) := by
        obtain ⟨l, l1, l2⟩ := r5
        have l1' : pu_row T 32 (fun x => id x ^^^ nI key) l := ⟨by rw [f _ _ (by omega) (by omega) (by omega)]; exact l1.1, l1.2.1, fun i a ha => by rw [f _ _ (by omega) (by omega) (by omega), f _ _ (by omega) (by omega) (by omega)]; exact l1.2.2 i a ha⟩
        exact rs_at ⟨l, l1', l2⟩ (aw_dp w2 hk) hj (by omega)
      rw [if_neg (show ¬ (3 : Int32) ≤ nI j from nI_ge (b := 3) hj (by omega)), hat2, pu_sb, nI_1]
      have ext : ∀ x, ((List.range (j + 1)).any (fun i => decide ((lk_told np id so on key me s o)[i]? = some x)) && decide (x ≠ me)) = (((List.range j).any (fun i => decide ((lk_told np id so on key me s o)[i]? = some x)) && decide (x ≠ me)) || (decide ((lk_told np id so on key me s o)[j]? = some x) && decide (x ≠ me))) := fun x => by
        rw [List.range_succ, List.any_append, Bool.and_or_distrib_right]
        simp only [List.any_cons, List.any_nil, Bool.or_false]
      cases h9 : (lk_told np id so on key me s o)[j]? with
      | none =>
        show ∃ a', (if (-1 : Int32) = nI me then _ else _) = _ ∧ _
        rw [if_neg (fun e => pu_ne1 (by omega) e.symm)]
        show ∃ a', (f_X7_include T (23 + 3 * y) (-1) (nI key)).bind _ = _ ∧ _
        rw [lc_incl0, pu_sb]
        refine ⟨_, rfl, rfl, rs_congr hr (fun x hx => ?_), f⟩
        rw [ext, h9]
        simp
      | some a =>
        have ha := (sel_mem (List.mem_of_getElem? h9)).1
        show ∃ a', (if nI a = nI me then _ else _) = _ ∧ _
        by_cases ce : a = me
        · rw [if_pos (by rw [ce])]
          refine ⟨_, rfl, rfl, rs_congr hr (fun x hx => ?_), f⟩
          rw [ext, h9]
          by_cases e : a = x
          · subst e; simp [ce]
          · simp [e]
        · rw [if_neg (fun e => ce (pu_inj (by omega) (by omega) e))]
          show ∃ a', (f_X7_include T (23 + 3 * y) (nI a) (nI key)).bind _ = _ ∧ _
          have hT : pu_CP np id so on (lk_k2 id on me s o) T := cp_congr h1 hn (fun a c ha => f a c (by omega) (by omega) (by omega))
          obtain ⟨T', e', r', f'⟩ := lc_incl hT w2 hr ha
          rw [e', pu_sb]
          refine ⟨_, rfl, rfl, rs_congr r' (fun x hx => ?_), fun x b q1 q2 q3 => (f' x b q1 q2 q3).trans (f x b q1 q2 q3)⟩
          rw [ext, h9, ← Bool.or_assoc]
          congr 1
          by_cases e : x = a
          · subst e; simp [ce]
          · have : ¬ a = x := fun q => e q.symm
            simp [e, this]
    · rintro ⟨T, v⟩ ⟨hv, hr, f⟩
      dsimp only at hv hr f ⊢
      subst hv
      refine ⟨T, ?_, hr, f⟩
      unfold f_X7_ask_L95
      rw [if_pos (show (3 : Int32) ≤ nI 3 by decide)]
end
