/-! the reference's peers, and its loops that take the least -/
def pu_MP (np : Nat) (id so on : Nat → Int32) (kp : Nat → Nat → List Nat) (S : ps_S) : Prop := S 80 2 = nI np ∧ (∀ p, p < np → S 81 p = id p ∧ S 82 p = so p ∧ S 83 p = on p ∧ ∀ b, b < 8 → S 85 (8 * p + b) = nI (kp p b).length ∧ ∀ j a, (kp p b)[j]? = some a → S 84 (2 * (8 * p + b) + j) = nI a) ∧ ∀ p, np ≤ p → p < 16 → ∀ b, b < 8 → S 85 (8 * p + b) = 0
theorem pu_q2 : ∀ j : Fin 16, nI j.val / 2 = nI (j.val / 2) ∧ nI j.val - nI j.val / 2 * 2 = nI (j.val % 2) := by decide +kernel
theorem pu_q2' {j : Nat} (hj : j < 16) : nI j / 2 = nI (j / 2) ∧ nI j - nI j / 2 * 2 = nI (j % 2) := pu_q2 ⟨j, hj⟩
section
variable {np : Nat} {id so on : Nat → Int32} {kp : Nat → Nat → List Nat} {S : ps_S}
theorem mp_is (h : S 80 2 = nI np) (hn : np ≤ 16) {p : Nat} (hp : p < np) : f_X11_isPeer S (nI p) = some 1 := by
  unfold f_X11_isPeer f_X11_isIn
  obtain ⟨m, rfl⟩ : ∃ m, np = m + 1 := ⟨np - 1, by omega⟩
  rw [if_neg (nI_pos (by omega)), h, nI_pred, if_neg (nI_nlt (by omega) (by omega))]
  rfl
theorem mp_isno (h : S 80 2 = nI np) (hn : np ≤ 16) {x : Int32} (hx : ¬ ∃ p, p < np ∧ x = nI p) : f_X11_isPeer S x = some 0 := by
  unfold f_X11_isPeer f_X11_isIn
  by_cases h0 : x < 0
  · rw [if_pos h0]; rfl
  · rw [if_neg h0, h]
    have : nI np - 1 < x := by
      have h1 : nI np ≤ x := by
        rw [pu_ile]
        have : ¬ x < nI np := fun h1 => hx (pu_nat (by omega) h0 h1)
        rw [pu_ilt] at this
        omega
      obtain ⟨j, hj, rfl⟩ := nI_of h0
      have h2 := (nI_leI (by omega) hj).mp h1
      cases np with
      | zero =>
        rw [pu_ilt, nI_toInt hj, show (nI 0 - 1 : Int32).toInt = -1 from by decide]
        omega
      | succ m => rw [nI_pred]; exact nI_lt (by omega) hj
    rw [if_pos this]
    rfl
theorem mp_upd (h : pu_MP np id so on kp S) (w : pu_AW np id on kp) {p b : Nat} {l' : List Nat} {S' : ps_S} (hp : p < np) (hb : b < 8) (h0 : S' 85 (8 * p + b) = nI l'.length) (h1 : ∀ j a, l'[j]? = some a → S' 84 (2 * (8 * p + b) + j) = nI a) (hf : ∀ a c, ¬ (a = 84 ∧ (c = 2 * (8 * p + b) ∨ c = 2 * (8 * p + b) + 1)) → ¬ (a = 85 ∧ c = 8 * p + b) → S' a c = S a c) : pu_MP np id so on (fun x c => if x = p ∧ c = b then l' else kp x c) S' := by
  refine ⟨by rw [hf 80 2 (by omega) (by omega)]; exact h.1, fun x hx => ?_, fun x hx hx2 c hc => by rw [hf _ _ (by omega) (by omega)]; exact h.2.2 x hx hx2 c hc⟩
  obtain ⟨e1, e2, e3, e4⟩ := h.2.1 x hx
  refine ⟨by rw [hf 81 x (by omega) (by omega)]; exact e1, by rw [hf 82 x (by omega) (by omega)]; exact e2, by rw [hf 83 x (by omega) (by omega)]; exact e3, fun c hc => ?_⟩
  dsimp only
  by_cases c1 : x = p ∧ c = b
  · rw [if_pos c1, c1.1, c1.2]
    exact ⟨h0, h1⟩
  · rw [if_neg c1]
    obtain ⟨g1, g2⟩ := e4 c hc
    refine ⟨by rw [hf _ _ (by omega) (by omega)]; exact g1, fun j a hj => ?_⟩
    have hl := (w.2.2.2.2 x hx c hc).1
    have := (List.getElem?_eq_some_iff.mp hj).1
    rw [hf _ _ (by omega) (by omega)]
    exact g2 j a hj
theorem mp_congr {S' : ps_S} (h : pu_MP np id so on kp S) (e : S' 80 2 = S 80 2) (hf : ∀ a c, 81 ≤ a → a < 86 → S' a c = S a c) : pu_MP np id so on kp S' := by
  refine ⟨by rw [e]; exact h.1, fun x hx => ?_, fun x hx hx2 c hc => by rw [hf _ _ (by omega) (by omega)]; exact h.2.2 x hx hx2 c hc⟩
  obtain ⟨e1, e2, e3, e4⟩ := h.2.1 x hx
  exact ⟨by rw [hf 81 x (by omega) (by omega)]; exact e1, by rw [hf 82 x (by omega) (by omega)]; exact e2, by rw [hf 83 x (by omega) (by omega)]; exact e3, fun c hc => ⟨by rw [hf _ _ (by omega) (by omega)]; exact (e4 c hc).1, fun j a hj => by rw [hf _ _ (by omega) (by omega)]; exact (e4 c hc).2 j a hj⟩⟩
theorem mp_hears (h : pu_MP np id so on kp S) (w : pu_AW np id on kp) {p o : Nat} (hp : p < np) (ho : o < np) (hpo : p ≠ o) : ∃ S', f_X11_hears S (nI p) (nI o) = some S' ∧ pu_MP np id so on (pu_hear id on kp p o) S' ∧ ∀ a b, a ≠ 84 → a ≠ 85 → S' a b = S a b := by
  have hn := w.1
  obtain ⟨k, hk, ek⟩ := aw_x w hp ho
  obtain ⟨-, hb1, hb8⟩ := pu_hbC hk ek
  have hw := w.2.2.2.2 p hp (pu_hb (id p ^^^ id o)) hb8
  obtain ⟨ep1, ep2, ep3, ep4⟩ := h.2.1 p hp
  obtain ⟨g0, g1⟩ := ep4 (pu_hb (id p ^^^ id o)) hb8
  have eo1 := (h.2.1 o ho).1
  unfold pu_hear
  unfold f_X11_hears f_X11_bucketOf
  rw [if_pos (pu_ib (by omega) (by omega)), if_pos (pu_ib (by omega) (by omega)), nI_clamp (by omega), nI_clamp (by omega), ep1, eo1, hb1, pu_sb, pu_sb]
  generalize pu_hb (id p ^^^ id o) = b at *
  have ibt := pu_ib (i := 8 * p + b) (n := 128) (by omega) (by omega)
  have ib0 := pu_ib (i := 2 * (8 * p + b)) (n := 256) (by omega) (by omega)
  have ib1 := pu_ib (i := 2 * (8 * p + b) + 1) (n := 256) (by omega) (by omega)
  have clt := nI_clamp (n := 8 * p + b) (by omega)
  have cl0 := nI_clamp (n := 2 * (8 * p + b)) (by omega)
  have cl1 := nI_clamp (n := 2 * (8 * p + b) + 1) (by omega)
  unfold f_X11_hears_J51 f_X11_hears_J71
  simp only [pu_8, nI_add, pu_2, nI_1]
  rw [if_pos ibt, clt, g0]
  simp only [cl0, cl1]
  have ex : ∀ (l' : List Nat) (S' : ps_S), pu_bk on o (kp p b) = l' → S' 85 (8 * p + b) = nI l'.length → (∀ j a, l'[j]? = some a → S' 84 (2 * (8 * p + b) + j) = nI a) → (∀ a c, ¬ (a = 84 ∧ (c = 2 * (8 * p + b) ∨ c = 2 * (8 * p + b) + 1)) → ¬ (a = 85 ∧ c = 8 * p + b) → S' a c = S a c) → ∃ S'', some S' = some S'' ∧ pu_MP np id so on (fun x c => if x = p ∧ c = b then pu_bk on o (kp p b) else kp x c) S'' ∧ ∀ a b, a ≠ 84 → a ≠ 85 → S'' a b = S a b := by
    intro l' S' e h0 h1 hf
    rw [e]
    exact ⟨S', rfl, mp_upd h w hp hb8 h0 h1 hf, fun a c ha ha2 => hf a c (by omega) (by omega)⟩
  match hl : kp p b, hw with
  | [], _ =>
    rw [hl] at g0 g1
    rw [← hl]
    rw [show nI ([] : List Nat).length = nI 0 from rfl] at g0
    rw [hl]
    rw [show nI ([] : List Nat).length = nI 0 from rfl, if_neg (by decide), if_neg (by decide), if_neg (by decide), nI_add, Nat.add_zero, if_pos ib0, if_pos ibt, if_pos ibt]
    rw [← hl]
    refine ex [o] _ (by rw [hl]; rfl) ?_ ?_ ?_
    · rw [pu_up_same, pu_up_k (by omega), g0, nI_1]; rfl
    · intro j a hj
      match j, hj with
      | 0, hj => cases hj; rw [pu_up_k (by omega)]; simp [ps_up, cl0]
      | j + 1, hj => simp at hj
    · intro a c h1 h2
      rw [cl0]
      unfold ps_up
      rw [if_neg (by omega), if_neg (by omega)]
  | [a], hw =>
    rw [hl] at g0 g1
    have ha := (hw.2 a (by simp)).1
    have ga := g1 0 a rfl
    have ga : S 84 (2 * (8 * p + b)) = nI a := ga
    rw [show nI ([a] : List Nat).length = nI 1 from rfl] at g0
    rw [show nI ([a] : List Nat).length = nI 1 from rfl, if_pos (by decide), if_pos ib0, ga]
    by_cases c : a = o
    · subst c
      rw [if_pos rfl]
      rw [← hl]
      refine ex [a] _ (by rw [hl]; simp [pu_bk]) g0 g1 (fun _ _ _ _ => rfl)
    · rw [if_neg (fun e => c (pu_inj (by omega) (by omega) e)), if_neg (by decide), if_neg (by decide), nI_add, if_pos ib1, if_pos ibt, if_pos ibt, cl1]
      rw [← hl]
      refine ex [a, o] _ (by rw [hl]; simp [pu_bk, c]) ?_ ?_ ?_
      · rw [pu_up_same, pu_up_k (by omega), g0, nI_1]; rfl
      · intro j x hj
        match j, hj with
        | 0, hj => cases hj; rw [pu_up_k (by omega), pu_up_i (by omega)]; exact ga
        | 1, hj => cases hj; rw [pu_up_k (by omega)]; exact pu_up_same _ _ _ _
        | j + 2, hj => simp at hj
      · intro x c h1 h2
        unfold ps_up
        rw [if_neg (by omega), if_neg (by omega)]
  | [a, c], hw =>
    rw [hl] at g0 g1
    have ha := (hw.2 a (by simp)).1
    have hc := (hw.2 c (by simp)).1
    have ga : S 84 (2 * (8 * p + b)) = nI a := g1 0 a rfl
    have gc : S 84 (2 * (8 * p + b) + 1) = nI c := g1 1 c rfl
    rw [show nI ([a, c] : List Nat).length = nI 2 from rfl] at g0
    rw [show nI ([a, c] : List Nat).length = nI 2 from rfl, if_neg (by decide), if_pos (by decide), if_pos ib1, gc]
    by_cases c1 : c = o
    · subst c1
      rw [if_pos rfl]
      rw [← hl]
      refine ex [a, c] _ (by rw [hl]; simp [pu_bk]) g0 g1 (fun _ _ _ _ => rfl)
    · rw [if_neg (fun e => c1 (pu_inj (by omega) (by omega) e)), if_pos (by decide), if_pos ib0, ga]
      have tail : ∀ z : Nat, pu_bk on o (kp p b) = [c, z] → ∃ S'', f_X11_hears_J171 S (nI p) (nI b) (nI z) = some S'' ∧ pu_MP np id so on (fun x c => if x = p ∧ c = b then pu_bk on o (kp p b) else kp x c) S'' ∧ ∀ a b, a ≠ 84 → a ≠ 85 → S'' a b = S a b := by
        intro z hz
        unfold f_X11_hears_J171
        simp only [pu_8, nI_add, pu_2, nI_1]
        rw [if_pos ib1, cl0, cl1, gc]
        refine ex [c, z] _ hz ?_ ?_ ?_
        · rw [pu_up_k (by omega), pu_up_k (by omega), g0]; rfl
        · intro j x hj
          match j, hj with
          | 0, hj => cases hj; rw [pu_up_i (by omega)]; exact pu_up_same _ _ _ _
          | 1, hj => cases hj; exact pu_up_same _ _ _ _
          | j + 2, hj => simp at hj
        · intro x c h1 h2
          unfold ps_up
          rw [if_neg (by omega), if_neg (by omega)]
      unfold f_X11_hears_J115 f_X11_hears_J165
      simp only [pu_8, nI_add, pu_2, nI_1]
      rw [← hl]
      by_cases c2 : a = o
      · rw [if_pos (by rw [c2]), if_pos ib0, if_pos ib1, if_pos ib0, if_neg (by decide)]
        exact tail o (by rw [hl]; simp [pu_bk, c1, c2])
      · rw [if_neg (fun e => c2 (pu_inj (by omega) (by omega) e)), if_pos ib0, if_pos ib1, if_pos ib0, if_pos trivial, cl0, cl1, ga, if_pos (pu_ib (by omega) (by omega)), nI_clamp (by omega), pu_up_k (by omega), (h.2.1 a ha).2.2.1]
        by_cases c3 : on a = 0
        · rw [if_pos c3]
          exact tail o (by rw [hl]; simp [pu_bk, c1, c3])
        · rw [if_neg c3]
          exact tail a (by rw [hl]; simp [pu_bk, c1, c2, c3])
  | a :: c :: e :: t, hw => exact absurd hw.1 (by simp)
theorem mp_keeps (h : pu_MP np id so on kp S) (w : pu_AW np id on kp) {p x : Nat} (hp : p < np) (hx : x < np) : f_X11_keepsPeer S (nI p) (nI x) = some (if pu_keeps kp p x = true then 1 else 0) := by
  have hn := w.1
  have e16 : (List.range 16).any (fun i => decide ((kp p (i / 2))[i % 2]? = some x)) = pu_keeps kp p x := by
    rw [Bool.eq_iff_iff]
    unfold pu_keeps
    simp only [List.any_eq_true, List.mem_range, decide_eq_true_eq]
    constructor
    · rintro ⟨i, hi, e⟩
      exact ⟨i / 2, by omega, List.mem_of_getElem? e⟩
    · rintro ⟨b, hb, hm⟩
      obtain ⟨j, hj, e⟩ := List.getElem_of_mem hm
      have hl := (w.2.2.2.2 p hp b hb).1
      refine ⟨2 * b + j, by omega, ?_⟩
      rw [show (2 * b + j) / 2 = b by omega, show (2 * b + j) % 2 = j by omega, List.getElem?_eq_getElem hj, e]
  have loop := pu_it0 (step := fun (a : Int32 × Int32) => f_X11_keepsPeer_L5 S (nI p) (nI x) a.1 a.2) (b := if pu_keeps kp p x = true then 1 else 0) (fun j => (if (List.range j).any (fun i => decide ((kp p (i / 2))[i % 2]? = some x)) = true then 1 else 0, nI j)) 16 ?_ ?_ (by omega)
  · unfold f_X11_keepsPeer
    have e0 : ps_it (fun (a : Int32 × Int32) => f_X11_keepsPeer_L5 S (nI p) (nI x) a.1 a.2) ps_fu (0, 0) = some (if pu_keeps kp p x = true then 1 else 0) := loop
    rw [e0, pu_sb]
    rw [if_pos (by split <;> simp)]
  · intro j hj
    show f_X11_keepsPeer_L5 S (nI p) (nI x) _ (nI j) = _
    unfold f_X11_keepsPeer_L5 f_X11_keepsPeer_J64
    rw [if_neg (by rw [pu_i16]; exact nI_ge hj (by omega)), (pu_q2' hj).2, (pu_q2' hj).1, List.range_succ, List.any_append, nI_1]
    simp only [List.any_cons, List.any_nil, Bool.or_false]
    cases hq : (List.range j).any (fun i => decide ((kp p (i / 2))[i % 2]? = some x)) with
    | true =>
      rw [if_pos rfl, if_neg (by decide)]
      rfl
    | false =>
      rw [show (if (false = true) then (1 : Int32) else 0) = 0 from rfl, if_pos rfl, Bool.false_or]
      obtain ⟨g0, g1⟩ := (h.2.1 p hp).2.2.2 (j / 2) (by omega)
      have hl := (w.2.2.2.2 p hp (j / 2) (by omega)).1
      simp only [pu_8, nI_add, pu_2]
      rw [if_pos (pu_ib (by omega) (by omega)), nI_clamp (by omega), g0]
      by_cases c : (kp p (j / 2)).length ≤ j % 2
      · rw [if_pos (nI_le c (by omega)), List.getElem?_eq_none c]
        simp
      · rw [if_neg (nI_ge (by omega) (by omega)), if_pos (pu_ib (by omega) (by omega)), nI_clamp (by omega)]
        have hj2 : j % 2 < (kp p (j / 2)).length := by omega
        rw [g1 (j % 2) _ (List.getElem?_eq_getElem hj2), List.getElem?_eq_getElem hj2]
        have hm := ((w.2.2.2.2 p hp (j / 2) (by omega)).2 _ (List.getElem_mem hj2)).1
        by_cases c2 : (kp p (j / 2))[j % 2] = x
        · rw [if_pos (by rw [c2])]; simp [c2]
        · rw [if_neg (fun e => c2 (pu_inj (by omega) (by omega) e))]; simp [c2]
  · show f_X11_keepsPeer_L5 S (nI p) (nI x) _ (nI 16) = _
    unfold f_X11_keepsPeer_L5
    rw [if_pos (by decide), e16]
theorem mn_step {d : Nat → Int32} {q : Nat → Bool} {T : ps_S} {key : Int32} {k : Nat} {s : Int32} (hd : ∀ k, k < np → T 81 k ^^^ key = d k) (hk : k < np) (hn : np ≤ 16) (hs : s = if q k = true then 1 else 0) : f_X11_picks_J66 key T (pu_enc (pu_min q d k)) (nI k) s = some (.inl (pu_enc (pu_min q d (k + 1)), nI (k + 1))) := by
  unfold f_X11_picks_J66 f_X11_picks_J98 f_X11_picks_J93 f_X11_picks_J100
  rw [nI_1]
  cases hq : q k with
  | false =>
    have hs0 : s = 0 := by rw [hs, hq]; rfl
    rw [hs0, if_pos rfl]
    have : pu_min q d (k + 1) = pu_min q d k := by
      conv => lhs; unfold pu_min
      cases pu_min q d k <;> simp [hq]
    rw [this]
  | true =>
    have hs1 : s = 1 := by rw [hs, hq]; rfl
    rw [hs1, if_neg (by decide)]
    cases h9 : pu_min q d k with
    | none =>
      have : pu_min q d (k + 1) = some k := by
        conv => lhs; unfold pu_min
        rw [h9]; simp [hq]
      rw [this]
      show (if (-1 : Int32) = -1 then _ else _) = _
      rw [if_pos rfl]
      rfl
    | some r =>
      obtain ⟨r1, r2, r3⟩ := pu_min_some h9
      have e : pu_min q d (k + 1) = if d k < d r then some k else some r := by
        conv => lhs; unfold pu_min
        rw [h9]; simp [hq]
      show (if nI r = -1 then _ else _) = _
      rw [if_neg (pu_ne1 (by omega))]
      show (if ps_ib (nI r) 16 = true then _ else _) = _
      rw [if_pos (pu_ib (by omega) (by omega))]
      show (if T 81 (nI r).toNatClampNeg ^^^ key ≤ _ then _ else _) = _
      rw [nI_clamp (by omega), nI_clamp (by omega), hd r (by omega), hd k hk, e]
      by_cases c : d r ≤ d k
      · rw [if_pos c, if_neg (by rw [pu_ile] at c; rw [pu_ilt]; omega)]
      · rw [if_neg c, if_pos (by rw [pu_ile] at c; rw [pu_ilt]; omega)]
        rfl
/-- a loop over the peers that takes the least -/
theorem mn_loop {d : Nat → Int32} {q : Nat → Bool} {T : ps_S} {key : Int32} {step : Int32 × Int32 → Option ((Int32 × Int32) ⊕ Int32)} (hn : np ≤ 16) (h1 : ∀ v k, k < np → ∃ s, step (v, nI k) = f_X11_picks_J66 key T v (nI k) s ∧ s = if q k = true then 1 else 0) (h2 : ∀ v, step (v, nI np) = some (.inr v)) (hd : ∀ k, k < np → T 81 k ^^^ key = d k) : ps_it step ps_fu (-1, 0) = some (pu_enc (pu_min q d np)) := by
  have loop := pu_it0 (step := step) (b := pu_enc (pu_min q d np)) (fun j => (pu_enc (pu_min q d j), nI j)) np ?_ (h2 _) (by omega)
  · exact loop
  · intro j hj
    obtain ⟨s, e, hs⟩ := h1 (pu_enc (pu_min q d j)) j hj
    show step (pu_enc (pu_min q d j), nI j) = _
    rw [e]
    exact mn_step hd hj hn hs
theorem mn_picks (h : S 80 2 = nI np) (hn : np ≤ 16) {d : Nat → Int32} {key : Int32} (hd : ∀ k, k < np → S 81 k ^^^ key = d k) {y : Nat} (hy : y < 2) {w : Nat → Bool} (hw : ∀ k, k < np → S 86 (16 * y + k) = if w k = true then 1 else 0) (last : Int32) : ps_it (fun (a : Int32 × Int32) => f_X11_picks_L19 (nI y) key S last a.1 a.2) ps_fu ((-1), 0) = some (pu_enc (pu_min (fun k => w k && decide (last < d k)) d np)) := by
  apply mn_loop (T := S) (key := key) hn ?_ ?_ hd
  · intro v k hk
    show ∃ s, f_X11_picks_L19 (nI y) key S last v (nI k) = _ ∧ _
    unfold f_X11_picks_L19
    rw [h, if_neg (nI_ge hk (by omega)), if_pos (pu_ib (by omega) (by omega)), pu_16, nI_add, if_pos (pu_ib (by omega) (by omega)), nI_clamp (by omega), nI_clamp (by omega), hw k hk, hd k hk]
    cases e : w k with
    | false => rw [if_pos (by simp)]; exact ⟨0, rfl, by simp⟩
    | true =>
      rw [if_neg (by simp)]
      by_cases c : d k ≤ last
      · rw [if_pos c]; exact ⟨0, rfl, by have : ¬ last < d k := by { rw [pu_ile] at c; rw [pu_ilt]; omega }
                                         simp [this]⟩
      · rw [if_neg c]; exact ⟨1, rfl, by have : last < d k := by { rw [pu_ile] at c; rw [pu_ilt]; omega }
                                         simp [this]⟩
  · intro v
    show f_X11_picks_L19 (nI y) key S last v (nI np) = _
    unfold f_X11_picks_L19
    rw [h, if_pos (nI_le (Nat.le_refl _) (by omega))]
theorem mn_closest (h : S 80 2 = nI np) (hn : np ≤ 16) {d : Nat → Int32} {key : Int32} (hd : ∀ k, k < np → S 81 k ^^^ key = d k) {w : Nat → Bool} (hw : ∀ k, k < np → S 88 k = if w k = true then 1 else 0) (last : Int32) : ps_it (fun (a : Int32 × Int32) => f_X11_closestOf_L20 key S last a.1 a.2) ps_fu ((-1), 0) = some (pu_enc (pu_min (fun k => w k && decide (last < d k)) d np)) := by
  apply mn_loop (T := S) (key := key) hn ?_ ?_ hd
  · intro v k hk
    show ∃ s, f_X11_closestOf_L20 key S last v (nI k) = _ ∧ _
    unfold f_X11_closestOf_L20
    rw [h, if_neg (nI_ge hk (by omega)), if_pos (pu_ib (by omega) (by omega)), if_pos (pu_ib (by omega) (by omega)), nI_clamp (by omega), hw k hk, hd k hk]
    cases e : w k with
    | false => rw [if_pos (by simp)]; exact ⟨0, rfl, by simp⟩
    | true =>
      rw [if_neg (by simp)]
      by_cases c : d k ≤ last
      · rw [if_pos c]; exact ⟨0, rfl, by have : ¬ last < d k := by { rw [pu_ile] at c; rw [pu_ilt]; omega }
                                         simp [this]⟩
      · rw [if_neg c]; exact ⟨1, rfl, by have : last < d k := by { rw [pu_ile] at c; rw [pu_ilt]; omega }
                                         simp [this]⟩
  · intro v
    show f_X11_closestOf_L20 key S last v (nI np) = _
    unfold f_X11_closestOf_L20
    rw [h, if_pos (nI_le (Nat.le_refl _) (by omega))]
theorem mn_keeps (h : pu_MP np id so on kp S) (w : pu_AW np id on kp) {p : Nat} (hp : p < np) (key : Int32) (last : Int32) : ps_it (fun (a : Int32 × Int32) => f_X11_looksUp_L77 (nI p) key S last a.1 a.2) ps_fu ((-1), 0) = some (pu_enc (pu_min (fun k => pu_keeps kp p k && decide (last < id k ^^^ key)) (fun k => id k ^^^ key) np)) := by
  have hn := w.1
  have hd : ∀ k, k < np → S 81 k ^^^ key = id k ^^^ key := fun k hk => by rw [(h.2.1 k hk).1]
  apply mn_loop (T := S) (key := key) hn ?_ ?_ hd
  · intro v k hk
    show ∃ s, f_X11_looksUp_L77 (nI p) key S last v (nI k) = _ ∧ _
    unfold f_X11_looksUp_L77
    rw [h.1, if_neg (nI_ge hk (by omega)), if_pos (pu_ib (by omega) (by omega)), mp_keeps h w hp hk, pu_sb, nI_clamp (by omega), hd k hk]
    cases e : pu_keeps kp p k with
    | false => rw [if_pos (by simp)]; exact ⟨0, rfl, by simp⟩
    | true =>
      rw [if_neg (by simp)]
      by_cases c : id k ^^^ key ≤ last
      · rw [if_pos c]; exact ⟨0, rfl, by have : ¬ last < id k ^^^ key := by { rw [pu_ile] at c; rw [pu_ilt]; omega }
                                         simp [this]⟩
      · rw [if_neg c]; exact ⟨1, rfl, by have : last < id k ^^^ key := by { rw [pu_ile] at c; rw [pu_ilt]; omega }
                                         simp [this]⟩
  · intro v
    show f_X11_looksUp_L77 (nI p) key S last v (nI np) = _
    unfold f_X11_looksUp_L77
    rw [h.1, if_pos (nI_le (Nat.le_refl _) (by omega))]
theorem mn_asks (h : pu_MP np id so on kp S) (w : pu_AW np id on kp) {o : Nat} (ho : o < np) (key : Int32) (last : Int32) : ps_it (fun (a : Int32 × Int32) => f_X11_asks_L74 (nI o) key S last a.1 a.2) ps_fu ((-1), 0) = some (pu_enc (pu_min (fun k => (pu_keeps kp o k && (decide (so o ≠ 2) || decide (so k = 2))) && decide (last < id k ^^^ key)) (fun k => id k ^^^ key) np)) := by
  have hn := w.1
  have hd : ∀ k, k < np → S 81 k ^^^ key = id k ^^^ key := fun k hk => by rw [(h.2.1 k hk).1]
  apply mn_loop (T := S) (key := key) hn ?_ ?_ hd
  · intro v k hk
    show ∃ s, f_X11_asks_L74 (nI o) key S last v (nI k) = _ ∧ _
    unfold f_X11_asks_L74
    rw [h.1, if_neg (nI_ge hk (by omega)), if_pos (pu_ib (by omega) (by omega)), mp_keeps h w ho hk, pu_sb, nI_clamp (by omega), nI_clamp (by omega), hd k hk, (h.2.1 o ho).2.1, (h.2.1 k hk).2.1]
    cases e : pu_keeps kp o k with
    | false => rw [if_pos (by simp)]; exact ⟨0, rfl, by simp⟩
    | true =>
      rw [if_neg (by simp)]
      by_cases c : id k ^^^ key ≤ last
      · rw [if_pos c]; exact ⟨0, rfl, by have : ¬ last < id k ^^^ key := by { rw [pu_ile] at c; rw [pu_ilt]; omega }
                                         simp [this]⟩
      · have hl : last < id k ^^^ key := by { rw [pu_ile] at c; rw [pu_ilt]; omega }
        rw [if_neg c, if_pos (pu_ib (by omega) (by omega))]
        by_cases c2 : so o = 2
        · rw [if_pos c2, if_pos (pu_ib (by omega) (by omega))]
          by_cases c3 : so k = 2
          · rw [if_pos c3]; exact ⟨1, rfl, by simp [hl, c3]⟩
          · rw [if_neg c3]; exact ⟨0, rfl, by simp [c2, c3]⟩
        · rw [if_neg c2]; exact ⟨1, rfl, by simp [hl, c2]⟩
  · intro v
    show f_X11_asks_L74 (nI o) key S last v (nI np) = _
    unfold f_X11_asks_L74
    rw [h.1, if_pos (nI_le (Nat.le_refl _) (by omega))]
end
