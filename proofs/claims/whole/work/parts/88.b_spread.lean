/-! messages: spread -/
def pu_cnt (f : Nat → Bool) : Nat → Nat
  | 0 => 0
  | n + 1 => pu_cnt f n + if f n = true then 1 else 0
theorem cnt_le (f : Nat → Bool) : ∀ n, pu_cnt f n ≤ n
  | 0 => Nat.le_refl _
  | n + 1 => by
    have := cnt_le f n
    unfold pu_cnt
    split <;> omega
theorem cnt_congr {f g : Nat → Bool} : ∀ {n : Nat}, (∀ x, x < n → f x = g x) → pu_cnt f n = pu_cnt g n
  | 0, _ => rfl
  | n + 1, h => by
    unfold pu_cnt
    rw [cnt_congr (n := n) (fun x hx => h x (by omega)), h n (by omega)]
theorem cnt_add {f g : Nat → Bool} {a : Nat} : ∀ {n : Nat}, (∀ x, x < n → g x = (f x || decide (x = a))) → a < n → f a = false → pu_cnt g n = pu_cnt f n + 1
  | 0, _, h, _ => absurd h (by omega)
  | n + 1, h, ha, hf => by
    unfold pu_cnt
    by_cases e : a = n
    · subst e
      rw [cnt_congr (f := g) (g := f) (n := a) (fun x hx => by
        rw [h x (by omega)]
        have : ¬ x = a := by omega
        simp [this]), h a (by omega), hf]
      simp
    · have ih := cnt_add (f := f) (g := g) (a := a) (n := n) (fun x hx => h x (by omega)) (by omega) hf
      rw [ih, h n (by omega)]
      have : ¬ n = a := fun q => e q.symm
      simp [this]
      omega
theorem cnt_sum {f g k : Nat → Bool} : ∀ {n : Nat}, (∀ x, x < n → g x = (f x || k x)) → (∀ x, x < n → k x = true → f x = false) → pu_cnt g n = pu_cnt f n + pu_cnt k n
  | 0, _, _ => rfl
  | n + 1, h, h2 => by
    unfold pu_cnt
    rw [cnt_sum (f := f) (g := g) (k := k) (n := n) (fun x hx => h x (by omega)) (fun x hx => h2 x (by omega)), h n (by omega)]
    have := h2 n (by omega)
    cases e : k n with
    | true => rw [this e]; simp; omega
    | false => simp; omega
theorem cnt_ff : ∀ n : Nat, pu_cnt (fun _ => false) n = 0
  | 0 => rfl
  | n + 1 => by unfold pu_cnt; rw [cnt_ff n]; rfl
section
variable {np k r : Nat} {id so on g : Nat → Int32} {kp : Nat → Nat → List Nat} {C M C' M' S T U C0 M0 : ps_S}
theorem cp_kept (P : pu_CP np id so on kp T) (hn : np ≤ 16) (hk : k < np) {j : Nat} (hj : j < 16) : f_X5_keptAt T (nI k) (nI j) = some (pu_enc (kp k (j / 2))[j % 2]?) := by
  unfold f_X5_keptAt
  rw [cp_has P.1 hn hk, pu_sb, if_neg (by decide), if_neg (nI_pos (by omega)), if_pos (pu_ib (by omega) (by omega)), if_neg (by rw [pu_i16]; exact nI_ge hj (by omega)), if_pos (pu_ib (by omega) (by omega)), if_pos (pu_ib (by omega) (by omega)), nI_clamp (by omega), nI_clamp (by omega), cp_cell P hk hj]
theorem keeps16 (w : pu_AW np id on kp) (hk : k < np) (x : Nat) : (List.range 16).any (fun i => decide ((kp k (i / 2))[i % 2]? = some x)) = pu_keeps kp k x := by
  rw [Bool.eq_iff_iff]
  unfold pu_keeps
  simp only [List.any_eq_true, List.mem_range, decide_eq_true_eq]
  constructor
  · rintro ⟨i, hi, e⟩
    exact ⟨i / 2, by omega, List.mem_of_getElem? e⟩
  · rintro ⟨b, hb, hm⟩
    obtain ⟨j, hj, e⟩ := List.getElem_of_mem hm
    have hl := (w.2.2.2.2 k hk b hb).1
    refine ⟨2 * b + j, by omega, ?_⟩
    rw [show (2 * b + j) / 2 = b by omega, show (2 * b + j) % 2 = j by omega, List.getElem?_eq_getElem hj, e]
def sp_ok (so on g : Nat → Int32) (x : Nat) : Bool := decide (g x = -1) && decide (¬ (on x = 0 ∨ so x = 1))
def sp_el (so on : Nat → Int32) (kp : Nat → Nat → List Nat) (g : Nat → Int32) (k x : Nat) : Bool := pu_keeps kp k x && sp_ok so on g x
theorem sp_tc (P : pu_CP np id so on kp T) (w : pu_AW np id on kp) (hk : k < np) (hr : r < 2 ^ 31) (hg : ∀ x, x < np → T 79 x = g x) : ∃ T', f_X3_tellAll T (nI k) (nI r) = some (nI (pu_cnt (sp_el so on kp g k) np), T') ∧ (∀ x, x < np → T' 79 x = if sp_el so on kp g k x = true then nI r else g x) ∧ (∀ x, np ≤ x → T' 79 x = T 79 x) ∧ ∀ x y, x ≠ 79 → T' x y = T x y := by
  have hn := w.1
  have loop := pu_ind0 (step := fun (a : ps_S × Int32 × Int32) => f_X3_tellAll_L5 (nI k) (nI r) a.1 a.2.1 a.2.2) (a := (T, 0, 0))
    (fun j a => a.2.2 = nI j ∧ a.2.1 = nI (pu_cnt (fun x => (List.range j).any (fun i => decide ((kp k (i / 2))[i % 2]? = some x)) && sp_ok so on g x) np) ∧ (∀ x, x < np → a.1 79 x = if ((List.range j).any (fun i => decide ((kp k (i / 2))[i % 2]? = some x)) && sp_ok so on g x) = true then nI r else g x) ∧ (∀ x, np ≤ x → a.1 79 x = T 79 x) ∧ ∀ x y, x ≠ 79 → a.1 x y = T x y)
    (fun b => b.2 = nI (pu_cnt (sp_el so on kp g k) np) ∧ (∀ x, x < np → b.1 79 x = if sp_el so on kp g k x = true then nI r else g x) ∧ (∀ x, np ≤ x → b.1 79 x = T 79 x) ∧ ∀ x y, x ≠ 79 → b.1 x y = T x y) 16 (by omega) ?_ ?_ ?_
  · obtain ⟨⟨T', v⟩, e, h1, h2, h3, h4⟩ := loop
    dsimp only at h1 h2 h3 h4
    refine ⟨T', ?_, h2, h3, h4⟩
    unfold f_X3_tellAll
    rw [pu_b2 e, h1]
  · refine ⟨rfl, ?_, fun x hx => ?_, fun _ _ => rfl, fun _ _ _ => rfl⟩
    · dsimp only
      rw [cnt_congr (g := fun _ => false) (fun x hx => by simp), cnt_ff]
      rfl
    · simp [hg x hx]
  · rintro j ⟨V, c, i⟩ hj ⟨hi, hc, hv, hv2, f⟩
    dsimp only at hi hc hv hv2 f ⊢
    subst hi
    have PV : pu_CP np id so on kp V := cp_congr P hn (fun a b h => f a b (by omega))
    unfold f_X3_tellAll_L5 f_X3_tellAll_J58
    rw [if_neg (by rw [pu_i16]; exact nI_ge hj (by omega)), cp_kept PV hn hk hj, pu_sb, nI_1]
    have ext : ∀ x, ((List.range (j + 1)).any (fun i => decide ((kp k (i / 2))[i % 2]? = some x))) = ((List.range j).any (fun i => decide ((kp k (i / 2))[i % 2]? = some x)) || decide ((kp k (j / 2))[j % 2]? = some x)) := fun x => by
      rw [List.range_succ, List.any_append]
      simp only [List.any_cons, List.any_nil, Bool.or_false]
    have stay : (∀ x, x < np → ((List.range (j + 1)).any (fun i => decide ((kp k (i / 2))[i % 2]? = some x)) && sp_ok so on g x) = ((List.range j).any (fun i => decide ((kp k (i / 2))[i % 2]? = some x)) && sp_ok so on g x)) → ∃ a', (some (.inl (V, c, nI (j + 1))) : Option ((ps_S × Int32 × Int32) ⊕ (ps_S × Int32))) = some (.inl a') ∧ a'.2.2 = nI (j + 1) ∧ a'.2.1 = nI (pu_cnt (fun x => (List.range (j + 1)).any (fun i => decide ((kp k (i / 2))[i % 2]? = some x)) && sp_ok so on g x) np) ∧ (∀ x, x < np → a'.1 79 x = if ((List.range (j + 1)).any (fun i => decide ((kp k (i / 2))[i % 2]? = some x)) && sp_ok so on g x) = true then nI r else g x) ∧ (∀ x, np ≤ x → a'.1 79 x = T 79 x) ∧ ∀ x y, x ≠ 79 → a'.1 x y = T x y := by
      intro h
      refine ⟨_, rfl, rfl, ?_, fun x hx => ?_, hv2, f⟩
      · dsimp only
        rw [hc, cnt_congr (fun x hx => (h x hx).symm)]
      · dsimp only
        rw [h x hx]; exact hv x hx
    cases h9 : (kp k (j / 2))[j % 2]? with
    | none =>
      show ∃ a', (f_X5_answers V (-1)).bind _ = _ ∧ _
      rw [cp_ansno PV hn (pu_m1no hn), pu_sb, if_pos rfl]
      exact stay (fun x hx => by rw [ext, h9]; simp)
    | some a =>
      have ha := ((w.2.2.2.2 k hk (j / 2) (by omega)).2 a (List.mem_of_getElem? h9)).1
      rw [show pu_enc (some a) = nI a from rfl]
      rw [cp_answers PV hn ha, pu_sb]
      by_cases c1 : on a = 0 ∨ so a = 1
      · rw [if_pos c1, if_pos rfl]
        refine stay (fun x hx => ?_)
        rw [ext, h9]
        by_cases e : a = x
        · subst e
          have : sp_ok so on g a = false := by unfold sp_ok; simp [c1]
          rw [this]; simp
        · simp [e]
      · rw [if_neg c1, if_neg (by decide)]
        rw [if_pos (pu_ib (by omega) (by omega)), nI_clamp (by omega), hv a ha]
        by_cases c2 : ((List.range j).any (fun i => decide ((kp k (i / 2))[i % 2]? = some a)) && sp_ok so on g a) = true
        · rw [if_pos c2, if_neg (pu_ne1 hr)]
          refine stay (fun x hx => ?_)
          rw [ext, h9]
          by_cases e : a = x
          · subst e
            rw [Bool.and_eq_true] at c2
            rw [c2.1, c2.2]; simp
          · simp [e]
        · rw [if_neg c2]
          by_cases c3 : g a = -1
          · rw [if_pos c3, if_pos (pu_ib (by omega) (by omega))]
            have hok : sp_ok so on g a = true := by unfold sp_ok; simp [c1, c3]
            have hse : (List.range j).any (fun i => decide ((kp k (i / 2))[i % 2]? = some a)) = false := by
              rw [hok, Bool.and_true] at c2
              simpa using c2
            have hx : ∀ x, x < np → ((List.range (j + 1)).any (fun i => decide ((kp k (i / 2))[i % 2]? = some x)) && sp_ok so on g x) = (((List.range j).any (fun i => decide ((kp k (i / 2))[i % 2]? = some x)) && sp_ok so on g x) || decide (x = a)) := by
              intro x hx
              rw [ext, h9]
              by_cases e : x = a
              · subst e
                rw [hok]; simp
              · have : ¬ a = x := fun q => e q.symm
                simp [e, this]
            refine ⟨_, rfl, rfl, ?_, fun x hxn => ?_, fun x hxn => ?_, fun x y hxy => by rw [← f x y hxy]; exact pu_up_k hxy⟩
            · dsimp only
              rw [hc, nI_1, cnt_add hx ha (by rw [hse]; rfl)]
            · dsimp only
              rw [hx x hxn]
              by_cases e : x = a
              · subst e
                rw [pu_up_same]; simp
              · rw [pu_up_i e, hv x hxn]; simp [e]
            · dsimp only
              rw [pu_up_i (by omega)]; exact hv2 x hxn
          · rw [if_neg c3]
            refine stay (fun x hx => ?_)
            rw [ext, h9]
            by_cases e : a = x
            · subst e
              have : sp_ok so on g a = false := by unfold sp_ok; simp [c3]
              rw [this]; simp
            · simp [e]
  · rintro ⟨V, c, i⟩ ⟨hi, hc, hv, hv2, f⟩
    dsimp only at hi hc hv hv2 f ⊢
    subst hi
    have e16 : ∀ x, ((List.range 16).any (fun i => decide ((kp k (i / 2))[i % 2]? = some x)) && sp_ok so on g x) = sp_el so on kp g k x := fun x => by
      rw [keeps16 w hk x]
      rfl
    refine ⟨(V, c), ?_, ?_, fun x hx => ?_, hv2, f⟩
    · unfold f_X3_tellAll_L5
      rw [if_pos (by decide)]
    · dsimp only
      rw [hc, cnt_congr (fun x _ => e16 x)]
    · dsimp only
      rw [hv x hx, e16]
theorem sp_tm (P : pu_MP np id so on kp U) (w : pu_AW np id on kp) (hk : k < np) (hr : r < 2 ^ 31) (hg : ∀ x, x < np → U 100 x = g x) (v3 v4 : Int32) : ∃ U', f_X11_spread_J133 (nI r) U v3 v4 (nI k) 1 = some (.inl (U', v3 + nI (pu_cnt (sp_el so on kp g k) np), (if pu_cnt (sp_el so on kp g k) np = 0 then v4 else 1), nI (k + 1))) ∧ (∀ x, x < np → U' 100 x = if sp_el so on kp g k x = true then nI r else g x) ∧ (U' 80 26 = if pu_cnt (sp_el so on kp g k) np = 0 then U 80 26 else nI r) ∧ ∀ x y, x ≠ 100 → ¬ (x = 80 ∧ y = 26) → U' x y = U x y := by
  have hn := w.1
  have loop := pu_ind0 (step := fun (a : ps_S × Int32 × Int32 × Int32) => f_X11_spread_L138 (nI r) (nI k) 1 a.1 a.2.1 a.2.2.1 a.2.2.2) (a := (U, v3, v4, 0))
    (fun j a => a.2.2.2 = nI j ∧ a.2.1 = v3 + nI (pu_cnt (sp_el so on kp g k) j) ∧ (a.2.2.1 = if pu_cnt (sp_el so on kp g k) j = 0 then v4 else 1) ∧ (∀ x, x < np → a.1 100 x = if (decide (x < j) && sp_el so on kp g k x) = true then nI r else g x) ∧ (a.1 80 26 = if pu_cnt (sp_el so on kp g k) j = 0 then U 80 26 else nI r) ∧ ∀ x y, x ≠ 100 → ¬ (x = 80 ∧ y = 26) → a.1 x y = U x y)
    (fun b => b.2.1 = v3 + nI (pu_cnt (sp_el so on kp g k) np) ∧ (b.2.2 = if pu_cnt (sp_el so on kp g k) np = 0 then v4 else 1) ∧ (∀ x, x < np → b.1 100 x = if sp_el so on kp g k x = true then nI r else g x) ∧ (b.1 80 26 = if pu_cnt (sp_el so on kp g k) np = 0 then U 80 26 else nI r) ∧ ∀ x y, x ≠ 100 → ¬ (x = 80 ∧ y = 26) → b.1 x y = U x y) np (by omega) ?_ ?_ ?_
  · obtain ⟨⟨U', a, b⟩, e, h1, h2, h3, h4, h5⟩ := loop
    dsimp only at h1 h2 h3 h4 h5
    refine ⟨U', ?_, h3, h4, h5⟩
    unfold f_X11_spread_J133
    rw [pu_b3 e, h1, h2, nI_1]
  · refine ⟨rfl, ?_, rfl, fun x hx => ?_, rfl, fun _ _ _ _ => rfl⟩
    · show v3 = v3 + nI 0
      rw [show nI 0 = 0 from rfl, Int32.add_zero]
    · dsimp only
      rw [hg x hx]
      simp
  · rintro j ⟨V, a, b, i⟩ hj ⟨hi, ha, hb, hv, h26, f⟩
    dsimp only at hi ha hb hv h26 f ⊢
    subst hi
    have PV : pu_MP np id so on kp V := mp_congr P (f _ _ (by omega) (by omega)) (fun x y h1 h2 => f x y (by omega) (by omega))
    have hvj : V 100 j = g j := by rw [hv j hj]; simp
    have stay : sp_el so on kp g k j = false → ∃ a', (some (.inl (V, a, b, nI (j + 1))) : Option ((ps_S × Int32 × Int32 × Int32) ⊕ (ps_S × Int32 × Int32))) = some (.inl a') ∧ a'.2.2.2 = nI (j + 1) ∧ a'.2.1 = v3 + nI (pu_cnt (sp_el so on kp g k) (j + 1)) ∧ (a'.2.2.1 = if pu_cnt (sp_el so on kp g k) (j + 1) = 0 then v4 else 1) ∧ (∀ x, x < np → a'.1 100 x = if (decide (x < j + 1) && sp_el so on kp g k x) = true then nI r else g x) ∧ (a'.1 80 26 = if pu_cnt (sp_el so on kp g k) (j + 1) = 0 then U 80 26 else nI r) ∧ ∀ x y, x ≠ 100 → ¬ (x = 80 ∧ y = 26) → a'.1 x y = U x y := by
      intro h
      have hc : pu_cnt (sp_el so on kp g k) (j + 1) = pu_cnt (sp_el so on kp g k) j := by
        show pu_cnt (sp_el so on kp g k) j + (if sp_el so on kp g k j = true then 1 else 0) = _
        rw [h]; simp
      refine ⟨_, rfl, rfl, by rw [hc]; exact ha, by rw [hc]; exact hb, fun x hx => ?_, by rw [hc]; exact h26, f⟩
      dsimp only
      rw [hv x hx]
      by_cases e : x = j
      · subst e; rw [h]; simp
      · have : decide (x < j + 1) = decide (x < j) := decide_eq_decide.mpr (by omega)
        rw [this]
    unfold f_X11_spread_L138 f_X11_spread_J216
    rw [PV.1, if_neg (nI_ge hj (by omega)), if_neg (by decide), if_pos (pu_ib (by omega) (by omega)), nI_clamp (by omega), hvj, nI_1]
    by_cases c3 : g j = -1
    · rw [if_pos c3, if_pos (pu_ib (by omega) (by omega)), (PV.2.1 j hj).2.2.1]
      by_cases c1 : on j = 0
      · rw [if_pos c1]; exact stay (by unfold sp_el sp_ok; simp [c1])
      · rw [if_neg c1, if_pos (pu_ib (by omega) (by omega)), (PV.2.1 j hj).2.1]
        by_cases c2 : so j = 1
        · rw [if_pos c2]; exact stay (by unfold sp_el sp_ok; simp [c2])
        · rw [if_neg c2, mp_keeps PV w hk hj, pu_sb]
          cases c4 : pu_keeps kp k j with
          | false => rw [show (if (false = true) then (1 : Int32) else 0) = 0 from rfl, if_pos rfl]; exact stay (by unfold sp_el; rw [c4]; rfl)
          | true =>
            rw [if_pos rfl, if_neg (by decide), if_pos (pu_ib (by omega) (by omega))]
            have h : sp_el so on kp g k j = true := by unfold sp_el sp_ok; simp [c1, c2, c3, c4]
            have hc : pu_cnt (sp_el so on kp g k) (j + 1) = pu_cnt (sp_el so on kp g k) j + 1 := by
              show pu_cnt (sp_el so on kp g k) j + (if sp_el so on kp g k j = true then 1 else 0) = _
              rw [h]; simp
            refine ⟨_, rfl, rfl, ?_, ?_, fun x hx => ?_, ?_, fun x y h1 h2 => ?_⟩
            · dsimp only
              rw [hc, ha, Int32.add_assoc, nI_1]
            · dsimp only
              rw [hc, if_neg (by omega)]
            · dsimp only
              rw [pu_up_k (by omega)]
              by_cases e : x = j
              · subst e; rw [pu_up_same, h]; simp
              · have : decide (x < j + 1) = decide (x < j) := decide_eq_decide.mpr (by omega)
                rw [pu_up_i e, this]; exact hv x hx
            · dsimp only
              rw [pu_up_same, hc, if_neg (by omega)]
            · dsimp only
              show (if x = 80 ∧ y = 26 then _ else _) = _
              rw [if_neg h2, pu_up_k h1]
              exact f x y h1 h2
    · rw [if_neg c3]; exact stay (by unfold sp_el sp_ok; simp [c3])
  · rintro ⟨V, a, b, i⟩ ⟨hi, ha, hb, hv, h26, f⟩
    dsimp only at hi ha hb hv h26 f ⊢
    subst hi
    refine ⟨(V, a, b), ?_, ha, hb, fun x hx => ?_, h26, f⟩
    · unfold f_X11_spread_L138
      rw [f _ _ (by omega) (by omega), P.1, if_pos (nI_le (Nat.le_refl _) (by omega))]
    · dsimp only
      rw [hv x hx]
      have : decide (x < np) = true := decide_eq_true hx
      rw [this, Bool.true_and]
theorem sp_tm0 (P : pu_MP np id so on kp U) (hn : np ≤ 16) (v3 v4 : Int32) : f_X11_spread_J133 (nI r) U v3 v4 (nI k) 0 = some (.inl (U, v3, v4, nI (k + 1))) := by
  unfold f_X11_spread_J133
  have e : ps_it (fun (a : ps_S × Int32 × Int32 × Int32) => f_X11_spread_L138 (nI r) (nI k) 0 a.1 a.2.1 a.2.2.1 a.2.2.2) ps_fu (U, v3, v4, 0) = some (U, v3, v4) := by
    show (f_X11_spread_L138 (nI r) (nI k) 0 U v3 v4 0).bind _ = _
    have : f_X11_spread_L138 (nI r) (nI k) 0 U v3 v4 0 = some (.inr (U, v3, v4)) := by
      unfold f_X11_spread_L138
      rw [if_pos rfl]
      split <;> rfl
    rw [this]
    rfl
  rw [pu_b3 e, nI_1]
def sp_got (g : Nat → Int32) (x : Nat) : Bool := decide (g x ≠ -1)
/-- one round on both sides -/
def sp_J (np : Nat) (g : Nat → Int32) (C0 M0 C M : ps_S) : Prop := (∀ x, x < np → C 79 x = g x ∧ M 100 x = g x) ∧ (∀ x, np ≤ x → x < 16 → C 79 x = -1) ∧ (∀ x y, x ≠ 79 → C x y = C0 x y) ∧ ∀ x y, x ≠ 100 → ¬ (x = 80 ∧ y = 26) → M x y = M0 x y
theorem sp_round (P : rl_P np id so on kp C M) (hr : 0 < r) (hr2 : r < 2 ^ 30) (h : sp_J np g C M C M) (v3 : Int32) : ∃ C' M' g' s, f_X3_tellInRound C (nI r) = some (nI s, C') ∧ ps_it (fun (a : ps_S × Int32 × Int32 × Int32) => f_X11_spread_L89 (nI r) a.1 a.2.1 a.2.2.1 a.2.2.2) ps_fu (M, v3, 0, 0) = some (M', v3 + nI s, if s = 0 then 0 else 1) ∧ sp_J np g' C M C' M' ∧ (M' 80 26 = if s = 0 then M 80 26 else nI r) ∧ pu_cnt (sp_got g') np = pu_cnt (sp_got g) np + s := by
  have hn := P.1.1
  have w := P.1
  have lead := pu_lead (s1 := fun (a : ps_S × Int32 × Int32) => f_X3_tellInRound_L4 (nI r) a.1 a.2.1 a.2.2) (s2 := fun (a : ps_S × Int32 × Int32 × Int32) => f_X11_spread_L89 (nI r) a.1 a.2.1 a.2.2.1 a.2.2.2) (a := (C, 0, 0)) (b := (M, v3, 0, 0))
    (fun j a b => a.2.2 = nI j ∧ (j ≤ np → b.2.2.2 = nI j) ∧ (np ≤ j → b.2.2.2 = nI np) ∧ ∃ g' s, a.2.1 = nI s ∧ b.2.1 = v3 + nI s ∧ (b.2.2.1 = if s = 0 then 0 else 1) ∧ sp_J np g' C M a.1 b.1 ∧ (b.1 80 26 = if s = 0 then M 80 26 else nI r) ∧ pu_cnt (sp_got g') np = pu_cnt (sp_got g) np + s)
    (fun c d => ∃ g' s, c.2 = nI s ∧ d.2.1 = v3 + nI s ∧ (d.2.2 = if s = 0 then 0 else 1) ∧ sp_J np g' C M c.1 d.1 ∧ (d.1 80 26 = if s = 0 then M 80 26 else nI r) ∧ pu_cnt (sp_got g') np = pu_cnt (sp_got g) np + s) np 16 hn (by omega) ⟨rfl, fun _ => rfl, fun h => by
      have : np = 0 := by omega
      rw [this]; rfl, g, 0, rfl, by show v3 = v3 + nI 0; rw [show nI 0 = 0 from rfl, Int32.add_zero], rfl, h, rfl, rfl⟩ ?_ ?_ ?_
  · obtain ⟨⟨C', a⟩, ⟨M', b, d⟩, e1, e2, g', s, h1, h2, h3, h4, h5, h6⟩ := lead
    dsimp only at h1 h2 h3 h4 h5
    refine ⟨C', M', g', s, ?_, ?_, h4, h5, h6⟩
    · unfold f_X3_tellInRound
      rw [pu_b2 e1, h1]
    · rw [e2, h2, h3]
  · rintro j ⟨T, a, i⟩ ⟨U, b, d, i2⟩ hj ⟨hi, hi2, -, g', s, h1, h2, h3, h4, h5, h6⟩
    have hi2 := hi2 (by omega)
    dsimp only at hi hi2 h1 h2 h3 h4 h5 ⊢
    subst hi; subst hi2
    have PT : pu_CP np id so on kp T := cp_congr P.2.1 hn (fun a b h => h4.2.2.1 a b (by omega))
    have PU : pu_MP np id so on kp U := mp_congr P.2.2 (h4.2.2.2 _ _ (by omega) (by omega)) (fun a b h1 h2 => h4.2.2.2 a b (by omega) (by omega))
    obtain ⟨r', rfl⟩ : ∃ r', r = r' + 1 := ⟨r - 1, by omega⟩
    have stay : ∃ a' b', (some (.inl (T, a, nI (j + 1))) : Option ((ps_S × Int32 × Int32) ⊕ (ps_S × Int32))) = some (.inl a') ∧ (some (.inl (U, b, d, nI (j + 1))) : Option ((ps_S × Int32 × Int32 × Int32) ⊕ (ps_S × Int32 × Int32))) = some (.inl b') ∧ a'.2.2 = nI (j + 1) ∧ (j + 1 ≤ np → b'.2.2.2 = nI (j + 1)) ∧ (np ≤ j + 1 → b'.2.2.2 = nI np) ∧ ∃ g' s, a'.2.1 = nI s ∧ b'.2.1 = v3 + nI s ∧ (b'.2.2.1 = if s = 0 then 0 else 1) ∧ sp_J np g' C M a'.1 b'.1 ∧ (b'.1 80 26 = if s = 0 then M 80 26 else nI (r' + 1)) ∧ pu_cnt (sp_got g') np = pu_cnt (sp_got g) np + s := by
      refine ⟨_, _, rfl, rfl, rfl, fun _ => rfl, fun h => ?_, g', s, h1, h2, h3, h4, h5, h6⟩
      have : np = j + 1 := by omega
      rw [this]
    have tell : ∃ a' b', ((ps_b2 (f_X3_tellAll T (nI j) (nI (r' + 1))) fun r54 S54 => some (.inl (S54, a + r54, nI (j + 1)))) : Option ((ps_S × Int32 × Int32) ⊕ (ps_S × Int32))) = some (.inl a') ∧ f_X11_spread_J133 (nI (r' + 1)) U b d (nI j) 1 = some (.inl b') ∧ a'.2.2 = nI (j + 1) ∧ (j + 1 ≤ np → b'.2.2.2 = nI (j + 1)) ∧ (np ≤ j + 1 → b'.2.2.2 = nI np) ∧ ∃ g' s, a'.2.1 = nI s ∧ b'.2.1 = v3 + nI s ∧ (b'.2.2.1 = if s = 0 then 0 else 1) ∧ sp_J np g' C M a'.1 b'.1 ∧ (b'.1 80 26 = if s = 0 then M 80 26 else nI (r' + 1)) ∧ pu_cnt (sp_got g') np = pu_cnt (sp_got g) np + s := by
      obtain ⟨T', e1, t1, t2, t3⟩ := sp_tc PT w hj (r := r' + 1) (by omega) (fun x hx => (h4.1 x hx).1)
      obtain ⟨U', e2, u1, u2, u3⟩ := sp_tm PU w hj (r := r' + 1) (by omega) (fun x hx => (h4.1 x hx).2) b d
      rw [pu_b2 e1, e2]
      refine ⟨_, _, rfl, rfl, rfl, fun _ => rfl, fun h => ?_, fun x => if sp_el so on kp g' j x = true then nI (r' + 1) else g' x, s + pu_cnt (sp_el so on kp g' j) np, ?_, ?_, ?_, ⟨fun x hx => ⟨t1 x hx, u1 x hx⟩, fun x h1 h2 => ?_, fun x y hx => (t3 x y hx).trans (h4.2.2.1 x y hx), fun x y hx hy => (u3 x y hx hy).trans (h4.2.2.2 x y hx hy)⟩, ?_, ?_⟩
      · have : np = j + 1 := by omega
        rw [this]
      · dsimp only
        rw [h1, nI_add]
      · dsimp only
        rw [h2, Int32.add_assoc, nI_add]
      · dsimp only
        rw [h3]
        by_cases c : pu_cnt (sp_el so on kp g' j) np = 0
        · rw [if_pos c, c, Nat.add_zero]
        · rw [if_neg c, if_neg (by omega)]
      · dsimp only
        rw [t2 x h1]
        exact h4.2.1 x h1 h2
      · dsimp only
        rw [u2]
        by_cases c : pu_cnt (sp_el so on kp g' j) np = 0
        · rw [if_pos c, c, Nat.add_zero]; exact h5
        · rw [if_neg c, if_neg (by omega)]
      · rw [← Nat.add_assoc, ← h6]
        apply cnt_sum
        · intro x hx
          unfold sp_got
          dsimp only
          by_cases c : sp_el so on kp g' j x = true
          · have := pu_ne1 (k := r' + 1) (by omega)
            simp [c, this]
          · simp [c]
        · intro x hx hc
          unfold sp_el sp_ok at hc
          unfold sp_got
          simp only [Bool.and_eq_true, decide_eq_true_eq] at hc
          simp [hc.2.1]
    unfold f_X3_tellInRound_L4 f_X3_tellInRound_J31 f_X3_tellInRound_J59 f_X11_spread_L89
    rw [if_neg (by rw [pu_i16]; exact nI_ge (by omega) (by omega)), PU.1, if_neg (nI_ge hj (by omega)), if_pos (pu_ib (by omega) (by omega)), if_pos (pu_ib (by omega) (by omega)), nI_clamp (by omega), (h4.1 j hj).1, (h4.1 j hj).2, nI_pred, nI_1]
    by_cases cr : nI (r' + 1) = 1
    · rw [if_pos cr, if_neg (by decide), if_pos cr]
      by_cases cg : g' j = nI r'
      · rw [if_pos cg, if_pos cg]; exact tell
      · rw [if_neg cg, if_neg cg, sp_tm0 PU hn]; exact stay
    · rw [if_neg cr, cp_honest PT hn hj, pu_sb, if_neg cr, if_pos (pu_ib (by omega) (by omega)), (PU.2.1 j hj).2.1]
      by_cases cs : so j = 0
      · rw [if_pos cs, if_neg (by decide), if_neg (by decide), if_pos cs]
        by_cases cg : g' j = nI r'
        · rw [if_pos cg, if_pos cg]; exact tell
        · rw [if_neg cg, if_neg cg, sp_tm0 PU hn]; exact stay
      · rw [if_neg cs, if_pos rfl, if_pos rfl, if_neg cs, sp_tm0 PU hn, ite_self]; exact stay
  · rintro j ⟨T, a, i⟩ ⟨U, b, d, i2⟩ hj hj16 ⟨hi, -, hi2, g', s, h1, h2, h3, h4, h5, h6⟩
    have hi2 := hi2 hj
    dsimp only at hi hi2 h1 h2 h3 h4 h5 ⊢
    subst hi; subst hi2
    have PT : pu_CP np id so on kp T := cp_congr P.2.1 hn (fun a b h => h4.2.2.1 a b (by omega))
    obtain ⟨r', rfl⟩ : ∃ r', r = r' + 1 := ⟨r - 1, by omega⟩
    refine ⟨(T, a, nI (j + 1)), ?_, rfl, fun h => by omega, fun _ => rfl, g', s, h1, h2, h3, h4, h5, h6⟩
    unfold f_X3_tellInRound_L4 f_X3_tellInRound_J31 f_X3_tellInRound_J59
    rw [if_neg (by rw [pu_i16]; exact nI_ge (by omega) (by omega)), if_pos (pu_ib (by omega) (by omega)), nI_clamp (by omega), h4.2.1 j hj hj16, nI_pred, nI_1]
    by_cases cr : nI (r' + 1) = 1
    · rw [if_pos cr, if_neg (by decide), if_neg (fun q => pu_ne1 (k := r') (by omega) q.symm)]
    · rw [if_neg cr, cp_honestno PT hn (pu_noge hj (by omega) hn), pu_sb, if_pos rfl, if_pos rfl]
  · rintro ⟨T, a, i⟩ ⟨U, b, d, i2⟩ ⟨hi, -, hi2, g', s, h1, h2, h3, h4, h5, h6⟩
    have hi2 := hi2 hn
    dsimp only at hi hi2 h1 h2 h3 h4 h5 ⊢
    subst hi; subst hi2
    refine ⟨(T, a), (U, b, d), ?_, ?_, g', s, h1, h2, h3, h4, h5, h6⟩
    · unfold f_X3_tellInRound_L4
      rw [if_pos (by decide)]
    · unfold f_X11_spread_L89
      rw [h4.2.2.2 _ _ (by omega) (by omega), P.2.2.1, if_pos (nI_le (Nat.le_refl _) (by omega))]
theorem sp_rounds : ∀ (f r : Nat) (C M : ps_S) (g : Nat → Int32) (v : Int32), f + r = 17 → 0 < r → rl_P np id so on kp C M → sp_J np g C M C M → r ≤ pu_cnt (sp_got g) np → C 78 2 = nI (r - 1) → M 80 26 = nI (r - 1) → ∀ fuel, f + 1 < fuel → ∃ C' M' w, ps_it (fun (a : ps_S × Int32 × Int32 × Int32) => f_X3_run_L42 a.1 a.2.1 a.2.2.1 a.2.2.2) fuel (C, v, 0, nI r) = some (C', w) ∧ ps_it (fun (a : ps_S × Int32 × Int32 × Int32) => f_X11_spread_L78 a.1 a.2.1 a.2.2.1 a.2.2.2) fuel (M, v, 1, nI r) = some (M', w) ∧ C' 78 2 = M' 80 26 ∧ (∀ x y, x ≠ 78 → x ≠ 79 → C' x y = C x y) ∧ ∀ x y, x ≠ 100 → ¬ (x = 80 ∧ y = 26) → M' x y = M x y
  | 0, r, C, M, g, v, hf, hr0, P, h, hc, _, _, fuel, hfu => by
    have := cnt_le (sp_got g) np
    have := P.1.1
    omega
  | f + 1, r, C, M, g, v, hf, hr0, P, h, hc, h78, h80, fuel, hfu => by
    obtain ⟨fu, rfl⟩ : ∃ fu, fuel = fu + 1 := ⟨fuel - 1, by omega⟩
    obtain ⟨C1, M1, g1, s, e1, e2, j1, k1, c1⟩ := sp_round P hr0 (by omega) h v
    have hcl := cnt_le (sp_got g1) np
    have hn := P.1.1
    have hs : s ≤ 16 := by omega
    have ec : f_X3_run_L42 C v 0 (nI r) = some (.inl (ps_up C1 78 2 (C1 78 2 + (if s = 0 then 0 else 1)), v + nI s, if s = 0 then 1 else 0, nI (r + 1))) := by
      unfold f_X3_run_L42 f_X3_run_J76 f_X3_run_J91
      rw [if_neg (by rw [pu_i16]; exact nI_nlt (by omega) (by omega)), if_pos rfl, pu_b2 e1, nI_1]
      by_cases c : s = 0
      · subst c
        rw [if_pos (show nI 0 = 0 from rfl), if_neg (show ¬ (1 : Int32) = 0 by decide), if_pos (show (0 : Nat) = 0 from rfl), if_pos (show (0 : Nat) = 0 from rfl)]
      · rw [if_neg (nI_ne0 (by omega) (by omega)), if_pos rfl, if_neg c, if_neg c]
    have em : f_X11_spread_L78 M v 1 (nI r) = some (.inl (M1, v + nI s, if s = 0 then 0 else 1, nI (r + 1))) := by
      unfold f_X11_spread_L78
      rw [if_neg (by decide), pu_b3 e2, nI_1]
    have st : ∀ (q : ps_S × Int32), ps_it (fun (a : ps_S × Int32 × Int32 × Int32) => f_X3_run_L42 a.1 a.2.1 a.2.2.1 a.2.2.2) fu (ps_up C1 78 2 (C1 78 2 + (if s = 0 then 0 else 1)), v + nI s, if s = 0 then 1 else 0, nI (r + 1)) = some q → ps_it (fun (a : ps_S × Int32 × Int32 × Int32) => f_X3_run_L42 a.1 a.2.1 a.2.2.1 a.2.2.2) (fu + 1) (C, v, 0, nI r) = some q := by
      intro q hq
      show (f_X3_run_L42 C v 0 (nI r)).bind _ = _
      rw [ec]
      exact hq
    have stm : ∀ (q : ps_S × Int32), ps_it (fun (a : ps_S × Int32 × Int32 × Int32) => f_X11_spread_L78 a.1 a.2.1 a.2.2.1 a.2.2.2) fu (M1, v + nI s, if s = 0 then 0 else 1, nI (r + 1)) = some q → ps_it (fun (a : ps_S × Int32 × Int32 × Int32) => f_X11_spread_L78 a.1 a.2.1 a.2.2.1 a.2.2.2) (fu + 1) (M, v, 1, nI r) = some q := by
      intro q hq
      show (f_X11_spread_L78 M v 1 (nI r)).bind _ = _
      rw [em]
      exact hq
    have f1 : ∀ x y, x ≠ 78 → x ≠ 79 → ps_up C1 78 2 (C1 78 2 + (if s = 0 then 0 else 1)) x y = C x y := fun x y h1 h2 => by rw [pu_up_k h1]; exact j1.2.2.1 x y h2
    by_cases c : s = 0
    · subst c
      obtain ⟨f2, rfl⟩ : ∃ f2, fu = f2 + 1 := ⟨fu - 1, by omega⟩
      refine ⟨ps_up C1 78 2 (C1 78 2 + (if (0 : Nat) = 0 then 0 else 1)), M1, v + nI 0, st _ ?_, stm _ ?_, ?_, f1, j1.2.2.2⟩
      · show (f_X3_run_L42 _ (v + nI 0) (if (0 : Nat) = 0 then 1 else 0) (nI (r + 1))).bind _ = _
        have : ∀ T : ps_S, f_X3_run_L42 T (v + nI 0) (if (0 : Nat) = 0 then 1 else 0) (nI (r + 1)) = some (.inr (T, v + nI 0)) := by
          intro T
          unfold f_X3_run_L42
          rw [if_pos rfl, if_neg (show ¬ (1 : Int32) = 0 by decide), ite_self]
        rw [this]
        rfl
      · show (f_X11_spread_L78 M1 (v + nI 0) (if (0 : Nat) = 0 then 0 else 1) (nI (r + 1))).bind _ = _
        unfold f_X11_spread_L78
        rw [if_pos rfl, if_pos rfl]
        rfl
      · rw [pu_up_same, if_pos rfl, Int32.add_zero, j1.2.2.1 _ _ (by omega), h78, k1, if_pos rfl, h80]
    · have P1 : rl_P np id so on kp (ps_up C1 78 2 (C1 78 2 + (if s = 0 then 0 else 1))) M1 := rp_congr P (fun a b h => f1 a b (by omega) (by omega)) (j1.2.2.2 _ _ (by omega) (by omega)) (fun a b h1 h2 => j1.2.2.2 a b (by omega) (by omega))
      have e78 : ps_up C1 78 2 (C1 78 2 + (if s = 0 then 0 else 1)) 78 2 = nI (r + 1 - 1) := by
        rw [pu_up_same, if_neg c, j1.2.2.1 _ _ (by omega), h78, nI_1]
        congr 1
        omega
      have e80 : M1 80 26 = nI (r + 1 - 1) := by
        rw [k1, if_neg c]
        rfl
      have hJ : sp_J np g1 (ps_up C1 78 2 (C1 78 2 + (if s = 0 then 0 else 1))) M1 (ps_up C1 78 2 (C1 78 2 + (if s = 0 then 0 else 1))) M1 := ⟨fun x hx => by rw [pu_up_k (by omega)]; exact j1.1 x hx, fun x h1 h2 => by rw [pu_up_k (by omega)]; exact j1.2.1 x h1 h2, fun _ _ _ => rfl, fun _ _ _ _ => rfl⟩
      obtain ⟨C2, M2, w, x1, x2, x3, x4, x5⟩ := sp_rounds f (r + 1) _ M1 g1 (v + nI s) (by omega) (by omega) P1 hJ (by omega) e78 e80 fu (by omega)
      refine ⟨C2, M2, w, st _ ?_, stm _ ?_, x3, fun x y h1 h2 => (x4 x y h1 h2).trans (f1 x y h1 h2), fun x y h1 h2 => (x5 x y h1 h2).trans (j1.2.2.2 x y h1 h2)⟩
      · rw [if_neg (show ¬ s = 0 from c)] at x1 ⊢
        rw [if_neg (show ¬ s = 0 from c)]
        exact x1
      · rw [if_neg (show ¬ s = 0 from c)]
        exact x2
theorem op_spread {nf c : Nat} {D : Nat → Nat → Nat} {ow : Nat → Nat} (Q : rl_Q np id so on kp nf ow D c S S) (x : Int32) : op_K c S (f_cmp (fun r => r) (f_L_spread S x) (fun S => f_X11_spread S x)) := by
  unfold f_L_spread
  have hn := Q.1.1.1
  by_cases hx : ∃ p, p < np ∧ x = nI p
  · obtain ⟨p, hp, rfl⟩ := hx
    rcases rp_on Q.1 hp with e | e
    · refine op_no (e := 2) (k := 2) Q ?_ rfl (by decide) ?_
      · unfold f_X10_spread
        rw [pu_bxr (np_ok Q.1 hp), pu_bxl (no_no Q.1 hp e)]
      · show f_X11_spread S (nI p) = _
        unfold f_X11_spread f_X11_spread_J29
        rw [mp_is Q.1.2.2.1 hn hp, pu_sb, if_neg (by decide), if_pos (pu_ib (by omega) (by omega)), nI_clamp (by omega), mp_on Q.1 hp, if_pos e]
        exact pu_no (by decide) _ (if_pos rfl)
    · -- the class's row, laid anew
      have lc := pu_ind0 (step := fun (a : ps_S × Int32) => f_X3_run_L2 (nI p) a.1 a.2) (a := (S, 0))
        (fun j a => a.2 = nI j ∧ (∀ x, x < j → a.1 79 x = if x = p then 0 else -1) ∧ ∀ x y, x ≠ 79 → a.1 x y = S x y)
        (fun b => (∀ x, x < 16 → b 79 x = if x = p then 0 else -1) ∧ ∀ x y, x ≠ 79 → b x y = S x y) 16 (by omega) ⟨rfl, fun x hx => absurd hx (by omega), fun _ _ _ => rfl⟩ ?_ ?_
      · obtain ⟨C1, e1, c1, f1⟩ := lc
        refine op_yes Q (fun M QM => ?_)
        have Q0 := rq_0 QM (v := 0)
        have lm := pu_ind0 (step := fun (a : ps_S × Int32) => f_X11_spread_L39 a.1 a.2) (a := (ps_up M 80 0 0, 0))
          (fun j a => a.2 = nI j ∧ (∀ x, x < j → a.1 100 x = -1) ∧ ∀ x y, x ≠ 100 → a.1 x y = ps_up M 80 0 0 x y)
          (fun b => (∀ x, x < 16 → b 100 x = -1) ∧ ∀ x y, x ≠ 100 → b x y = ps_up M 80 0 0 x y) 16 (by omega) ⟨rfl, fun x hx => absurd hx (by omega), fun _ _ _ => rfl⟩ ?_ ?_
        · obtain ⟨M1, e2, c2, f2⟩ := lm
          have fC : ∀ x y, x ≠ 79 → ¬ (x = 78 ∧ y = 2) → ps_up C1 78 2 0 x y = S x y := fun x y h1 h2 => by
            show (if x = 78 ∧ y = 2 then _ else _) = _
            rw [if_neg h2]; exact f1 x y h1
          have fM : ∀ x y, x ≠ 100 → ¬ (x = 80 ∧ y = 26) → ps_up (ps_up M1 100 p 0) 80 26 0 x y = ps_up M 80 0 0 x y := fun x y h1 h2 => by
            show (if x = 80 ∧ y = 26 then _ else _) = _
            rw [if_neg h2, pu_up_k h1]; exact f2 x y h1
          have P1 : rl_P np id so on kp (ps_up C1 78 2 0) (ps_up (ps_up M1 100 p 0) 80 26 0) := rp_congr Q0.1 (fun a b h => fC a b (by omega) (by omega)) (fM _ _ (by omega) (by omega)) (fun a b h1 h2 => fM a b (by omega) (by omega))
          have hJ : sp_J np (fun x => if x = p then 0 else -1) (ps_up C1 78 2 0) (ps_up (ps_up M1 100 p 0) 80 26 0) (ps_up C1 78 2 0) (ps_up (ps_up M1 100 p 0) 80 26 0) := by
            refine ⟨fun x hx => ⟨by rw [pu_up_k (by omega)]; exact c1 x (by omega), ?_⟩, fun x h1 h2 => by rw [pu_up_k (by omega), c1 x h2, if_neg (by omega)], fun _ _ _ => rfl, fun _ _ _ _ => rfl⟩
            rw [pu_up_k (by omega)]
            dsimp only
            by_cases ex : x = p
            · rw [if_pos ex, ex, pu_up_same]
            · rw [if_neg ex, pu_up_i ex]; exact c2 x (by omega)
          have hcnt : 1 ≤ pu_cnt (sp_got (fun x => if x = p then 0 else -1)) np := by
            have := cnt_add (f := fun _ => false) (g := sp_got (fun x => if x = p then 0 else -1)) (a := p) (n := np) (fun x hx => by
              unfold sp_got
              by_cases ex : x = p
              · simp [ex]
              · simp [ex]) hp rfl
            omega
          obtain ⟨C2, M2, w, x1, x2, x3, x4, x5⟩ := sp_rounds 16 1 (ps_up C1 78 2 0) (ps_up (ps_up M1 100 p 0) 80 26 0) _ 0 (by omega) (by omega) P1 hJ hcnt (pu_up_same _ _ _ _) (pu_up_same _ _ _ _) ps_fu (by unfold ps_fu; omega)
          have gC : ∀ x y, x ≠ 78 → x ≠ 79 → C2 x y = S x y := fun x y h1 h2 => (x4 x y h1 h2).trans (fC x y h2 (by omega))
          have gM : ∀ x y, x ≠ 100 → ¬ (x = 80 ∧ y = 26) → M2 x y = ps_up M 80 0 0 x y := fun x y h1 h2 => (x5 x y h1 h2).trans (fM x y h1 h2)
          refine ⟨C2, w, M2, ?_, fun a b h1 h2 => gC a b (by omega) (by omega), ?_, by rw [gM _ _ (by omega) (by omega), pu_up_same], fun a b h => by rw [gM a b (by omega) (by omega), pu_up_k (by omega)], ?_, gC _ _ (by omega) (by omega)⟩
          · unfold f_X10_spread f_X3_run
            rw [pu_bxr (np_ok Q.1 hp), pu_bxr (no_ok Q.1 hp e), e1, pu_sb]
            have x1 : ps_it (fun (a : ps_S × Int32 × Int32 × Int32) => f_X3_run_L42 a.1 a.2.1 a.2.2.1 a.2.2.2) ps_fu (ps_up C1 78 2 0, 0, 0, 1) = some (C2, w) := x1
            rw [pu_b2 x1, pu_b2 rfl]
          · unfold f_X11_spread f_X11_spread_J29
            have x2 : ps_it (fun (a : ps_S × Int32 × Int32 × Int32) => f_X11_spread_L78 a.1 a.2.1 a.2.2.1 a.2.2.2) ps_fu (ps_up (ps_up M1 100 p 0) 80 26 0, 0, 1, 1) = some (M2, w) := x2
            rw [mp_is QM.1.2.2.1 hn hp, pu_sb, if_neg (by decide), if_pos (pu_ib (by omega) (by omega)), nI_clamp (by omega), mp_on QM.1 hp, e, if_neg (by decide), pu_b2 (pu_h0 M), if_neg (by decide), e2, pu_sb, if_pos (pu_ib (by omega) (by omega)), pu_b2 x2]
          · obtain ⟨P, O, N, DD, F⟩ := Q0
            refine rl_up (rq_R ⟨rp_congr P (fun a b h => gC a b (by omega) (by omega)) (gM _ _ (by omega) (by omega)) (fun a b h1 h2 => gM a b (by omega) (by omega)), ⟨?_, x3, ?_⟩, rn_congr N (fun a b h1 h2 => gC a b (by omega) (by omega)) (fun a b h1 h2 => gM a b (by omega) (by omega)), rd_congr DD (fun a b h1 h2 => gC a b (by omega) (by omega)) (fun b => gM _ b (by omega) (by omega)), rf_congr F (gC _ _ (by omega) (by omega)) (fun b => gC _ b (by omega) (by omega)) (fun a b h => gC a b (by omega) (by omega)) (gM _ _ (by omega) (by omega)) (fun a b h1 h2 => gM a b (by omega) (by omega))⟩)
            · rw [gC _ _ (by omega) (by omega), gM _ _ (by omega) (by omega)]; exact O.1
            · rw [gC _ _ (by omega) (by omega), gM _ _ (by omega) (by omega)]; exact O.2.2
        · rintro j ⟨T, v⟩ hj ⟨hv, hz, f⟩
          dsimp only at hv hz f ⊢
          subst hv
          unfold f_X11_spread_L39
          rw [if_neg (by rw [pu_i16]; exact nI_ge hj (by omega)), if_pos (pu_ib (by omega) (by omega)), nI_clamp (by omega), nI_1]
          refine ⟨_, rfl, rfl, fun x hx => ?_, fun x y hx => by rw [← f x y hx]; exact pu_up_k hx⟩
          dsimp only
          by_cases ex : x = j
          · rw [ex, pu_up_same]
          · rw [pu_up_i ex]; exact hz x (by omega)
        · rintro ⟨T, v⟩ ⟨hv, hz, f⟩
          dsimp only at hv hz f ⊢
          subst hv
          refine ⟨T, ?_, hz, f⟩
          unfold f_X11_spread_L39
          rw [if_pos (by decide)]
      · rintro j ⟨T, v⟩ hj ⟨hv, hz, f⟩
        dsimp only at hv hz f ⊢
        subst hv
        have put : ∀ s : Int32, (s = if j = p then 0 else -1) → ∃ a', f_X3_run_J23 T (nI j) s = some (.inl a') ∧ a'.2 = nI (j + 1) ∧ (∀ x, x < j + 1 → a'.1 79 x = if x = p then 0 else -1) ∧ ∀ x y, x ≠ 79 → a'.1 x y = S x y := by
          intro s hs
          unfold f_X3_run_J23
          rw [if_pos (pu_ib (by omega) (by omega)), nI_clamp (by omega), nI_1]
          refine ⟨_, rfl, rfl, fun x hx => ?_, fun x y hx => by rw [← f x y hx]; exact pu_up_k hx⟩
          dsimp only
          by_cases ex : x = j
          · rw [ex, pu_up_same, hs]
          · rw [pu_up_i ex]; exact hz x (by omega)
        unfold f_X3_run_L2
        rw [if_neg (by rw [pu_i16]; exact nI_ge hj (by omega))]
        by_cases ex : j = p
        · rw [if_pos (by rw [ex])]; exact put 0 (by rw [if_pos ex])
        · rw [if_neg (fun q => ex (pu_inj (by omega) (by omega) q))]; exact put (-1) (by rw [if_neg ex])
      · rintro ⟨T, v⟩ ⟨hv, hz, f⟩
        dsimp only at hv hz f ⊢
        subst hv
        refine ⟨T, ?_, hz, f⟩
        unfold f_X3_run_L2
        rw [if_pos (by decide)]
  · refine op_no (e := 1) (k := 1) Q ?_ rfl (by decide) ?_
    · unfold f_X10_spread
      rw [pu_bxl (np_no Q.1 hx)]
    · show f_X11_spread S x = _
      unfold f_X11_spread f_X11_spread_J29
      rw [mp_isno Q.1.2.2.1 Q.1.1.1 hx, pu_sb, if_pos rfl]
      exact pu_no (by decide) _ (if_pos rfl)
end
