/-! storing a piece -/
theorem pu_twox {α β γ δ : Type} {s1 : α → Option (α ⊕ γ)} {s2 : β → Option (β ⊕ δ)} (I : Nat → α → β → Prop) (Q : γ → δ → Prop) (m : Nat) (h1 : ∀ j a b, j < m → I j a b → (∃ a' b', s1 a = some (.inl a') ∧ s2 b = some (.inl b') ∧ I (j + 1) a' b') ∨ ∃ c d, s1 a = some (.inr c) ∧ s2 b = some (.inr d) ∧ Q c d) (h2 : ∀ a b, I m a b → ∃ c d, s1 a = some (.inr c) ∧ s2 b = some (.inr d) ∧ Q c d) : ∀ (t j : Nat) (a : α) (b : β), j + t = m → I j a b → ∀ fuel, t < fuel → ∃ c d, ps_it s1 fuel a = some c ∧ ps_it s2 fuel b = some d ∧ Q c d
  | 0, j, a, b, hj, hI, fuel, hf => by
    obtain ⟨f, rfl⟩ : ∃ f, fuel = f + 1 := ⟨fuel - 1, by omega⟩
    have hj : j = m := by omega
    rw [hj] at hI
    obtain ⟨c, d, hc, hd, hq⟩ := h2 a b hI
    exact ⟨c, d, it_r hc, it_r hd, hq⟩
  | t + 1, j, a, b, hj, hI, fuel, hf => by
    obtain ⟨f, rfl⟩ : ∃ f, fuel = f + 1 := ⟨fuel - 1, by omega⟩
    rcases h1 j a b (by omega) hI with ⟨a', b', ha, hb, hI'⟩ | ⟨c, d, hc, hd, hq⟩
    · obtain ⟨c, d, hc, hd, hq⟩ := pu_twox I Q m h1 h2 t (j + 1) a' b' (by omega) hI' f (by omega)
      exact ⟨c, d, it_l ha hc, it_l hb hd, hq⟩
    · exact ⟨c, d, it_r hc, it_r hd, hq⟩
theorem pu_twox0 {α β γ δ : Type} {s1 : α → Option (α ⊕ γ)} {s2 : β → Option (β ⊕ δ)} {a : α} {b : β} (I : Nat → α → β → Prop) (Q : γ → δ → Prop) (m : Nat) (hm : m < 20000) (h0 : I 0 a b) (h1 : ∀ j a b, j < m → I j a b → (∃ a' b', s1 a = some (.inl a') ∧ s2 b = some (.inl b') ∧ I (j + 1) a' b') ∨ ∃ c d, s1 a = some (.inr c) ∧ s2 b = some (.inr d) ∧ Q c d) (h2 : ∀ a b, I m a b → ∃ c d, s1 a = some (.inr c) ∧ s2 b = some (.inr d) ∧ Q c d) : ∃ c d, ps_it s1 ps_fu a = some c ∧ ps_it s2 ps_fu b = some d ∧ Q c d := pu_twox I Q m h1 h2 m 0 a b (by omega) h0 ps_fu (by unfold ps_fu; omega)
theorem pu_and255 (x : Int32) : x &&& 255 = nI (x.toBitVec.toNat % 256) := by
  apply Int32.toBitVec_inj.1
  show x.toBitVec &&& (255 : Int32).toBitVec = BitVec.ofNat 32 (x.toBitVec.toNat % 256)
  apply BitVec.eq_of_toNat_eq
  rw [BitVec.toNat_and, BitVec.toNat_ofNat, show (255 : Int32).toBitVec.toNat = 2 ^ 8 - 1 from rfl, Nat.and_two_pow_sub_one_eq_mod]
  show x.toBitVec.toNat % 256 = x.toBitVec.toNat % 256 % 2 ^ 32
  exact (Nat.mod_eq_of_lt (by omega)).symm
def pu_by (x : Int32) : Nat := x.toBitVec.toNat % 256
theorem pu_by_lt (x : Int32) : pu_by x < 256 := Nat.mod_lt _ (by decide)
theorem find_take {L : List Nat} {p : Nat → Bool} {j a : Nat} (h : (L.take j).find? p = none) (ha : L[j]? = some a) (hp : p a = true) : L.find? p = some a := by
  obtain ⟨hj, e⟩ := List.getElem?_eq_some_iff.mp ha
  have : L = L.take j ++ a :: L.drop (j + 1) := by
    rw [← e, ← List.drop_eq_getElem_cons hj, List.take_append_drop]
  rw [this, List.find?_append, h]
  simp [hp]
theorem find_take1 {L : List Nat} {p : Nat → Bool} {j a : Nat} (h : (L.take j).find? p = none) (ha : L[j]? = some a) (hp : p a = false) : (L.take (j + 1)).find? p = none := by
  rw [List.take_add_one, List.find?_append, h, ha]
  simp [hp]
theorem find_take2 {L : List Nat} {p : Nat → Bool} {j a : Nat} (h : (L.take j).find? p = none) (ha : L[j]? = some a) (hp : p a = true) : (L.take (j + 1)).find? p = some a := by
  rw [List.take_add_one, List.find?_append, h, ha]
  simp [hp]
theorem find_take3 {L : List Nat} {p : Nat → Bool} {j a : Nat} (h : (L.take j).find? p = some a) : L.find? p = some a := by
  have : L = L.take j ++ L.drop j := (List.take_append_drop j L).symm
  rw [this, List.find?_append, h]
  rfl
section
variable {np nf c B f o k : Nat} {id so on : Nat → Int32} {kp : Nat → Nat → List Nat} {C M C' M' S T : ps_S} {D : Nat → Nat → Nat} {ow : Nat → Nat}
theorem cf_heldBy (x : Int32) : f_X8_isHeldBy C (103 + 7 * f) x = some (if (List.range 6).any (fun n => decide (C (104 + 7 * f) n = x)) = true then 1 else 0) := by
  unfold f_X8_isHeldBy
  have loop := pu_indx0 (step := fun (a : Int32) => f_X8_isHeldBy_L11 C (103 + 7 * f) x a) (a := 0) (fun j a => a = nI j ∧ (List.range j).any (fun n => decide (C (104 + 7 * f) n = x)) = false)
    (fun b => (b = .inl () ∧ (List.range 6).any (fun n => decide (C (104 + 7 * f) n = x)) = false) ∨ (b = .inr 1 ∧ (List.range 6).any (fun n => decide (C (104 + 7 * f) n = x)) = true)) 6 (by omega) ⟨rfl, by simp⟩ ?_ ?_
  · obtain ⟨b, e, q⟩ := loop
    rw [e]
    rcases q with ⟨rfl, q⟩ | ⟨rfl, q⟩
    · rw [q]; rfl
    · rw [q]; rfl
  · rintro j a hj ⟨rfl, h⟩
    unfold f_X8_isHeldBy_L11
    rw [if_neg (lit_ge (x := 6) (n := 6) rfl hj (by omega)), if_pos (pu_ib (by omega) (by omega)), nI_clamp (by omega), fk1]
    by_cases e : C (104 + 7 * f) j = x
    · rw [if_pos e]
      refine Or.inr ⟨_, rfl, Or.inr ⟨rfl, ?_⟩⟩
      simp only [List.any_eq_true, List.mem_range, decide_eq_true_eq]
      exact ⟨j, hj, e⟩
    · rw [if_neg e]
      refine Or.inl ⟨_, rfl, nI_1 j, ?_⟩
      rw [List.range_succ, List.any_append, h]
      simp [e]
  · rintro a ⟨rfl, h⟩
    unfold f_X8_isHeldBy_L11
    rw [if_pos (by decide)]
    exact ⟨_, rfl, Or.inl ⟨rfl, h⟩⟩
def st_ok (H : Nat → Int32) (o a : Nat) : Bool := decide (a ≠ o) && !(List.range 6).any (fun n => decide (H n = nI a))
theorem cf_free {L : List Nat} (hL : L.length ≤ 3 ∧ ∀ a ∈ L, a < np) (hn : np ≤ 16) (ho : o < np) (hC : C (103 + 7 * f) 0 = nI o) (hat : ∀ i, i < 3 → f_X6_at C 29 (nI i) = some (pu_enc L[i]?)) : f_X1_firstFree C (103 + 7 * f) = some (pu_enc (L.find? (st_ok (fun n => C (104 + 7 * f) n) o))) := by
  unfold f_X1_firstFree
  have loop := pu_indx0 (step := fun (a : Int32) => f_X1_firstFree_L2 C (103 + 7 * f) a) (a := 0) (fun j a => a = nI j ∧ (L.take j).find? (st_ok (fun n => C (104 + 7 * f) n) o) = none)
    (fun b => (b = .inl () ∧ L.find? (st_ok (fun n => C (104 + 7 * f) n) o) = none) ∨ ∃ x, b = .inr (nI x) ∧ L.find? (st_ok (fun n => C (104 + 7 * f) n) o) = some x) 3 (by omega) ⟨rfl, by simp⟩ ?_ ?_
  · obtain ⟨b, e, q⟩ := loop
    rw [e]
    rcases q with ⟨rfl, q⟩ | ⟨x, rfl, q⟩
    · rw [q]; rfl
    · rw [q]; rfl
  · rintro j a hj ⟨rfl, h⟩
    unfold f_X1_firstFree_L2 f_X1_firstFree_J42 f_X8_owner
    rw [if_neg (lit_ge (x := 3) (n := 3) rfl hj (by omega)), hat j hj, pu_sb, nI_1]
    cases h9 : L[j]? with
    | none =>
      refine Or.inl ⟨_, if_pos rfl, rfl, ?_⟩
      rw [List.take_add_one, h9]
      simpa using h
    | some a =>
      have ha := hL.2 a (List.mem_of_getElem? h9)
      rw [show pu_enc (some a) = nI a from rfl, if_neg (pu_ne1 (by omega)), pu_sb, hC]
      by_cases e : a = o
      · rw [if_pos (by rw [e])]
        exact Or.inl ⟨_, rfl, rfl, find_take1 h h9 (by unfold st_ok; simp [e])⟩
      · rw [if_neg (fun q => e (pu_inj (by omega) (by omega) q)), cf_heldBy, pu_sb]
        cases hb : (List.range 6).any (fun n => decide (C (104 + 7 * f) n = nI a)) with
        | true =>
          rw [if_pos rfl, if_neg (by decide)]
          exact Or.inl ⟨_, rfl, rfl, find_take1 h h9 (by unfold st_ok; rw [hb]; simp)⟩
        | false =>
          rw [pu_ff, if_pos rfl]
          exact Or.inr ⟨_, rfl, Or.inr ⟨a, rfl, find_take h h9 (by unfold st_ok; rw [hb]; simp [e])⟩⟩
  · rintro a ⟨rfl, h⟩
    unfold f_X1_firstFree_L2
    rw [if_pos (by decide)]
    rw [List.take_of_length_le hL.1] at h
    exact ⟨_, rfl, Or.inl ⟨rfl, h⟩⟩
theorem mf_can {j a : Nat} (hf : f < 12) (hj : j < 3) (h90 : M 90 j = nI a) {s : Int32} (hs : s = 0 ∨ s = 1) : ps_it (fun (x : Int32 × Int32) => f_X11_stores_L105 (nI f) M (nI j) x.1 x.2) ps_fu (s, 0) = some (if (decide (s = 1) && !(List.range 6).any (fun n => decide (M 93 (6 * f + n) = nI a))) = true then 1 else 0) := by
  have loop := pu_it0 (step := fun (x : Int32 × Int32) => f_X11_stores_L105 (nI f) M (nI j) x.1 x.2) (b := if (decide (s = 1) && !(List.range 6).any (fun n => decide (M 93 (6 * f + n) = nI a))) = true then 1 else 0) (fun t => (if (decide (s = 1) && !(List.range t).any (fun n => decide (M 93 (6 * f + n) = nI a))) = true then 1 else 0, nI t)) 6 ?_ ?_ (by omega)
  · have e0 : (if (decide (s = 1) && !(List.range 0).any (fun n => decide (M 93 (6 * f + n) = nI a))) = true then (1 : Int32) else 0) = s := by
      rcases hs with rfl | rfl
      · rfl
      · rfl
    have e1 : ps_it (fun (x : Int32 × Int32) => f_X11_stores_L105 (nI f) M (nI j) x.1 x.2) ps_fu (if (decide (s = 1) && !(List.range 0).any (fun n => decide (M 93 (6 * f + n) = nI a))) = true then (1 : Int32) else 0, nI 0) = _ := loop
    rw [e0] at e1
    exact e1
  · intro t ht
    show f_X11_stores_L105 (nI f) M (nI j) _ (nI t) = _
    unfold f_X11_stores_L105 f_X11_stores_J144
    rw [if_neg (lit_ge (x := 6) (n := 6) rfl ht (by omega)), List.range_succ, List.any_append, nI_1, pu_x6]
    simp only [List.any_cons, List.any_nil, Bool.or_false]
    cases hq : (decide (s = 1) && !(List.range t).any (fun n => decide (M 93 (6 * f + n) = nI a))) with
    | false =>
      rw [pu_ff, if_pos rfl]
      have : (decide (s = 1) && !((List.range t).any (fun n => decide (M 93 (6 * f + n) = nI a)) || decide (M 93 (6 * f + t) = nI a))) = false := by
        rw [Bool.not_or, ← Bool.and_assoc, hq, Bool.false_and]
      rw [this]
      rfl
    | true =>
      rw [if_pos rfl, if_neg (by decide), if_pos (pu_ib (by omega) (by omega)), if_pos (pu_ib (by omega) (by omega)), nI_clamp (by omega), nI_clamp (by omega), h90]
      by_cases e : M 93 (6 * f + t) = nI a
      · rw [if_pos e]; simp [e]
      · rw [if_neg e]
        have : (decide (s = 1) && !((List.range t).any (fun n => decide (M 93 (6 * f + n) = nI a)) || decide (M 93 (6 * f + t) = nI a))) = true := by
          rw [Bool.not_or, ← Bool.and_assoc, hq]
          simp [e]
        rw [this]
        rfl
  · show f_X11_stores_L105 (nI f) M (nI j) _ (nI 6) = _
    unfold f_X11_stores_L105
    rw [if_pos (by decide)]
theorem mf_store {L : List Nat} (hL : L.length ≤ 3 ∧ ∀ a ∈ L, a < np) (hn : np ≤ 16) (ho : o < np) (hf : f < 12) (hk : k < 6) (h91 : M 91 f = nI o) (h93 : M 93 (6 * f + k) = -1) (h82 : ∀ x, x < np → M 82 x = so x) (h13 : M 80 13 = nI L.length) (h90 : ∀ i a, L[i]? = some a → M 90 i = nI a) : ps_it (fun (a : ps_S × Int32) => f_X11_stores_L60 (nI f) (nI (6 * f + k)) a.1 a.2) ps_fu (M, 0) = some (match L.find? (st_ok (fun n => M 93 (6 * f + n)) o) with
    | none => M
    | some a => ps_up (ps_up M 93 (6 * f + k) (nI a)) 94 (6 * f + k) (if so a = 0 then 1 else 0)) := by
  have loop := pu_indx0 (step := fun (a : ps_S × Int32) => f_X11_stores_L60 (nI f) (nI (6 * f + k)) a.1 a.2) (a := (M, 0))
    (fun j a => a.2 = nI j ∧ (((L.take j).find? (st_ok (fun n => M 93 (6 * f + n)) o) = none ∧ a.1 = M) ∨ ∃ x, x < np ∧ (L.take j).find? (st_ok (fun n => M 93 (6 * f + n)) o) = some x ∧ a.1 = ps_up (ps_up M 93 (6 * f + k) (nI x)) 94 (6 * f + k) (if so x = 0 then 1 else 0)))
    (fun b => b = (match L.find? (st_ok (fun n => M 93 (6 * f + n)) o) with
    | none => M
    | some a => ps_up (ps_up M 93 (6 * f + k) (nI a)) 94 (6 * f + k) (if so a = 0 then 1 else 0))) L.length (by omega) ⟨rfl, Or.inl ⟨by simp, rfl⟩⟩ ?_ ?_
  · obtain ⟨b, e, q⟩ := loop
    rw [e, q]
  · rintro j ⟨T, v⟩ hj ⟨hv, h⟩
    dsimp only at hv h ⊢
    subst hv
    have ib := pu_ib (i := 6 * f + k) (n := 72) (by omega) (by omega)
    have cl := nI_clamp (n := 6 * f + k) (by omega)
    have ibf := pu_ib (i := f) (n := 12) (by omega) (by omega)
    have ibj := pu_ib (i := j) (n := 3) (by omega) (by omega)
    rcases h with ⟨h, rfl⟩ | ⟨x, hx, h, rfl⟩
    · obtain ⟨a, ha⟩ : ∃ a, L[j]? = some a := ⟨_, List.getElem?_eq_getElem hj⟩
      have hap := hL.2 a (List.mem_of_getElem? ha)
      unfold f_X11_stores_L60
      rw [h13, if_neg (nI_ge hj (by omega)), if_pos ib, cl, if_pos h93, if_pos ibj, if_pos ibf, nI_clamp (n := j) (by omega), nI_clamp (n := f) (by omega), h90 j a ha, h91]
      have fin : ∀ s : Int32, (s = 0 ∨ s = 1) → (decide (s = 1) = decide (a ≠ o)) → (∃ a', f_X11_stores_J100 (nI f) (nI (6 * f + k)) T (nI j) s = some (.inl a') ∧ a'.2 = nI (j + 1) ∧ (((L.take (j + 1)).find? (st_ok (fun n => T 93 (6 * f + n)) o) = none ∧ a'.1 = T) ∨ ∃ x, x < np ∧ (L.take (j + 1)).find? (st_ok (fun n => T 93 (6 * f + n)) o) = some x ∧ a'.1 = ps_up (ps_up T 93 (6 * f + k) (nI x)) 94 (6 * f + k) (if so x = 0 then 1 else 0))) := by
        intro s hs hso
        unfold f_X11_stores_J100 f_X11_stores_J196 f_X11_stores_J195
        rw [mf_can hf (by omega) (h90 j a ha) hs, pu_sb, hso, nI_1]
        show ∃ a', (if (if st_ok (fun n => T 93 (6 * f + n)) o a = true then (1 : Int32) else 0) = 0 then _ else _) = _ ∧ _
        cases hq : st_ok (fun n => T 93 (6 * f + n)) o a with
        | false =>
          rw [pu_ff, if_pos rfl]
          exact ⟨_, rfl, rfl, Or.inl ⟨find_take1 h ha hq, rfl⟩⟩
        | true =>
          rw [if_pos rfl, if_neg (by decide), if_pos ibj, if_pos ib, if_pos ibj, cl, nI_clamp (n := j) (by omega), h90 j a ha, pu_up_k (a := 90) (by omega), h90 j a ha, if_pos (pu_ib (by omega) (by omega)), nI_clamp (n := a) (by omega), pu_up_k (a := 82) (by omega), h82 a hap]
          by_cases cs : so a = 0
          · rw [if_pos cs, if_pos ib]
            exact ⟨_, rfl, nI_1 j, Or.inr ⟨a, hap, find_take2 h ha hq, by dsimp only; rw [if_pos cs, pu_nb1]⟩⟩
          · rw [if_neg cs, if_pos ib]
            exact ⟨_, rfl, nI_1 j, Or.inr ⟨a, hap, find_take2 h ha hq, by dsimp only; rw [if_neg cs, pu_nb0]⟩⟩
      by_cases e : a = o
      · rw [if_pos (by rw [e])]
        exact Or.inl (fin 0 (Or.inl rfl) (by simp [e]))
      · rw [if_neg (fun q => e (pu_inj (by omega) (by omega) q))]
        exact Or.inl (fin 1 (Or.inr rfl) (by simp [e]))
    · unfold f_X11_stores_L60
      rw [pu_up_k (a := 80) (by omega), pu_up_k (a := 80) (by omega), h13, if_neg (nI_ge hj (by omega)), if_pos ib, cl, pu_up_k (a := 93) (by omega), pu_up_same, if_neg (pu_ne1 (by omega))]
      exact Or.inr ⟨_, rfl, by rw [find_take3 h]⟩
  · rintro ⟨T, v⟩ ⟨hv, h⟩
    dsimp only at hv h ⊢
    subst hv
    rw [List.take_of_length_le (Nat.le_refl _)] at h
    unfold f_X11_stores_L60
    rcases h with ⟨h, rfl⟩ | ⟨x, hx, h, rfl⟩
    · rw [h13, if_pos (nI_le (Nat.le_refl _) (by omega))]
      exact ⟨_, rfl, by rw [h]⟩
    · rw [pu_up_k (a := 80) (by omega), pu_up_k (a := 80) (by omega), h13, if_pos (nI_le (Nat.le_refl _) (by omega))]
      exact ⟨_, rfl, by rw [h]⟩
/-- what a storing leaves as it is -/
def st_fr (f k : Nat) (C C' M M' : ps_S) : Prop := (∀ a b, (a < 6 ∨ 36 ≤ a) → a ≠ 104 + 7 * f → a ≠ 105 + 7 * f → a ≠ 106 + 7 * f → C' a b = C a b) ∧ (∀ a b, ¬ (84 ≤ a ∧ a ≤ 90) → ¬ (a = 80 ∧ (b = 13 ∨ b = 14)) → ¬ (93 ≤ a ∧ a ≤ 95 ∧ b = 6 * f + k) → M' a b = M a b)
theorem sim_store (Q : rl_Q np id so on kp nf ow D c C M) (hf : f < nf) (hk : k < 6) (hh : M 93 (6 * f + k) = -1) : ∃ C' M' kp', f_X1_storeMissing_L2 (103 + 7 * f) C (nI k) = some (.inl (C', nI (k + 1))) ∧ f_X11_stores M (nI f) (nI k) = some M' ∧ rl_Q np id so on kp' nf ow D c C' M' ∧ st_fr f k C C' M M' := by
  have hn := Q.1.1.1
  have hnf := Q.2.2.2.2.1.1
  obtain ⟨V, H⟩ := Q.2.2.2.2.2.2.1 f hf
  obtain ⟨⟨ho, hCo, hMo⟩, -, hval, htree⟩ := V
  have hkey := htree.1 k hk
  dsimp only at hkey
  rw [hval k hk] at hkey
  have hby := pu_and255 (pu_h (M 92 (6 * f + k)) (nI k))
  have hlt : (pu_h (M 92 (6 * f + k)) (nI k)).toBitVec.toNat % 256 < 256 := Nat.mod_lt _ (by decide)
  generalize (pu_h (M 92 (6 * f + k)) (nI k)).toBitVec.toNat % 256 = key at hby hlt
  obtain ⟨C1, M1, kp', L, e1, e2, P', h6, hL, hat, hdig, h13, h90, fC, gM⟩ := rl_look Q.1 ho hlt (Or.inr rfl)
  have Q1 := rq_look Q P' h6 fC gM
  have ib := pu_ib (i := 6 * f + k) (n := 72) (by omega) (by omega)
  have cl := nI_clamp (n := 6 * f + k) (by omega)
  have g93 : ∀ b, M1 93 b = M 93 b := fun b => gM 93 b (by omega) (by omega)
  have g94 : ∀ b, M1 94 b = M 94 b := fun b => gM 94 b (by omega) (by omega)
  have g95 : ∀ b, M1 95 b = M 95 b := fun b => gM 95 b (by omega) (by omega)
  obtain ⟨M2, hM2⟩ : ∃ M2, M2 = ps_up (ps_up (ps_up M1 93 (6 * f + k) (-1)) 95 (6 * f + k) 0) 94 (6 * f + k) 0 := ⟨_, rfl⟩
  have u2 : ∀ a b, ¬ (93 ≤ a ∧ a ≤ 95 ∧ b = 6 * f + k) → M2 a b = M1 a b := fun a b h => by
    rw [hM2]
    show (if a = 94 ∧ b = 6 * f + k then _ else (if a = 95 ∧ b = 6 * f + k then _ else (if a = 93 ∧ b = 6 * f + k then _ else _))) = _
    rw [if_neg (by omega), if_neg (by omega), if_neg (by omega)]
  have u93 : ∀ b, M2 93 b = M1 93 b := fun b => by
    by_cases e : b = 6 * f + k
    · rw [hM2, pu_up_k (by omega), pu_up_k (by omega), e, pu_up_same, g93, hh]
    · exact u2 93 b (by omega)
  have heq : (fun n => C1 (104 + 7 * f) n) = (fun n => C (104 + 7 * f) n) := funext fun n => fC _ _ (by omega)
  have hany : ∀ a, (List.range 6).any (fun n => decide (C1 (104 + 7 * f) n = nI a)) = (List.range 6).any (fun n => decide (M2 93 (6 * f + n) = nI a)) := by
    intro a
    rw [Bool.eq_iff_iff]
    simp only [List.any_eq_true, List.mem_range, decide_eq_true_eq]
    constructor
    · rintro ⟨n, hn, e⟩
      refine ⟨n, hn, ?_⟩
      rw [u93, g93, ← (H n hn).1.1, ← fC (104 + 7 * f) n (by omega)]
      exact e
    · rintro ⟨n, hn, e⟩
      refine ⟨n, hn, ?_⟩
      rw [u93, g93, ← (H n hn).1.1, ← fC (104 + 7 * f) n (by omega)] at e
      exact e
  have hst : st_ok (fun n => C1 (104 + 7 * f) n) (ow f) = st_ok (fun n => M2 93 (6 * f + n)) (ow f) := by
    funext a
    unfold st_ok
    rw [hany a]
  have free := cf_free (f := f) (o := ow f) hL hn ho (by rw [fC _ _ (by omega)]; exact hCo) hat
  rw [hst] at free
  have sto := mf_store (M := M2) (f := f) (k := k) (o := ow f) (so := so) hL hn ho (by omega) hk (by rw [u2 _ _ (by omega), gM _ _ (by omega) (by omega)]; exact hMo) (by rw [u93, g93]; exact hh) (fun x hx => by rw [u2 _ _ (by omega)]; exact (P'.2.2.2.1 x hx).2.1) (by rw [u2 _ _ (by omega)]; exact h13) (fun i a h => by rw [u2 _ _ (by omega)]; exact h90 i a h)
  -- the class's steps
  have cls : ∀ (h v : Int32), (v = 0 ∨ v = 1) → f_X1_firstFree C1 (103 + 7 * f) = some h → f_X5_isHonest C1 h = some v → f_X1_storeMissing_L2 (103 + 7 * f) C (nI k) = some (.inl (ps_up (ps_up (ps_up C1 (104 + 7 * f) k h) (105 + 7 * f) k v) (106 + 7 * f) k 0, nI (k + 1))) := by
    intro h v hv hfr hho
    unfold f_X1_storeMissing_L2 f_X1_storeMissing_J53 f_X8_owner
    rw [if_neg (lit_ge (x := 6) (n := 6) rfl hk (by omega)), x8_held hk, pu_sb, (H k hk).1.1, if_pos hh, if_pos rfl, pu_sb, hCo, x8_key hk, pu_sb, hkey, hby]
    have e1 : f_X7_run C (nI (ow f)) (nI key) 2 = some C1 := e1
    rw [e1, pu_sb, hfr, pu_sb, hho, pu_sb, x8_hand hk h hv, pu_sb, nI_1]
  have mst : ∀ M3, ps_it (fun (a : ps_S × Int32) => f_X11_stores_L60 (nI f) (nI (6 * f + k)) a.1 a.2) ps_fu (M2, 0) = some M3 → f_X11_stores M (nI f) (nI k) = some M3 := by
    intro M3 h3
    unfold f_X11_stores f_X11_hash
    rw [pu_lts, pu_x6, if_pos ib, pu_sb, cl, if_pos (pu_ib (by omega) (by omega)), nI_clamp (n := f) (by omega), hMo]
    have hby' : ((((((M 92 (6 * f + k)) * 31) + nI k) * 1103515245) + 12345) ^^^ (ps_ushr ((((((M 92 (6 * f + k)) * 31) + nI k) * 1103515245) + 12345)) 16)) &&& 255 = nI key := hby
    have e2 : f_X11_looksUp M (nI (ow f)) (nI key) 2 = some M1 := e2
    rw [hby', e2, pu_sb, if_pos ib, if_pos ib, if_pos ib, pu_nb0, ← hM2, h3, pu_sb]
  -- the files then
  have fin : ∀ (h v : Int32) (M3 : ps_S), rl_H1 np (ow f) h v 0 → M3 93 (6 * f + k) = h → M3 94 (6 * f + k) = v → M3 95 (6 * f + k) = 0 → (∀ a b, ¬ (93 ≤ a ∧ a ≤ 95 ∧ b = 6 * f + k) → M3 a b = M1 a b) → rl_Q np id so on kp' nf ow D c (ps_up (ps_up (ps_up C1 (104 + 7 * f) k h) (105 + 7 * f) k v) (106 + 7 * f) k 0) M3 ∧ st_fr f k C (ps_up (ps_up (ps_up C1 (104 + 7 * f) k h) (105 + 7 * f) k v) (106 + 7 * f) k 0) M M3 := by
    intro h v M3 h1 x93 x94 x95 u3
    have uc : ∀ a b, a ≠ 104 + 7 * f → a ≠ 105 + 7 * f → a ≠ 106 + 7 * f → ps_up (ps_up (ps_up C1 (104 + 7 * f) k h) (105 + 7 * f) k v) (106 + 7 * f) k 0 a b = C1 a b := fun a b h1 h2 h3 => by rw [pu_up_k h3, pu_up_k h2, pu_up_k h1]
    obtain ⟨P, O, N, DD, F⟩ := Q1
    refine ⟨⟨rp_congr P (fun a b h => uc a b (by omega) (by omega) (by omega)) (u3 _ _ (by omega)) (fun a b h1 h2 => u3 a b (by omega)), ro_congr O (uc _ _ (by omega) (by omega) (by omega)) (uc _ _ (by omega) (by omega) (by omega)) (uc _ _ (by omega) (by omega) (by omega)) (u3 _ _ (by omega)) (u3 _ _ (by omega)) (u3 _ _ (by omega)), rn_congr N (fun a b h1 h2 => uc a b (by omega) (by omega) (by omega)) (fun a b h1 h2 => u3 a b (by omega)), rd_congr DD (fun a b h1 h2 => uc a b (by omega) (by omega) (by omega)) (fun b => u3 _ b (by omega)), rf_mut F hf (fun a b h1 h2 h3 h4 => uc a b h1 h2 h3) (u3 _ _ (by omega)) (fun a b h1 h2 h3 => u3 a b (by omega)) ?_⟩, fun a b h1 h2 h3 h4 => by rw [uc a b h2 h3 h4]; exact fC a b h1, fun a b h1 h2 h3 => by rw [u3 a b h3]; exact gM a b h1 h2⟩
    intro j hj
    by_cases e : j = k
    · subst e
      rw [x93, x94, x95]
      refine ⟨⟨?_, ?_, ?_⟩, h1⟩
      · rw [pu_up_k (by omega), pu_up_k (by omega), pu_up_same]
      · rw [pu_up_k (by omega), pu_up_same]
      · rw [pu_up_same]
    · rw [u3 93 _ (by omega), u3 94 _ (by omega), u3 95 _ (by omega)]
      have := (F.2.2.1 f hf).2 j hj
      refine ⟨⟨?_, ?_, ?_⟩, this.2⟩
      · rw [pu_up_i e, pu_up_i e, pu_up_i e]; exact this.1.1
      · rw [pu_up_i e, pu_up_i e, pu_up_i e]; exact this.1.2.1
      · rw [pu_up_i e, pu_up_i e, pu_up_i e]; exact this.1.2.2
  cases h9 : L.find? (st_ok (fun n => M2 93 (6 * f + n)) (ow f)) with
  | none =>
    rw [h9] at free sto
    have free : f_X1_firstFree C1 (103 + 7 * f) = some (-1) := free
    have sto : ps_it (fun (a : ps_S × Int32) => f_X11_stores_L60 (nI f) (nI (6 * f + k)) a.1 a.2) ps_fu (M2, 0) = some M2 := sto
    obtain ⟨q1, q2⟩ := fin (-1) 0 M2 ⟨Or.inl rfl, Or.inl rfl, 0, by omega, rfl⟩ (by rw [u93, g93, hh]) (by rw [hM2, pu_up_same]) (by rw [hM2, pu_up_k (by omega), pu_up_same]) u2
    exact ⟨_, M2, kp', cls (-1) 0 (Or.inl rfl) free (cp_honestno P'.2.1 hn (pu_m1no hn)), mst M2 sto, q1, q2⟩
  | some a =>
    rw [h9] at free sto
    have free : f_X1_firstFree C1 (103 + 7 * f) = some (nI a) := free
    have sto : ps_it (fun (a : ps_S × Int32) => f_X11_stores_L60 (nI f) (nI (6 * f + k)) a.1 a.2) ps_fu (M2, 0) = some (ps_up (ps_up M2 93 (6 * f + k) (nI a)) 94 (6 * f + k) (if so a = 0 then 1 else 0)) := sto
    have haL := List.mem_of_find?_eq_some h9
    have hap := hL.2 a haL
    have hok := List.find?_some h9
    have hao : a ≠ ow f := by
      unfold st_ok at hok
      simp only [Bool.and_eq_true, decide_eq_true_eq] at hok
      exact hok.1
    have h01 : (if so a = 0 then (1 : Int32) else 0) = 0 ∨ (if so a = 0 then (1 : Int32) else 0) = 1 := by
      split
      · exact Or.inr rfl
      · exact Or.inl rfl
    obtain ⟨q1, q2⟩ := fin (nI a) (if so a = 0 then 1 else 0) (ps_up (ps_up M2 93 (6 * f + k) (nI a)) 94 (6 * f + k) (if so a = 0 then 1 else 0)) ⟨Or.inr ⟨a, hap, hao, rfl⟩, h01, 0, by omega, rfl⟩ (by rw [pu_up_k (by omega), pu_up_same]) (by rw [pu_up_same]) (by rw [pu_up_k (by omega), pu_up_k (by omega), hM2, pu_up_k (by omega), pu_up_same]) (fun x y h => by
      rw [← u2 x y h]
      show (if x = 94 ∧ y = 6 * f + k then _ else (if x = 93 ∧ y = 6 * f + k then _ else _)) = _
      rw [if_neg (by omega), if_neg (by omega)])
    exact ⟨_, _, kp', cls (nI a) _ h01 free (cp_honest P'.2.1 hn hap), mst _ sto, q1, q2⟩
theorem skip_store (Q : rl_Q np id so on kp nf ow D c C M) (hf : f < nf) (hk : k < 6) (hh : ¬ M 93 (6 * f + k) = -1) : f_X1_storeMissing_L2 (103 + 7 * f) C (nI k) = some (.inl (C, nI (k + 1))) := by
  unfold f_X1_storeMissing_L2 f_X1_storeMissing_J53
  rw [if_neg (lit_ge (x := 6) (n := 6) rfl hk (by omega)), x8_held hk, pu_sb, ((Q.2.2.2.2.2.2.1 f hf).2 k hk).1.1, if_neg hh, if_neg (by decide), nI_1]
end
