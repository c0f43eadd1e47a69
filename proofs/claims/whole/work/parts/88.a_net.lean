/-! the ledger: owes, worth, net -/
theorem pu_sub {a z : Nat} (h : z ≤ a) : nI a - nI z = nI (a - z) := (Int32.ofNat_sub a z h).symm
theorem pu_addneg {a z : Nat} (h : z ≤ a) : nI a + -nI z = nI (a - z) := by rw [Int32.add_neg_eq_sub, pu_sub h]
theorem pu_min2 {a b : Nat} (ha : a < 2 ^ 31) (hb : b < 2 ^ 31) : ps_min (nI a) (nI b) = nI (min a b) := by
  unfold ps_min
  by_cases h : b < a
  · rw [if_pos (nI_lt h ha), Nat.min_eq_right (by omega)]
  · rw [if_neg (nI_nlt (by omega) hb), Nat.min_eq_left (by omega)]
theorem ps_up_self {S : ps_S} {k i : Nat} {v : Int32} (h : v = S k i) : ps_up S k i v = S := by
  funext a b
  unfold ps_up
  by_cases e : a = k ∧ b = i
  · rw [if_pos e, h, e.1, e.2]
  · rw [if_neg e]
def rd_C (D : Nat → Nat → Nat) (C : ps_S) : Prop := ∀ p q, p < 16 → q < 16 → C (38 + p) q = nI (D p q)
def rd_M (D : Nat → Nat → Nat) (M : ps_S) : Prop := ∀ p q, p < 16 → q < 16 → M 101 (16 * p + q) = nI (D p q)
def nt_dec (D : Nat → Nat → Nat) (p q z : Nat) : Nat → Nat → Nat := fun a b => if a = p ∧ b = q then D a b - z else D a b
def z2 (D : Nat → Nat → Nat) (a b : Nat) : Nat := min (D a b) (D b a)
def z3 (D : Nat → Nat → Nat) (a b c : Nat) : Nat := min (D a b) (min (D b c) (D c a))
def d2 (D : Nat → Nat → Nat) (a b : Nat) : Nat → Nat → Nat := nt_dec (nt_dec D a b (z2 D a b)) b a (z2 D a b)
def d3 (D : Nat → Nat → Nat) (a b c : Nat) : Nat → Nat → Nat := nt_dec (nt_dec (nt_dec D a b (z3 D a b c)) b c (z3 D a b c)) c a (z3 D a b c)
section
variable {D : Nat → Nat → Nat} {a b c : Nat}
theorem dec_le (p q z x y : Nat) : nt_dec D p q z x y ≤ D x y := by
  unfold nt_dec
  split <;> omega
theorem dec_0 (p q : Nat) : nt_dec D p q 0 = D := by
  funext x y
  unfold nt_dec
  split <;> rfl
theorem d2_le (x y : Nat) : d2 D a b x y ≤ D x y := Nat.le_trans (dec_le _ _ _ _ _) (dec_le _ _ _ _ _)
theorem d3_le (x y : Nat) : d3 D a b c x y ≤ D x y := Nat.le_trans (dec_le _ _ _ _ _) (Nat.le_trans (dec_le _ _ _ _ _) (dec_le _ _ _ _ _))
theorem d2_0 (h : z2 D a b = 0) : d2 D a b = D := by unfold d2; rw [h, dec_0, dec_0]
theorem d3_0 (h : z3 D a b c = 0) : d3 D a b c = D := by unfold d3; rw [h, dec_0, dec_0, dec_0]
theorem z2_le {D' : Nat → Nat → Nat} (h : ∀ x y, D' x y ≤ D x y) : z2 D' a b ≤ z2 D a b := by
  unfold z2
  have h1 := h a b
  have h2 := h b a
  omega
theorem z3_le {D' : Nat → Nat → Nat} (h : ∀ x y, D' x y ≤ D x y) : z3 D' a b c ≤ z3 D a b c := by
  unfold z3
  have h1 := h a b
  have h2 := h b c
  have h3 := h c a
  omega
theorem z2_d2 (h : a ≠ b) : z2 (d2 D a b) a b = 0 := by
  have h1 : d2 D a b a b = D a b - z2 D a b := by
    unfold d2 nt_dec
    rw [if_neg (by omega), if_pos ⟨rfl, rfl⟩]
  have h2 : d2 D a b b a = D b a - z2 D a b := by
    unfold d2 nt_dec
    rw [if_pos ⟨rfl, rfl⟩, if_neg (by omega)]
  unfold z2 at *
  rw [h1, h2]
  omega
theorem z3_d3 (h : a ≠ b) (h' : b ≠ c) (h'' : a ≠ c) : z3 (d3 D a b c) a b c = 0 := by
  have h1 : d3 D a b c a b = D a b - z3 D a b c := by
    unfold d3 nt_dec
    rw [if_neg (by omega), if_neg (by omega), if_pos ⟨rfl, rfl⟩]
  have h2 : d3 D a b c b c = D b c - z3 D a b c := by
    unfold d3 nt_dec
    rw [if_neg (by omega), if_pos ⟨rfl, rfl⟩, if_neg (by omega)]
  have h3 : d3 D a b c c a = D c a - z3 D a b c := by
    unfold d3 nt_dec
    rw [if_pos ⟨rfl, rfl⟩, if_neg (by omega), if_neg (by omega)]
  unfold z3 at *
  rw [h1, h2, h3]
  omega
theorem rdC_put {C : ps_S} (h : rd_C D C) {p q v : Nat} (hp : p < 16) (hq : q < 16) : rd_C (fun a b => if a = p ∧ b = q then v else D a b) (ps_up C (38 + p) q (nI v)) := by
  intro a b ha hb
  dsimp only
  by_cases e : a = p ∧ b = q
  · rw [if_pos e, e.1, e.2, pu_up_same]
  · rw [if_neg e]
    show (if _ then _ else _) = _
    rw [if_neg (by omega)]
    exact h a b ha hb
theorem rdM_put {M : ps_S} (h : rd_M D M) {p q v : Nat} (hp : p < 16) (hq : q < 16) : rd_M (fun a b => if a = p ∧ b = q then v else D a b) (ps_up M 101 (16 * p + q) (nI v)) := by
  intro a b ha hb
  dsimp only
  by_cases e : a = p ∧ b = q
  · rw [if_pos e, e.1, e.2, pu_up_same]
  · rw [if_neg e]
    rw [pu_up_i (by omega)]
    exact h a b ha hb
theorem dec_eq (p q z : Nat) : nt_dec D p q z = fun a b => if a = p ∧ b = q then D p q - z else D a b := by
  funext a b
  unfold nt_dec
  by_cases e : a = p ∧ b = q
  · rw [if_pos e, if_pos e, e.1, e.2]
  · rw [if_neg e, if_neg e]
theorem cd_place {p q : Nat} (hp : p < 16) (hq : q < 16) : f_X2_isPlace (nI p) (nI q) = some 1 := by
  unfold f_X2_isPlace
  rw [if_neg (nI_pos (by omega)), if_neg (by rw [pu_i16]; exact nI_ge hp (by omega)), if_neg (nI_pos (by omega)), if_neg (by rw [pu_i16]; exact nI_ge hq (by omega))]
theorem cd_debt {C : ps_S} (h : rd_C D C) {p q : Nat} (hp : p < 16) (hq : q < 16) : f_X2_debt C (nI p) (nI q) = some (nI (D p q)) := by
  unfold f_X2_debt
  rw [cd_place hp hq, pu_sb, if_neg (by decide), if_pos (pu_ib (by omega) (by omega)), if_pos (pu_ib (by omega) (by omega)), nI_clamp (by omega), nI_clamp (by omega), h p q hp hq]
theorem cd_owe {C : ps_S} {p q : Nat} (hp : p < 16) (hq : q < 16) (hpq : p ≠ q) (x : Int32) : f_X2_owe C (nI p) (nI q) x = some (ps_up C (38 + p) q (C (38 + p) q + x)) := by
  unfold f_X2_owe
  rw [cd_place hp hq, pu_sb, if_neg (by decide), if_neg (fun e => hpq (pu_inj (by omega) (by omega) e)), if_pos (pu_ib (by omega) (by omega)), if_pos (pu_ib (by omega) (by omega)), if_pos (pu_ib (by omega) (by omega)), nI_clamp (by omega), nI_clamp (by omega)]
theorem cd_dec {C : ps_S} (h : rd_C D C) {p q z : Nat} (hp : p < 16) (hq : q < 16) (hpq : p ≠ q) (hz : z ≤ D p q) : ∃ C', f_X2_owe C (nI p) (nI q) (-nI z) = some C' ∧ rd_C (nt_dec D p q z) C' ∧ ∀ x y, x < 38 ∨ 54 ≤ x → C' x y = C x y := by
  refine ⟨_, cd_owe hp hq hpq _, ?_, fun x y hx => pu_up_k (by omega)⟩
  rw [h p q hp hq, pu_addneg hz, dec_eq]
  exact rdC_put h hp hq
theorem cn_two {C : ps_S} (h : rd_C D C) (ha : a < 16) (hb : b < 16) (hab : a ≠ b) (hD : ∀ x y, D x y < 2 ^ 29) : ∃ C', f_X2_lessenTwo C (nI a) (nI b) = some (nI (2 * z2 D a b), C') ∧ rd_C (d2 D a b) C' ∧ ∀ x y, x < 38 ∨ 54 ≤ x → C' x y = C x y := by
  have h1 : z2 D a b ≤ D a b := by unfold z2; omega
  have h2 : z2 D a b ≤ nt_dec D a b (z2 D a b) b a := by
    unfold nt_dec
    rw [if_neg (by omega)]
    unfold z2; omega
  obtain ⟨C1, e1, r1, f1⟩ := cd_dec h ha hb hab h1
  obtain ⟨C2, e2, r2, f2⟩ := cd_dec r1 hb ha (fun e => hab e.symm) h2
  refine ⟨C2, ?_, r2, fun x y hx => (f2 x y hx).trans (f1 x y hx)⟩
  have hm : ps_min (nI (D a b)) (nI (D b a)) = nI (z2 D a b) := pu_min2 (by have := hD a b; omega) (by have := hD b a; omega)
  unfold f_X2_lessenTwo
  rw [cd_debt h ha hb, pu_sb, cd_debt h hb ha, pu_sb, hm, e1, pu_sb, e2, pu_sb, pu_2]
theorem cn_three {C : ps_S} (h : rd_C D C) (ha : a < 16) (hb : b < 16) (hc : c < 16) (hab : a ≠ b) (hbc : b ≠ c) (hac : a ≠ c) (hD : ∀ x y, D x y < 2 ^ 29) (w : Int32) : ∃ C', f_X2_lessenThrees_L7 (nI a) (nI b) C w (nI c) = some (.inl (C', w + nI (3 * z3 D a b c), nI (c + 1))) ∧ rd_C (d3 D a b c) C' ∧ ∀ x y, x < 38 ∨ 54 ≤ x → C' x y = C x y := by
  have h1 : z3 D a b c ≤ D a b := by unfold z3; omega
  have h2 : z3 D a b c ≤ nt_dec D a b (z3 D a b c) b c := by
    unfold nt_dec
    rw [if_neg (by omega)]
    unfold z3; omega
  have h3 : z3 D a b c ≤ nt_dec (nt_dec D a b (z3 D a b c)) b c (z3 D a b c) c a := by
    unfold nt_dec
    rw [if_neg (by omega), if_neg (by omega)]
    unfold z3; omega
  obtain ⟨C1, e1, r1, f1⟩ := cd_dec h ha hb hab h1
  obtain ⟨C2, e2, r2, f2⟩ := cd_dec r1 hb hc hbc h2
  obtain ⟨C3, e3, r3, f3⟩ := cd_dec r2 hc ha (fun e => hac e.symm) h3
  refine ⟨C3, ?_, r3, fun x y hx => (f3 x y hx).trans ((f2 x y hx).trans (f1 x y hx))⟩
  have hm : ps_min (nI (D a b)) (ps_min (nI (D b c)) (nI (D c a))) = nI (z3 D a b c) := by
    rw [pu_min2 (by have := hD b c; omega) (by have := hD c a; omega), pu_min2 (by have := hD a b; omega) (by have := hD b c; omega)]
    rfl
  unfold f_X2_lessenThrees_L7 f_X2_lessenThrees_J84
  rw [if_neg (by rw [pu_i16]; exact nI_ge hc (by omega)), if_neg (fun e => hbc (pu_inj (by omega) (by omega) e).symm), cd_debt h ha hb, pu_sb, cd_debt h hb hc, pu_sb, cd_debt h hc ha, pu_sb, hm, e1, pu_sb, e2, pu_sb, e3, pu_sb, show (3 : Int32) = nI 3 from rfl, pu_mul, nI_1]
theorem pu_lemin {x y : Nat} (hx : x < 2 ^ 31) (hy : y < 2 ^ 31) {β : Type} (f : Int32 → β) : (if nI y ≤ nI x then f (nI y) else f (nI x)) = f (nI (min x y)) := by
  by_cases h : y ≤ x
  · rw [if_pos (nI_le h hx), Nat.min_eq_right h]
  · rw [if_neg (nI_ge (by omega) hy), Nat.min_eq_left (by omega)]
theorem rdM_dec {M : ps_S} (h : rd_M D M) {p q z : Nat} (hp : p < 16) (hq : q < 16) (hz : z ≤ D p q) : rd_M (nt_dec D p q z) (ps_up M 101 (16 * p + q) (M 101 (16 * p + q) - nI z)) := by
  rw [h p q hp hq, pu_sub hz, dec_eq]
  exact rdM_put h hp hq
theorem mn_two {M : ps_S} (h : rd_M D M) (ha : a < 16) (hb : b < 16) (hab : a ≠ b) (hD : ∀ x y, D x y < 2 ^ 29) : ∃ M', f_X11_lessens M (nI a) (nI b) (nI a) = some (nI (2 * z2 D a b), M') ∧ rd_M (d2 D a b) M' ∧ (∀ x y, x ≠ 101 → M' x y = M x y) ∧ (z2 D a b = 0 → M' = M) := by
  have h1 : z2 D a b ≤ D a b := by unfold z2; omega
  have h2 : z2 D a b ≤ nt_dec D a b (z2 D a b) b a := by
    unfold nt_dec
    rw [if_neg (by omega)]
    unfold z2; omega
  have r1 := rdM_dec h ha hb h1
  have r2 := rdM_dec r1 hb ha h2
  refine ⟨ps_up (ps_up M 101 (16 * a + b) (M 101 (16 * a + b) - nI (z2 D a b))) 101 (16 * b + a) (ps_up M 101 (16 * a + b) (M 101 (16 * a + b) - nI (z2 D a b)) 101 (16 * b + a) - nI (z2 D a b)), ?_, r2, fun x y hx => (pu_up_k hx).trans (pu_up_k hx), fun hz => ?_⟩
  · have e1 : (16 : Int32) * nI a + nI b = nI (16 * a + b) := by rw [pu_16, nI_add]
    have e2 : (16 : Int32) * nI b + nI a = nI (16 * b + a) := by rw [pu_16, nI_add]
    have i1 := pu_ib (i := 16 * a + b) (n := 256) (by omega) (by omega)
    have i2 := pu_ib (i := 16 * b + a) (n := 256) (by omega) (by omega)
    have c1 := nI_clamp (n := 16 * a + b) (by omega)
    have c2 := nI_clamp (n := 16 * b + a) (by omega)
    unfold f_X11_lessens f_X11_lessens_J22
    rw [if_pos rfl, if_pos rfl]
    unfold f_X11_lessens_J41
    rw [e1, e2, if_pos i1, if_pos i2, if_pos i2, if_pos i1, c1, c2, h a b ha hb, h b a hb ha, pu_lemin (by have := hD a b; omega) (by have := hD b a; omega) (fun v => f_X11_lessens_J77 M (nI a) (nI b) (nI a) (nI a) (nI (16 * b + a)) v)]
    unfold f_X11_lessens_J77
    rw [if_pos i2, if_pos i2, c2, h b a hb ha, if_pos (nI_le (by omega) (by have := hD b a; omega))]
    unfold f_X11_lessens_J103 f_X11_lessens_J148 f_X11_lessens_J162
    rw [e1, e2, if_pos i1, if_pos i1, if_pos i2, if_pos i2, if_pos i2, if_pos rfl, if_pos i2, if_pos rfl, c1, c2, Int32.sub_zero, ps_up_self (S := ps_up (ps_up M 101 (16 * a + b) _) 101 (16 * b + a) _) rfl, show (2 : Int32) = nI 2 from rfl, pu_mul, Nat.mul_comm, h a b ha hb]
    rfl
  · rw [hz, show nI 0 = 0 from rfl, Int32.sub_zero, Int32.sub_zero, ps_up_self (S := M) rfl, ps_up_self (S := M) rfl]
theorem mn_three {M : ps_S} (h : rd_M D M) (ha : a < 16) (hb : b < 16) (hc : c < 16) (hab : a ≠ b) (hbc : b ≠ c) (hac : a ≠ c) (hD : ∀ x y, D x y < 2 ^ 29) : ∃ M', f_X11_lessens M (nI a) (nI b) (nI c) = some (nI (3 * z3 D a b c), M') ∧ rd_M (d3 D a b c) M' ∧ (∀ x y, x ≠ 101 → M' x y = M x y) ∧ (z3 D a b c = 0 → M' = M) := by
  have h1 : z3 D a b c ≤ D a b := by unfold z3; omega
  have h2 : z3 D a b c ≤ nt_dec D a b (z3 D a b c) b c := by
    unfold nt_dec
    rw [if_neg (by omega)]
    unfold z3; omega
  have h3 : z3 D a b c ≤ nt_dec (nt_dec D a b (z3 D a b c)) b c (z3 D a b c) c a := by
    unfold nt_dec
    rw [if_neg (by omega), if_neg (by omega)]
    unfold z3; omega
  have r1 := rdM_dec h ha hb h1
  have r2 := rdM_dec r1 hb hc h2
  have r3 := rdM_dec r2 hc ha h3
  refine ⟨_, ?_, r3, fun x y hx => (pu_up_k hx).trans ((pu_up_k hx).trans (pu_up_k hx)), fun hz => ?_⟩
  · have e1 : (16 : Int32) * nI a + nI b = nI (16 * a + b) := by rw [pu_16, nI_add]
    have e2 : (16 : Int32) * nI b + nI c = nI (16 * b + c) := by rw [pu_16, nI_add]
    have e3 : (16 : Int32) * nI c + nI a = nI (16 * c + a) := by rw [pu_16, nI_add]
    have i1 := pu_ib (i := 16 * a + b) (n := 256) (by omega) (by omega)
    have i2 := pu_ib (i := 16 * b + c) (n := 256) (by omega) (by omega)
    have i3 := pu_ib (i := 16 * c + a) (n := 256) (by omega) (by omega)
    have c1 := nI_clamp (n := 16 * a + b) (by omega)
    have c2 := nI_clamp (n := 16 * b + c) (by omega)
    have c3 := nI_clamp (n := 16 * c + a) (by omega)
    have hne : ¬ nI c = nI a := fun e => hac (pu_inj (by omega) (by omega) e).symm
    unfold f_X11_lessens f_X11_lessens_J22
    rw [if_neg hne, if_neg hne]
    unfold f_X11_lessens_J41
    rw [e1, e2, e3, if_pos i1, if_pos i2, if_pos i2, if_pos i1, c1, c2, h a b ha hb, h b c hb hc, pu_lemin (by have := hD a b; omega) (by have := hD b c; omega) (fun v => f_X11_lessens_J77 M (nI a) (nI b) (nI c) (nI c) (nI (16 * c + a)) v)]
    unfold f_X11_lessens_J77
    rw [if_pos i3, if_pos i3, c3, h c a hc ha]
    have hz3 : min (D c a) (min (D a b) (D b c)) = z3 D a b c := by unfold z3; omega
    rw [show (if nI (min (D a b) (D b c)) ≤ nI (D c a) then f_X11_lessens_J103 M (nI a) (nI b) (nI c) (nI c) (nI (16 * c + a)) (nI (min (D a b) (D b c))) else f_X11_lessens_J103 M (nI a) (nI b) (nI c) (nI c) (nI (16 * c + a)) (nI (D c a))) = _ from pu_lemin (x := D c a) (y := min (D a b) (D b c)) (by have := hD c a; omega) (by have := hD a b; omega) (fun v => f_X11_lessens_J103 M (nI a) (nI b) (nI c) (nI c) (nI (16 * c + a)) v), hz3]
    unfold f_X11_lessens_J103 f_X11_lessens_J148 f_X11_lessens_J162
    rw [e1, e2, if_pos i1, if_pos i1, if_pos i2, if_pos i2, if_pos i3, if_neg hne, if_pos i3, if_neg hne, c1, c2, c3, show (3 : Int32) = nI 3 from rfl, pu_mul, Nat.mul_comm, h a b ha hb]
  · rw [hz, show nI 0 = 0 from rfl, Int32.sub_zero, Int32.sub_zero, Int32.sub_zero, ps_up_self (S := M) rfl, ps_up_self (S := M) rfl, ps_up_self (S := M) rfl]
end
/-! the reference's search for a ring -/
section
variable {D : Nat → Nat → Nat} {np a b c : Nat} {M M' : ps_S}
theorem pu_rle0 {k z : Nat} (hk : 0 < k) (hk3 : k ≤ 3) (hz : z < 2 ^ 29) : (nI (k * z) ≤ 0) ↔ z = 0 := by
  constructor
  · intro h
    by_cases e : z = 0
    · exact e
    · have h0 : 0 < k * z := Nat.mul_pos hk (by omega)
      have h1 : k * z ≤ 3 * z := Nat.mul_le_mul_right z hk3
      exact absurd h (nI_nle h0 (by omega))
  · intro h
    rw [h, Nat.mul_zero]
    decide
theorem z2_lt (hD : ∀ x y, D x y < 2 ^ 29) : z2 D a b < 2 ^ 29 := by
  have := hD a b
  unfold z2
  omega
theorem z3_lt (hD : ∀ x y, D x y < 2 ^ 29) : z3 D a b c < 2 ^ 29 := by
  have := hD a b
  unfold z3
  omega
theorem n14_z (h : rd_M D M) (h2 : M 80 2 = nI np) (hn : np ≤ 16) (hD : ∀ x y, D x y < 2 ^ 29) (ha : a < np) (hb : b < np) (hab : a ≠ b) (hz : z2 D a b = 0) : f_X11_nets_L14 (nI a) M (nI b) = some (.inl (M, nI (b + 1))) := by
  obtain ⟨M', e, -, -, hM⟩ := mn_two h (a := a) (b := b) (by omega) (by omega) hab hD
  have hM := hM hz
  subst hM
  unfold f_X11_nets_L14
  rw [h2, if_neg (nI_ge hb (by omega)), pu_b2 e, if_pos ((pu_rle0 (by omega) (by omega) (z2_lt hD)).mpr hz), nI_1]
theorem n14_end (h2 : M 80 2 = nI np) (hn : np ≤ 16) (x : Int32) : f_X11_nets_L14 x M (nI np) = some (.inr (.inl M)) := by
  unfold f_X11_nets_L14
  rw [h2, if_pos (nI_le (Nat.le_refl _) (by omega))]
theorem n2_z (h : rd_M D M) (h2 : M 80 2 = nI np) (hn : np ≤ 16) (hD : ∀ x y, D x y < 2 ^ 29) (ha : a < np) (hz : ∀ b, a < b → b < np → z2 D a b = 0) : f_X11_nets_L2 M (nI a) = some (.inl (M, nI (a + 1))) := by
  unfold f_X11_nets_L2
  rw [h2, if_neg (nI_ge ha (by omega)), pu_lts, nI_1]
  have e := pu_it (step := fun (x : ps_S × Int32) => f_X11_nets_L14 (nI a) x.1 x.2) (b := (.inl M : ps_S ⊕ (Int32 × ps_S))) (fun j => (M, nI j)) (np - (a + 1)) (a + 1) (fun j h1 h3 => n14_z h h2 hn hD ha (by omega) (by omega) (hz j (by omega) (by omega))) (by rw [show a + 1 + (np - (a + 1)) = np by omega]; exact n14_end h2 hn _) ps_fu (by unfold ps_fu; omega)
  rw [e]
  rfl
theorem n2_end (h2 : M 80 2 = nI np) (hn : np ≤ 16) : f_X11_nets_L2 M (nI np) = some (.inr (.inl M)) := by
  unfold f_X11_nets_L2
  rw [h2, if_pos (nI_le (Nat.le_refl _) (by omega))]
theorem n2_all (h : rd_M D M) (h2 : M 80 2 = nI np) (hn : np ≤ 16) (hD : ∀ x y, D x y < 2 ^ 29) (hz : ∀ a b, a < b → b < np → z2 D a b = 0) : ps_it (fun (a : ps_S × Int32) => f_X11_nets_L2 a.1 a.2) ps_fu (M, 0) = some (.inl M) :=
  pu_it0 (step := fun (a : ps_S × Int32) => f_X11_nets_L2 a.1 a.2) (fun j => (M, nI j)) np (fun j hj => n2_z h h2 hn hD hj (fun b h3 h4 => hz j b h3 h4)) (n2_end h2 hn) (by omega)
theorem nets_2 (h : rd_M D M) (h2 : M 80 2 = nI np) (hn : np ≤ 16) (hD : ∀ x y, D x y < 2 ^ 29) (hab : a < b) (hb : b < np) (hz : ∀ x y, x < y → y < np → (x < a ∨ x = a ∧ y < b) → z2 D x y = 0) (hp : ¬ z2 D a b = 0) : ∃ M', f_X11_nets M = some (nI (2 * z2 D a b), M') ∧ rd_M (d2 D a b) M' ∧ ∀ x y, x ≠ 101 → M' x y = M x y := by
  obtain ⟨M', e, r, f, -⟩ := mn_two h (a := a) (b := b) (by omega) (by omega) (by omega) hD
  refine ⟨M', ?_, r, f⟩
  have e14 := pu_it (step := fun (x : ps_S × Int32) => f_X11_nets_L14 (nI a) x.1 x.2) (b := (.inr (nI (2 * z2 D a b), M') : ps_S ⊕ (Int32 × ps_S))) (fun j => (M, nI j)) (b - (a + 1)) (a + 1) (fun j h1 h3 => n14_z h h2 hn hD (by omega) (by omega) (by omega) (hz a j (by omega) (by omega) (by omega))) (by
    rw [show a + 1 + (b - (a + 1)) = b by omega]
    show f_X11_nets_L14 (nI a) M (nI b) = _
    unfold f_X11_nets_L14
    rw [h2, if_neg (nI_ge hb (by omega)), pu_b2 e, if_neg (fun q => hp ((pu_rle0 (by omega) (by omega) (z2_lt hD)).mp q))]) ps_fu (by unfold ps_fu; omega)
  have e2 := pu_it0 (step := fun (a : ps_S × Int32) => f_X11_nets_L2 a.1 a.2) (b := (.inr (nI (2 * z2 D a b), M') : ps_S ⊕ (Int32 × ps_S))) (fun j => (M, nI j)) a (fun j hj => n2_z h h2 hn hD (by omega) (fun b h3 h4 => hz j b h3 h4 (by omega))) (by
    show f_X11_nets_L2 M (nI a) = _
    unfold f_X11_nets_L2
    rw [h2, if_neg (nI_ge (by omega) (by omega)), pu_lts, nI_1, e14]
    rfl) (by omega)
  unfold f_X11_nets
  have e2 : ps_it (fun (a : ps_S × Int32) => f_X11_nets_L2 a.1 a.2) ps_fu (M, 0) = some (.inr (nI (2 * z2 D a b), M')) := e2
  rw [e2]
  rfl
theorem n74_z (h : rd_M D M) (h2 : M 80 2 = nI np) (hn : np ≤ 16) (hD : ∀ x y, D x y < 2 ^ 29) (ha : a < np) (hb : b < np) (hab : a < b) (hc : c < np) (hac : a < c) (hz : c ≠ b → z3 D a b c = 0) : f_X11_nets_L74 (nI a) (nI b) M (nI c) = some (.inl (M, nI (c + 1))) := by
  unfold f_X11_nets_L74 f_X11_nets_J98
  rw [h2, if_neg (nI_ge hc (by omega))]
  by_cases e : c = b
  · rw [if_pos (by rw [e]), if_pos (by decide), nI_1]
  · obtain ⟨M', e', -, -, hM⟩ := mn_three h (a := a) (b := b) (c := c) (by omega) (by omega) (by omega) (by omega) (by omega) (by omega) hD
    have hM := hM (hz e)
    subst hM
    rw [if_neg (fun q => e (pu_inj (by omega) (by omega) q)), pu_b2 e', if_pos ((pu_rle0 (by omega) (by omega) (z3_lt hD)).mpr (hz e)), nI_1]
theorem n62_z (h : rd_M D M) (h2 : M 80 2 = nI np) (hn : np ≤ 16) (hD : ∀ x y, D x y < 2 ^ 29) (hab : a < b) (hb : b < np) (hz : ∀ c, a < c → c < np → c ≠ b → z3 D a b c = 0) : f_X11_nets_L62 (nI a) M (nI b) = some (.inl (M, nI (b + 1))) := by
  unfold f_X11_nets_L62
  rw [h2, if_neg (nI_ge hb (by omega)), nI_1, nI_1]
  have e := pu_it (step := fun (x : ps_S × Int32) => f_X11_nets_L74 (nI a) (nI b) x.1 x.2) (b := (.inl M : ps_S ⊕ (Int32 × ps_S))) (fun j => (M, nI j)) (np - (a + 1)) (a + 1) (fun j h1 h3 => n74_z h h2 hn hD (by omega) hb hab (by omega) (by omega) (hz j (by omega) (by omega))) (by
    rw [show a + 1 + (np - (a + 1)) = np by omega]
    show f_X11_nets_L74 (nI a) (nI b) M (nI np) = _
    unfold f_X11_nets_L74
    rw [h2, if_pos (nI_le (Nat.le_refl _) (by omega))]) ps_fu (by unfold ps_fu; omega)
  rw [e]
  rfl
theorem n50_z (h : rd_M D M) (h2 : M 80 2 = nI np) (hn : np ≤ 16) (hD : ∀ x y, D x y < 2 ^ 29) (ha : a < np) (hz : ∀ b c, a < b → b < np → a < c → c < np → c ≠ b → z3 D a b c = 0) : f_X11_nets_L50 M (nI a) = some (.inl (M, nI (a + 1))) := by
  unfold f_X11_nets_L50
  rw [h2, if_neg (nI_ge ha (by omega)), pu_lts, nI_1]
  have e := pu_it (step := fun (x : ps_S × Int32) => f_X11_nets_L62 (nI a) x.1 x.2) (b := (.inl M : ps_S ⊕ (Int32 × ps_S))) (fun j => (M, nI j)) (np - (a + 1)) (a + 1) (fun j h1 h3 => n62_z h h2 hn hD (by omega) (by omega) (fun c h4 h5 h6 => hz j c (by omega) (by omega) h4 h5 h6)) (by
    rw [show a + 1 + (np - (a + 1)) = np by omega]
    show f_X11_nets_L62 (nI a) M (nI np) = _
    unfold f_X11_nets_L62
    rw [h2, if_pos (nI_le (Nat.le_refl _) (by omega))]) ps_fu (by unfold ps_fu; omega)
  rw [e]
  rfl
theorem nets_0 (h : rd_M D M) (h2 : M 80 2 = nI np) (hn : np ≤ 16) (hD : ∀ x y, D x y < 2 ^ 29) (hz : ∀ a b, a < b → b < np → z2 D a b = 0) (hz3 : ∀ a b c, a < b → b < np → a < c → c < np → c ≠ b → z3 D a b c = 0) : f_X11_nets M = some (0, M) := by
  have e := pu_it0 (step := fun (a : ps_S × Int32) => f_X11_nets_L50 a.1 a.2) (b := (.inl M : ps_S ⊕ (Int32 × ps_S))) (fun j => (M, nI j)) np (fun j hj => n50_z h h2 hn hD hj (fun b c h3 h4 h5 h6 h7 => hz3 j b c h3 h4 h5 h6 h7)) (by
    show f_X11_nets_L50 M (nI np) = _
    unfold f_X11_nets_L50
    rw [h2, if_pos (nI_le (Nat.le_refl _) (by omega))]) (by omega)
  have e : ps_it (fun (a : ps_S × Int32) => f_X11_nets_L50 a.1 a.2) ps_fu (M, 0) = some (.inl M) := e
  unfold f_X11_nets
  rw [n2_all h h2 hn hD hz]
  show ps_bs (ps_it (fun (a : ps_S × Int32) => f_X11_nets_L50 a.1 a.2) ps_fu (M, 0)) _ _ = _
  rw [e]
  rfl
theorem nets_3 (h : rd_M D M) (h2 : M 80 2 = nI np) (hn : np ≤ 16) (hD : ∀ x y, D x y < 2 ^ 29) (hz : ∀ a b, a < b → b < np → z2 D a b = 0) (hab : a < b) (hb : b < np) (hac : a < c) (hc : c < np) (hcb : c ≠ b) (hz3 : ∀ x y t, x < y → x < t → y < np → t < np → t ≠ y → (x < a ∨ x = a ∧ y < b ∨ x = a ∧ y = b ∧ t < c) → z3 D x y t = 0) (hp : ¬ z3 D a b c = 0) : ∃ M', f_X11_nets M = some (nI (3 * z3 D a b c), M') ∧ rd_M (d3 D a b c) M' ∧ ∀ x y, x ≠ 101 → M' x y = M x y := by
  obtain ⟨M', e, r, f, -⟩ := mn_three h (a := a) (b := b) (c := c) (by omega) (by omega) (by omega) (by omega) (by omega) (by omega) hD
  refine ⟨M', ?_, r, f⟩
  have e74 := pu_it (step := fun (x : ps_S × Int32) => f_X11_nets_L74 (nI a) (nI b) x.1 x.2) (b := (.inr (nI (3 * z3 D a b c), M') : ps_S ⊕ (Int32 × ps_S))) (fun j => (M, nI j)) (c - (a + 1)) (a + 1) (fun j h1 h3 => n74_z h h2 hn hD (by omega) hb hab (by omega) (by omega) (fun hj => hz3 a b j (by omega) (by omega) (by omega) (by omega) hj (by omega))) (by
    rw [show a + 1 + (c - (a + 1)) = c by omega]
    show f_X11_nets_L74 (nI a) (nI b) M (nI c) = _
    unfold f_X11_nets_L74 f_X11_nets_J98
    rw [h2, if_neg (nI_ge hc (by omega)), if_neg (fun q => hcb (pu_inj (by omega) (by omega) q)), pu_b2 e, if_neg (fun q => hp ((pu_rle0 (by omega) (by omega) (z3_lt hD)).mp q))]) ps_fu (by unfold ps_fu; omega)
  have e62 := pu_it (step := fun (x : ps_S × Int32) => f_X11_nets_L62 (nI a) x.1 x.2) (b := (.inr (nI (3 * z3 D a b c), M') : ps_S ⊕ (Int32 × ps_S))) (fun j => (M, nI j)) (b - (a + 1)) (a + 1) (fun j h1 h3 => n62_z h h2 hn hD (by omega) (by omega) (fun t h4 h5 h6 => hz3 a j t (by omega) (by omega) (by omega) (by omega) h6 (by omega))) (by
    rw [show a + 1 + (b - (a + 1)) = b by omega]
    show f_X11_nets_L62 (nI a) M (nI b) = _
    unfold f_X11_nets_L62
    rw [h2, if_neg (nI_ge hb (by omega)), nI_1, e74]
    rfl) ps_fu (by unfold ps_fu; omega)
  have e50 := pu_it0 (step := fun (a : ps_S × Int32) => f_X11_nets_L50 a.1 a.2) (b := (.inr (nI (3 * z3 D a b c), M') : ps_S ⊕ (Int32 × ps_S))) (fun j => (M, nI j)) a (fun j hj => n50_z h h2 hn hD (by omega) (fun y t h3 h4 h5 h6 h7 => hz3 j y t (by omega) (by omega) (by omega) (by omega) h7 (by omega))) (by
    show f_X11_nets_L50 M (nI a) = _
    unfold f_X11_nets_L50
    rw [h2, if_neg (nI_ge (by omega) (by omega)), pu_lts, nI_1, e62]
    rfl) (by omega)
  have e50 : ps_it (fun (a : ps_S × Int32) => f_X11_nets_L50 a.1 a.2) ps_fu (M, 0) = some (.inr (nI (3 * z3 D a b c), M')) := e50
  unfold f_X11_nets
  rw [n2_all h h2 hn hD hz]
  show ps_bs (ps_it (fun (a : ps_S × Int32) => f_X11_nets_L50 a.1 a.2) ps_fu (M, 0)) _ _ = _
  rw [e50]
  rfl
/-- the reference's netting from here on -/
def ntL (fuel : Nat) (M : ps_S) (v : Int32) : Option (ps_S × Int32) := ps_b2 (f_X11_nets M) fun r S => ps_it (fun (a : ps_S × Int32 × Int32) => f_X11_net_L12 a.1 a.2.1 a.2.2) fuel (S, v, r)
theorem ntL_go {fuel : Nat} {r v : Int32} (e : f_X11_nets M = some (r, M')) (hr : ¬ r ≤ 0) : ntL (fuel + 1) M v = ntL fuel M' (v + r) := by
  unfold ntL
  rw [pu_b2 e]
  show (f_X11_net_L12 M' v r).bind _ = _
  unfold f_X11_net_L12
  rw [if_neg hr]
  cases f_X11_nets M' with
  | none => rfl
  | some q => rfl
theorem ntL_end {fuel : Nat} {v : Int32} (e : f_X11_nets M = some (0, M)) : ntL (fuel + 1) M v = some (M, v) := by
  unfold ntL
  rw [pu_b2 e]
  show (f_X11_net_L12 M v 0).bind _ = _
  unfold f_X11_net_L12
  rw [if_pos (by decide)]
  rfl
def nt_I (np : Nat) (R0 : Option (ps_S × Int32)) (C0 M0 : ps_S) (D0 : Nat → Nat → Nat) (n : Nat) (Z : (Nat → Nat → Nat) → Prop) (C : ps_S) (v : Int32) : Prop := ∃ (M : ps_S) (fuel : Nat) (D : Nat → Nat → Nat), rd_C D C ∧ rd_M D M ∧ (∀ a b, D a b ≤ D0 a b) ∧ 20000 ≤ fuel + n ∧ R0 = ntL fuel M v ∧ Z D ∧ (∀ x y, x < 38 ∨ 54 ≤ x → C x y = C0 x y) ∧ (∀ x y, x ≠ 101 → M x y = M0 x y)
def nt_2 (a b : Nat) (D : Nat → Nat → Nat) : Prop := ∀ x y, x < y → y < 16 → (x < a ∨ x = a ∧ y < b) → z2 D x y = 0
def nt_3 (a b c : Nat) (D : Nat → Nat → Nat) : Prop := nt_2 16 0 D ∧ ∀ x y t, x < y → x < t → y < 16 → t < 16 → t ≠ y → (x < a ∨ x = a ∧ y < b ∨ x = a ∧ y = b ∧ t < c) → z3 D x y t = 0
theorem nt_mono {R0 : Option (ps_S × Int32)} {C0 M0 C : ps_S} {D0 : Nat → Nat → Nat} {n n' : Nat} {Z Z' : (Nat → Nat → Nat) → Prop} {v : Int32} (h : nt_I np R0 C0 M0 D0 n Z C v) (hn : n ≤ n') (hZ : ∀ D, Z D → Z' D) : nt_I np R0 C0 M0 D0 n' Z' C v := by
  obtain ⟨M, fuel, D, h1, h2, h3, h4, h5, h6, h7⟩ := h
  exact ⟨M, fuel, D, h1, h2, h3, by omega, h5, hZ D h6, h7⟩
theorem nt_s2 {R0 : Option (ps_S × Int32)} {C0 M0 C : ps_S} {D0 : Nat → Nat → Nat} {n : Nat} {v : Int32} (hD0 : ∀ x y, D0 x y < 2 ^ 29) (hz0 : ∀ p q, (np ≤ p ∨ np ≤ q) → D0 p q = 0) (h02 : M0 80 2 = nI np) (hnp : np ≤ 16) (h : nt_I np R0 C0 M0 D0 n (nt_2 a b) C v) (hn : n < 10000) (hab : a < b) (hb : b < 16) : ∃ C' r, f_X2_lessenTwo C (nI a) (nI b) = some (r, C') ∧ nt_I np R0 C0 M0 D0 (n + 1) (nt_2 a (b + 1)) C' (v + r) := by
  obtain ⟨M, fuel, D, h1, h2, h3, h4, h5, h6, h7, h8⟩ := h
  have hD : ∀ x y, D x y < 2 ^ 29 := fun x y => Nat.lt_of_le_of_lt (h3 x y) (hD0 x y)
  obtain ⟨C', e, r1, f1⟩ := cn_two h1 (a := a) (b := b) (by omega) hb (by omega) hD
  refine ⟨C', _, e, ?_⟩
  have zz : nt_2 a (b + 1) (d2 D a b) := by
    intro x y hxy hy hc
    by_cases e : x = a ∧ y = b
    · rw [e.1, e.2]; exact z2_d2 (by omega)
    · have := h6 x y hxy hy (by omega)
      have := z2_le (a := x) (b := y) (D := D) (D' := d2 D a b) (fun x y => d2_le x y)
      omega
  by_cases hz : z2 D a b = 0
  · rw [d2_0 hz] at r1 zz
    rw [hz, show nI (2 * 0) = 0 from rfl, Int32.add_zero]
    exact ⟨M, fuel, D, r1, h2, h3, by omega, h5, zz, fun x y hx => (f1 x y hx).trans (h7 x y hx), h8⟩
  · have hbn : b < np := by
      apply Nat.lt_of_not_le
      intro hle
      apply hz
      have := hz0 a b (Or.inr hle)
      have := h3 a b
      unfold z2; omega
    obtain ⟨M', e', r', f'⟩ := nets_2 h2 (by rw [h8 _ _ (by omega)]; exact h02) hnp hD hab hbn (fun x y hxy hy hc => h6 x y hxy (by omega) hc) hz
    obtain ⟨fu, rfl⟩ : ∃ fu, fuel = fu + 1 := ⟨fuel - 1, by omega⟩
    rw [ntL_go e' (fun q => hz ((pu_rle0 (by omega) (by omega) (z2_lt hD)).mp q))] at h5
    exact ⟨M', fu, d2 D a b, r1, r', fun x y => Nat.le_trans (d2_le x y) (h3 x y), by omega, h5, zz, fun x y hx => (f1 x y hx).trans (h7 x y hx), fun x y hx => (f' x y hx).trans (h8 x y hx)⟩
theorem nt_s3 {R0 : Option (ps_S × Int32)} {C0 M0 C : ps_S} {D0 : Nat → Nat → Nat} {n : Nat} {v w : Int32} (hD0 : ∀ x y, D0 x y < 2 ^ 29) (hz0 : ∀ p q, (np ≤ p ∨ np ≤ q) → D0 p q = 0) (h02 : M0 80 2 = nI np) (hnp : np ≤ 16) (h : nt_I np R0 C0 M0 D0 n (nt_3 a b c) C (v + w)) (hn : n < 10000) (hab : a < b) (hb : b < 16) (hac : a < c) (hc : c < 16) (hcb : c ≠ b) : ∃ C' w', f_X2_lessenThrees_L7 (nI a) (nI b) C w (nI c) = some (.inl (C', w', nI (c + 1))) ∧ nt_I np R0 C0 M0 D0 (n + 1) (nt_3 a b (c + 1)) C' (v + w') := by
  obtain ⟨M, fuel, D, h1, h2, h3, h4, h5, ⟨h60, h6⟩, h7, h8⟩ := h
  have hD : ∀ x y, D x y < 2 ^ 29 := fun x y => Nat.lt_of_le_of_lt (h3 x y) (hD0 x y)
  obtain ⟨C', e, r1, f1⟩ := cn_three h1 (a := a) (b := b) (c := c) (by omega) hb hc (by omega) (by omega) (by omega) hD w
  refine ⟨C', _, e, ?_⟩
  have zz : nt_3 a b (c + 1) (d3 D a b c) := by
    refine ⟨fun x y hxy hy hq => ?_, fun x y t hxy hxt hy ht hty hq => ?_⟩
    · have := h60 x y hxy hy hq
      have := z2_le (a := x) (b := y) (D := D) (D' := d3 D a b c) (fun x y => d3_le x y)
      omega
    · by_cases e : x = a ∧ y = b ∧ t = c
      · rw [e.1, e.2.1, e.2.2]; exact z3_d3 (by omega) (by omega) (by omega)
      · have := h6 x y t hxy hxt hy ht hty (by omega)
        have := z3_le (a := x) (b := y) (c := t) (D := D) (D' := d3 D a b c) (fun x y => d3_le x y)
        omega
  by_cases hz : z3 D a b c = 0
  · rw [d3_0 hz] at r1 zz
    rw [hz, show nI (3 * 0) = 0 from rfl, Int32.add_zero]
    exact ⟨M, fuel, D, r1, h2, h3, by omega, h5, zz, fun x y hx => (f1 x y hx).trans (h7 x y hx), h8⟩
  · have hbn : b < np ∧ c < np := by
      constructor
      · apply Nat.lt_of_not_le
        intro hle
        apply hz
        have := hz0 a b (Or.inr hle)
        have := h3 a b
        unfold z3; omega
      · apply Nat.lt_of_not_le
        intro hle
        apply hz
        have := hz0 b c (Or.inr hle)
        have := h3 b c
        unfold z3; omega
    obtain ⟨M', e', r', f'⟩ := nets_3 h2 (by rw [h8 _ _ (by omega)]; exact h02) hnp hD (fun x y hxy hy => h60 x y hxy (by omega) (by omega)) hab hbn.1 hac hbn.2 hcb (fun x y t hxy hxt hy ht hty hq => h6 x y t hxy hxt (by omega) (by omega) hty hq) hz
    obtain ⟨fu, rfl⟩ : ∃ fu, fuel = fu + 1 := ⟨fuel - 1, by omega⟩
    rw [ntL_go e' (fun q => hz ((pu_rle0 (by omega) (by omega) (z3_lt hD)).mp q)), Int32.add_assoc] at h5
    exact ⟨M', fu, d3 D a b c, r1, r', fun x y => Nat.le_trans (d3_le x y) (h3 x y), by omega, h5, zz, fun x y hx => (f1 x y hx).trans (h7 x y hx), fun x y hx => (f' x y hx).trans (h8 x y hx)⟩
theorem sim_net {D0 : Nat → Nat → Nat} {C : ps_S} (hC : rd_C D0 C) (hM : rd_M D0 M) (hD0 : ∀ x y, D0 x y < 2 ^ 29) (hz0 : ∀ p q, (np ≤ p ∨ np ≤ q) → D0 p q = 0) (h02 : M 80 2 = nI np) (hnp : np ≤ 16) : ∃ C' v M' D', f_X2_lessenRings C = some (v, C') ∧ f_X11_net M = some (v, M') ∧ rd_C D' C' ∧ rd_M D' M' ∧ (∀ x y, D' x y ≤ D0 x y) ∧ (∀ x y, x < 38 ∨ 54 ≤ x → C' x y = C x y) ∧ ∀ x y, x ≠ 101 → M' x y = ps_up M 80 0 0 x y := by
  have h02' : ps_up M 80 0 0 80 2 = nI np := by rw [pu_up_i (by omega)]; exact h02
  obtain ⟨M0, hM0⟩ : ∃ M0, M0 = ps_up M 80 0 0 := ⟨_, rfl⟩
  rw [← hM0] at h02' ⊢
  have hMr : rd_M D0 M0 := fun p q hp hq => by rw [hM0, pu_up_k (by omega)]; exact hM p q hp hq
  have st : nt_I np (ntL ps_fu M0 0) C M0 D0 0 (nt_2 0 1) C 0 := ⟨M0, ps_fu, D0, hC, hMr, fun _ _ => Nat.le_refl _, by unfold ps_fu; omega, rfl, fun x y h1 h2 h3 => by omega, fun _ _ _ => rfl, fun _ _ _ => rfl⟩
  -- the pairs
  have p1 := pu_ind0 (step := fun (a : ps_S × Int32 × Int32) => f_X2_lessenRings_L4 a.1 a.2.1 a.2.2) (a := (C, 0, 0))
    (fun j a => a.2.2 = nI j ∧ nt_I np (ntL ps_fu M0 0) C M0 D0 (16 * j) (nt_2 j (j + 1)) a.1 a.2.1)
    (fun b => nt_I np (ntL ps_fu M0 0) C M0 D0 256 (nt_2 16 0) b.1 b.2) 16 (by omega) ⟨rfl, st⟩ ?_ ?_
  · obtain ⟨⟨C1, v1⟩, e1, i1⟩ := p1
    dsimp only at i1
    have p2 := pu_ind0 (step := fun (a : ps_S × Int32 × Int32) => f_X2_lessenRings_L43 a.1 a.2.1 a.2.2) (a := (C1, v1, 0))
      (fun j a => a.2.2 = nI j ∧ nt_I np (ntL ps_fu M0 0) C M0 D0 (300 + 256 * j) (nt_3 j (j + 1) (j + 1)) a.1 a.2.1)
      (fun b => nt_I np (ntL ps_fu M0 0) C M0 D0 6000 (nt_3 16 0 0) b.1 b.2) 16 (by omega) ⟨rfl, nt_mono i1 (by omega) (fun D h => ⟨h, fun x y t h1 h2 h3 h4 h5 h6 => by omega⟩)⟩ ?_ ?_
    · obtain ⟨⟨C2, v2⟩, e2, i2⟩ := p2
      obtain ⟨M2, fuel, D2, h1, h2, h3, h4, h5, ⟨h60, h6⟩, h7, h8⟩ := i2
      dsimp only at h1 h5 h7
      have hD : ∀ x y, D2 x y < 2 ^ 29 := fun x y => Nat.lt_of_le_of_lt (h3 x y) (hD0 x y)
      have en := nets_0 h2 (by rw [h8 _ _ (by omega)]; exact h02') hnp hD (fun a b h1 h2 => h60 a b h1 (by omega) (by omega)) (fun a b c g1 g2 g3 g4 g5 => h6 a b c g1 g3 (by omega) (by omega) g5 (by omega))
      obtain ⟨fu, rfl⟩ : ∃ fu, fuel = fu + 1 := ⟨fuel - 1, by omega⟩
      rw [ntL_end en] at h5
      refine ⟨C2, v2, M2, D2, ?_, ?_, h1, h2, h3, h7, h8⟩
      · unfold f_X2_lessenRings
        rw [pu_b2 e1, pu_b2 e2]
      · unfold f_X11_net
        rw [← hM0]
        have : ps_b2 (f_X11_nets M0) (fun r8 S8 => ps_b2 (ps_it (fun (a : ps_S × Int32 × Int32) => f_X11_net_L12 a.1 a.2.1 a.2.2) ps_fu (S8, 0, r8)) (fun S12 e1_12 => some (e1_12, S12))) = ps_b2 (ntL ps_fu M0 0) (fun S12 e1_12 => some (e1_12, S12)) := by
          unfold ntL
          cases f_X11_nets M0 with
          | none => rfl
          | some q => rfl
        rw [this, pu_b2 h5]
    · rintro j ⟨T, v, i⟩ hj ⟨hi, hI⟩
      dsimp only at hi hI ⊢
      subst hi
      unfold f_X2_lessenRings_L43
      rw [if_neg (by rw [pu_i16]; exact nI_ge hj (by omega)), nI_1]
      have hq := pu_ind (step := fun (a : ps_S × Int32 × Int32) => f_X2_lessenRings_L53 (nI j) a.1 a.2.1 a.2.2)
        (fun k a => j < k ∧ a.2.2 = nI k ∧ nt_I np (ntL ps_fu M0 0) C M0 D0 (300 + 256 * j + 16 * (k - (j + 1))) (nt_3 j k (j + 1)) a.1 a.2.1)
        (fun b => nt_I np (ntL ps_fu M0 0) C M0 D0 (300 + 256 * (j + 1)) (nt_3 (j + 1) (j + 1 + 1) (j + 1 + 1)) b.1 b.2) 16 ?_ ?_ (16 - (j + 1)) (j + 1) (T, v, nI (j + 1)) (by omega) ⟨by omega, rfl, nt_mono hI (by omega) (fun D h => h)⟩ ps_fu (by unfold ps_fu; omega)
      · obtain ⟨⟨T1, v1'⟩, e3, i3⟩ := hq
        rw [pu_b2 e3]
        exact ⟨_, rfl, rfl, i3⟩
      · rintro k ⟨U, u, i⟩ hk ⟨hkj, hi, hI⟩
        dsimp only at hi hI ⊢
        subst hi
        unfold f_X2_lessenRings_L53
        rw [if_neg (by rw [pu_i16]; exact nI_ge hk (by omega))]
        have hq := pu_ind (step := fun (a : ps_S × Int32 × Int32) => f_X2_lessenThrees_L7 (nI j) (nI k) a.1 a.2.1 a.2.2)
          (fun c a => j < c ∧ a.2.2 = nI c ∧ nt_I np (ntL ps_fu M0 0) C M0 D0 (300 + 256 * j + 16 * (k - (j + 1)) + (c - (j + 1))) (nt_3 j k c) a.1 (u + a.2.1))
          (fun b => nt_I np (ntL ps_fu M0 0) C M0 D0 (300 + 256 * j + 16 * (k + 1 - (j + 1))) (nt_3 j (k + 1) (j + 1)) b.1 (u + b.2)) 16 ?_ ?_ (16 - (j + 1)) (j + 1) (U, 0, nI (j + 1)) (by omega) ⟨by omega, rfl, by dsimp only; rw [Int32.add_zero]; exact nt_mono hI (by omega) (fun D h => h)⟩ ps_fu (by unfold ps_fu; omega)
        · obtain ⟨⟨U1, w1⟩, e4, i4⟩ := hq
          unfold f_X2_lessenThrees
          rw [nI_1, pu_b2 e4, pu_b2 rfl, nI_1]
          exact ⟨_, rfl, by omega, rfl, i4⟩
        · rintro c ⟨V, w, i⟩ hc ⟨hcj, hi, hI⟩
          dsimp only at hi hI ⊢
          subst hi
          by_cases hck : c = k
          · subst hck
            unfold f_X2_lessenThrees_L7 f_X2_lessenThrees_J84
            rw [if_neg (by rw [pu_i16]; exact nI_ge hc (by omega)), if_pos rfl, nI_1]
            exact ⟨_, rfl, by omega, rfl, nt_mono hI (by omega) (fun D h => ⟨h.1, fun x y t h1 h2 h3 h4 h5 h6 => h.2 x y t h1 h2 h3 h4 h5 (by omega)⟩)⟩
          · obtain ⟨V', w', e5, i5⟩ := nt_s3 hD0 hz0 h02' hnp hI (by omega) hkj hk hcj hc hck
            exact ⟨_, e5, by omega, rfl, nt_mono i5 (by omega) (fun D h => h)⟩
        · rintro ⟨V, w, i⟩ ⟨hcj, hi, hI⟩
          dsimp only at hi hI ⊢
          subst hi
          refine ⟨(V, w), ?_, nt_mono hI (by omega) (fun D h => ⟨h.1, fun x y t h1 h2 h3 h4 h5 h6 => h.2 x y t h1 h2 h3 h4 h5 (by omega)⟩)⟩
          unfold f_X2_lessenThrees_L7
          rw [if_pos (by decide)]
      · rintro ⟨U, u, i⟩ ⟨hkj, hi, hI⟩
        dsimp only at hi hI ⊢
        subst hi
        refine ⟨(U, u), ?_, nt_mono hI (by omega) (fun D h => ⟨h.1, fun x y t h1 h2 h3 h4 h5 h6 => h.2 x y t h1 h2 h3 h4 h5 (by omega)⟩)⟩
        unfold f_X2_lessenRings_L53
        rw [if_pos (by decide)]
    · rintro ⟨U, u, i⟩ ⟨hi, hI⟩
      dsimp only at hi hI ⊢
      subst hi
      refine ⟨(U, u), ?_, nt_mono hI (by omega) (fun D h => ⟨h.1, fun x y t h1 h2 h3 h4 h5 h6 => h.2 x y t h1 h2 h3 h4 h5 (by omega)⟩)⟩
      unfold f_X2_lessenRings_L43
      rw [if_pos (by decide)]
  · rintro j ⟨T, v, i⟩ hj ⟨hi, hI⟩
    dsimp only at hi hI ⊢
    subst hi
    unfold f_X2_lessenRings_L4
    rw [if_neg (by rw [pu_i16]; exact nI_ge hj (by omega)), nI_1]
    have hq := pu_ind (step := fun (a : ps_S × Int32 × Int32) => f_X2_lessenRings_L14 (nI j) a.1 a.2.1 a.2.2)
      (fun k a => j < k ∧ a.2.2 = nI k ∧ nt_I np (ntL ps_fu M0 0) C M0 D0 (16 * j + (k - (j + 1))) (nt_2 j k) a.1 a.2.1)
      (fun b => nt_I np (ntL ps_fu M0 0) C M0 D0 (16 * (j + 1)) (nt_2 (j + 1) (j + 1 + 1)) b.1 b.2) 16 ?_ ?_ (16 - (j + 1)) (j + 1) (T, v, nI (j + 1)) (by omega) ⟨by omega, rfl, nt_mono hI (by omega) (fun D h => h)⟩ ps_fu (by unfold ps_fu; omega)
    · obtain ⟨⟨T1, v1'⟩, e3, i3⟩ := hq
      rw [pu_b2 e3]
      exact ⟨_, rfl, rfl, i3⟩
    · rintro k ⟨U, u, i⟩ hk ⟨hjk, hi, hI⟩
      dsimp only at hi hI ⊢
      subst hi
      unfold f_X2_lessenRings_L14
      rw [if_neg (by rw [pu_i16]; exact nI_ge hk (by omega))]
      obtain ⟨U', r, e5, i5⟩ := nt_s2 hD0 hz0 h02' hnp hI (by omega) hjk hk
      rw [pu_b2 e5, nI_1]
      exact ⟨_, rfl, by omega, rfl, nt_mono i5 (by omega) (fun D h => h)⟩
    · rintro ⟨U, u, i⟩ ⟨hjk, hi, hI⟩
      dsimp only at hi hI ⊢
      subst hi
      refine ⟨(U, u), ?_, nt_mono hI (by omega) (fun D h x y h1 h2 h3 => h x y h1 h2 (by omega))⟩
      unfold f_X2_lessenRings_L14
      rw [if_pos (by decide)]
  · rintro ⟨U, u, i⟩ ⟨hi, hI⟩
    dsimp only at hi hI ⊢
    subst hi
    refine ⟨(U, u), ?_, nt_mono hI (by omega) (fun D h x y h1 h2 h3 => h x y h1 h2 (by omega))⟩
    unfold f_X2_lessenRings_L4
    rw [if_pos (by decide)]
end
